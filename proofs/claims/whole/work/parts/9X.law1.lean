/-! PURE PART: an account of a law's text -/
def rb {α β : Type} (x : Er ⊕ α) (f : α → Er ⊕ β) : Er ⊕ β := match x with
  | .inl r => .inl r
  | .inr v => f v
theorem rb_r {α β : Type} {x : Er ⊕ α} {f : α → Er ⊕ β} {u : β} (h : rb x f = .inr u) : ∃ v, x = .inr v ∧ f v = .inr u := by
  cases x with
  | inl r => cases h
  | inr v => exact ⟨v, rfl, h⟩
def ocO {β : Type} (x : Option Nat) (a : β) (f : Nat → β) : β := match x with
  | none => a
  | some j => f j
-- the codes of known words
def cdL (k : Nat) : Nat → List Nat → Nat → Nat
  | _, [], _ => 0
  | f, t :: _, 0 => wcK k f t
  | _, t :: l, i + 1 => cdL k (t + 1) l i
def wl1 : List Nat := [4, 11, 16, 23, 27, 32, 38, 43, 49, 54]
def wl2 : List Nat := [4, 9, 14, 19, 25]
theorem wIx_s {k : Nat} {b : Nat → Nat} {s e y : Nat} (hb : ∀ c, s ≤ c → c < e → 97 ≤ b c ∧ b c ≤ 122) : ∀ (l : List Nat) (x f : Nat), sgO k f l → wIx k b s e x f l = some y → ∃ i, y = x + i ∧ i < l.length ∧ wcM b s e = nn (cdL k f l i)
  | [], x, f, _, h => by unfold wIx at h; cases h
  | t :: l, x, f, H, h => by
    obtain ⟨-, -, h6, hc, -, h7⟩ := H
    unfold wIx at h
    by_cases q : samP k b s e f t
    · rw [if_pos q] at h
      cases h
      exact ⟨0, rfl, Nat.succ_pos _, (wc_lk h6 hc hb).1 q⟩
    · rw [if_neg q] at h
      obtain ⟨i, h1, h2, h3⟩ := wIx_s hb l (x + 1) (t + 1) h7 h
      exact ⟨i + 1, by omega, Nat.succ_lt_succ h2, h3⟩
theorem wIx_n {k : Nat} {b : Nat → Nat} {s e : Nat} (hb : ∀ c, s ≤ c → c < e → 97 ≤ b c ∧ b c ≤ 122) : ∀ (l : List Nat) (x f : Nat), sgO k f l → wIx k b s e x f l = none → ∀ i, i < l.length → ¬ wcM b s e = nn (cdL k f l i)
  | [], x, f, _, _ => fun i hi => absurd hi (Nat.not_lt_zero _)
  | t :: l, x, f, H, h => by
    obtain ⟨-, -, h6, hc, -, h7⟩ := H
    unfold wIx at h
    by_cases q : samP k b s e f t
    · rw [if_pos q] at h
      cases h
    · rw [if_neg q] at h
      intro i hi
      cases i with
      | zero => exact fun z => q ((wc_lk h6 hc hb).2 z)
      | succ i => exact wIx_n hb l (x + 1) (t + 1) h7 h i (Nat.lt_of_succ_lt_succ hi)
theorem cd_1 : ∀ i, i < 10 → ¬ nn 0 = nn (cdL 1 0 wl1 i) ∧ ∀ j, j < 10 → (nn (cdL 1 0 wl1 i) = nn (cdL 1 0 wl1 j) → i = j) := by decide +kernel
theorem cd_2 : ∀ i, i < 5 → ¬ nn 0 = nn (cdL 2 0 wl2 i) ∧ ∀ j, j < 5 → (nn (cdL 2 0 wl2 i) = nn (cdL 2 0 wl2 j) → i = j) := by decide +kernel
section WDC
variable {b : Nat → Nat} {n p k : Nat} {l : List Nat}
/-- a known word by the model's number of it -/
theorem wd_c (hl : sgO k 0 l) (hd : ∀ i, i < l.length → ¬ nn 0 = nn (cdL k 0 l i) ∧ ∀ j, j < l.length → (nn (cdL k 0 l i) = nn (cdL k 0 l j) → i = j)) {v : Nat × Nat} (h : wdR b n k l p = .inr v) : v.1 < l.length ∧ v.2 = wE b n (sk b n p) ∧ sk b n p < v.2 ∧ ∀ i, i < l.length → (wcM b (sk b n p) (wE b n (sk b n p)) = nn (cdL k 0 l i)) = (v.1 = i) := by
  have hb : ∀ c, sk b n p ≤ c → c < wE b n (sk b n p) → 97 ≤ b c ∧ b c ≤ 122 := fun c h1 h2 => wE_in h1 h2
  unfold wdR at h
  cases q : wIx k b (sk b n p) (wE b n (sk b n p)) 0 0 l with
  | none => rw [q] at h; cases h
  | some y =>
    rw [q] at h
    cases h
    obtain ⟨i, h1, h2, h3⟩ := wIx_s hb l 0 0 hl q
    have h1 : y = i := by omega
    subst h1
    refine ⟨h2, rfl, ?_, fun j hj => ?_⟩
    · show sk b n p < wE b n (sk b n p)
      refine Nat.lt_of_not_le fun z => ?_
      have e : wcM b (sk b n p) (wE b n (sk b n p)) = nn 0 := by
        unfold wcM
        rw [show wE b n (sk b n p) - sk b n p = 0 by omega, if_pos (by decide)]
        rfl
      rw [e] at h3
      exact (hd y h2).1 h3
    · show _ = (y = j)
      rw [h3]
      exact propext ⟨fun z => (hd y h2).2 j hj z, fun z => by rw [z]⟩
theorem wd_n (hl : sgO k 0 l) {r : Er} (h : wdR b n k l p = .inl r) : r = (1, sk b n p) ∧ ∀ i, i < l.length → (wcM b (sk b n p) (wE b n (sk b n p)) = nn (cdL k 0 l i)) = False := by
  have hb : ∀ c, sk b n p ≤ c → c < wE b n (sk b n p) → 97 ≤ b c ∧ b c ≤ 122 := fun c h1 h2 => wE_in h1 h2
  unfold wdR at h
  cases q : wIx k b (sk b n p) (wE b n (sk b n p)) 0 0 l with
  | some y => rw [q] at h; cases h
  | none =>
    rw [q] at h
    cases h
    exact ⟨rfl, fun i hi => eq_false (wIx_n hb l 0 0 hl q i hi)⟩
/-- no word where no small letter stands -/
theorem wd_0 (hp : p ≤ n) (hd : ∀ i, i < l.length → ¬ nn 0 = nn (cdL k 0 l i)) (h : ¬ (sk b n p < n ∧ 97 ≤ b (sk b n p) ∧ b (sk b n p) ≤ 122)) : ∀ i, i < l.length → (wcM b (sk b n p) (wE b n (sk b n p)) = nn (cdL k 0 l i)) = False := by
  have g := sk_ge (b := b) hp
  have g' := wE_ge (b := b) g.2
  have e0 : wE b n (sk b n p) = sk b n p := by
    refine Nat.le_antisymm (Nat.le_of_not_lt fun z => h ⟨by omega, wE_in (Nat.le_refl _) z⟩) g'.1
  have e : wcM b (sk b n p) (wE b n (sk b n p)) = nn 0 := by
    unfold wcM
    rw [e0, Nat.sub_self, if_pos (by decide)]
    rfl
  intro i hi
  rw [e]
  exact eq_false (hd i hi)
end WDC
abbrev LR : Type := Er ⊕ (Nat × Lw)
def lwA (L : Lw) (q : Nat × Nat) : Lw := (L.1 + 1, fun k => if k = L.1 then q else L.2 k)
abbrev sgP (b : Nat → Nat) (n x p : Nat) : Prop := sk b n p < n ∧ b (sk b n p) = x
abbrev dgP (b : Nat → Nat) (n p : Nat) : Prop := sk b n p < n ∧ 48 ≤ b (sk b n p) ∧ b (sk b n p) ≤ 57
def jsR (b : Nat → Nat) (n p : Nat) : Option Nat := if sgP b n 43 p then some 2 else if sgP b n 45 p then some 3 else none
def jpR (b : Nat → Nat) (n p : Nat) : Option Nat := if sgP b n 42 p then some 4 else if sgP b n 47 p then some 5 else if sgP b n 37 p then some 6 else none
def loR (b : Nat → Nat) (n : Nat) (sub : Nat → Lw → LR) (js : Nat → Option Nat) : Nat → Nat → Lw → LR
  | 0, p, L => .inr (p, L)
  | d + 1, p, L => ocO (js p) (.inr (p, L)) fun j => rb (sub (sk b n p + 1) L) fun u => loR b n sub js d u.1 (lwA u.2 (j, 0))
theorem lo_s {b : Nat → Nat} {n : Nat} {sub : Nat → Lw → LR} {js : Nat → Option Nat} {d p j : Nat} {L : Lw} (h : js p = some j) : loR b n sub js (d + 1) p L = rb (sub (sk b n p + 1) L) fun u => loR b n sub js d u.1 (lwA u.2 (j, 0)) := by
  rw [loR, h]
  rfl
theorem lo_n {b : Nat → Nat} {n : Nat} {sub : Nat → Lw → LR} {js : Nat → Option Nat} {d p : Nat} {L : Lw} (h : js p = none) : loR b n sub js (d + 1) p L = .inr (p, L) := by
  rw [loR, h]
  rfl
def cmR (b : Nat → Nat) (n : Nat) (sub : Nat → Lw → LR) (js : Nat → Option Nat) (p : Nat) (L : Lw) : LR := rb (sub p L) fun u => loR b n sub js 150 u.1 u.2
def brR (rc : Nat → Nat → Lw → LR) (b : Nat → Nat) (n o p : Nat) (L : Lw) : LR := if 6 ≤ o then .inl (3, sk b n p) else rb (rc (o + 1) (sk b n p + 1) L) fun u => rb (sgR b n 41 u.1) fun t => .inr (t, u.2)
def paR (rc : Nat → Nat → Lw → LR) (b : Nat → Nat) (n o s y p : Nat) (L : Lw) : LR := if 6 ≤ o then .inl (3, s) else rb (sgR b n 91 p) fun t => rb (rc (o + 1) t L) fun u => rb (sgR b n 44 u.1) fun t => rb (rc (o + 1) t u.2) fun v => rb (sgR b n 93 v.1) fun t => .inr (t, lwA v.2 (y, 0))
def unR (rc : Nat → Nat → Lw → LR) (b : Nat → Nat) (n o p : Nat) (L : Lw) : LR := if dgP b n p then rb (nuR b n 1000 p) (fun v => .inr (v.2, lwA L (0, v.1))) else if sgP b n 40 p then brR rc b n o p L else rb (wdR b n 1 wl1 p) fun v => if v.1 < 8 then .inr (v.2, lwA L (1, v.1)) else paR rc b n o (sk b n p) (v.1 - 1) v.2 L
def suR (b : Nat → Nat) (n : Nat) : Nat → Nat → Nat → Lw → LR
  | 0, _, _, _ => .inl (1, 0)
  | D + 1, o, p, L => cmR b n (cmR b n (unR (suR b n D) b n o) (jpR b n)) (jsR b n) p L
-- heights
def ht (f : Nat → Nat × Nat) : Nat → Nat
  | 0 => 0
  | k + 1 => if (f k).1 < 2 then ht f k + 1 else ht f k - 1
theorem ht_cg {f g : Nat → Nat × Nat} : ∀ m, (∀ k, k < m → g k = f k) → ht g m = ht f m
  | 0, _ => rfl
  | m + 1, h => by
    have e := ht_cg m fun k hk => h k (by omega)
    unfold ht
    rw [e, h m (by omega)]
def SG (m : Nat) (f : Nat → Nat × Nat) (a c : Nat) : Prop := a ≤ c ∧ ht f c = ht f a + 1 ∧ ∀ k, a ≤ k → k < c → ((f k).1 ≤ 8 ∧ ((f k).1 = 0 → (f k).2 ≤ 999) ∧ ((f k).1 = 1 → (f k).2 < 8)) ∧ ((f k).1 < 2 → ht f k < ht f a + m) ∧ (2 ≤ (f k).1 → ht f a + 2 ≤ ht f k)
section SEG
variable {m m2 a c d : Nat} {f g : Nat → Nat × Nat}
theorem SG.mono (H : SG m2 f a c) (h : m2 ≤ m) : SG m f a c := by
  obtain ⟨h1, h2, h3⟩ := H
  refine ⟨h1, h2, fun k k1 k2 => ?_⟩
  obtain ⟨x, y, z⟩ := h3 k k1 k2
  exact ⟨x, fun q => by have := y q; omega, z⟩
theorem SG.cg (H : SG m f a c) (h : ∀ k, k < c → g k = f k) : SG m g a c := by
  obtain ⟨h1, h2, h3⟩ := H
  have e : ∀ k, k ≤ c → ht g k = ht f k := fun k hk => ht_cg k fun j hj => h j (by omega)
  refine ⟨h1, by rw [e c (Nat.le_refl _), e a h1]; exact h2, fun k k1 k2 => ?_⟩
  rw [h k k2, e k (by omega), e a h1]
  exact h3 k k1 k2
theorem SG.one (hm : 1 ≤ m) (h : (f a).1 = 0 ∧ (f a).2 ≤ 999 ∨ (f a).1 = 1 ∧ (f a).2 < 8) : SG m f a (a + 1) := by
  refine ⟨Nat.le_succ _, ?_, fun k k1 k2 => ?_⟩
  · show (if (f a).1 < 2 then ht f a + 1 else ht f a - 1) = _
    rw [if_pos (by omega)]
  · have : k = a := by omega
    subst this
    omega
theorem SG.join (H : SG m f a c) (H2 : SG m2 f c d) (hm : m2 + 1 ≤ m) (h2 : 2 ≤ (f d).1) (h8 : (f d).1 ≤ 8) : SG m f a (d + 1) := by
  obtain ⟨x1, x2, x3⟩ := H
  obtain ⟨y1, y2, y3⟩ := H2
  refine ⟨by omega, ?_, fun k k1 k2 => ?_⟩
  · show (if (f d).1 < 2 then ht f d + 1 else ht f d - 1) = _
    rw [if_neg (by omega)]
    omega
  · by_cases q : k < c
    · exact x3 k k1 q
    · by_cases q' : k < d
      · obtain ⟨u, v, t⟩ := y3 k (by omega) q'
        exact ⟨u, fun z => by have := v z; omega, fun z => by have := t z; omega⟩
      · have : k = d := by omega
        subst this
        exact ⟨⟨h8, fun z => by omega, fun z => by omega⟩, fun z => by omega, fun _ => by omega⟩
end SEG
/-- what a piece of a law adds -/
def EX (m n p : Nat) (L : Lw) (u : Nat × Lw) : Prop := p < u.1 ∧ u.1 ≤ n ∧ L.1 ≤ u.2.1 ∧ u.2.1 + p ≤ L.1 + u.1 ∧ (∀ k, k < L.1 → u.2.2 k = L.2 k) ∧ SG m u.2.2 L.1 u.2.1
theorem lwA_k {L : Lw} {q : Nat × Nat} {k : Nat} (h : k < L.1) : (lwA L q).2 k = L.2 k := if_neg (by omega)
theorem lwA_e {L : Lw} {q : Nat × Nat} : (lwA L q).2 L.1 = q := if_pos rfl
theorem nuR_q {b : Nat → Nat} {n m p : Nat} {v : Nat × Nat} (hp : p ≤ n) (h : nuR b n m p = .inr v) : p < v.2 := by
  have g := sk_ge (b := b) hp
  unfold nuR at h
  by_cases q : sk b n p < gE b n (sk b n p) ∧ nuV b n (sk b n p) < m
  · rw [if_pos q] at h
    cases h
    show p < gE b n (sk b n p)
    omega
  · rw [if_neg q] at h
    cases h
theorem sgR_q {b : Nat → Nat} {n x p t : Nat} (hp : p ≤ n) (h : sgR b n x p = .inr t) : p < t ∧ t ≤ n := by
  have g := sk_ge (b := b) hp
  unfold sgR at h
  by_cases q : sk b n p < n ∧ b (sk b n p) = x
  · rw [if_pos q] at h
    cases h
    omega
  · rw [if_neg q] at h
    cases h
section BND
variable {b : Nat → Nat} {n m m2 : Nat} {sub : Nat → Lw → LR} {js : Nat → Option Nat}
theorem lo_EX (hs : ∀ p L u, p ≤ n → sub p L = .inr u → EX m2 n p L u) (hm : m2 + 1 ≤ m) (hj : ∀ p j, js p = some j → 2 ≤ j ∧ j ≤ 8 ∧ sk b n p < n) {p0 : Nat} {L0 : Lw} : ∀ d p L u, EX m n p0 L0 (p, L) → loR b n sub js d p L = .inr u → EX m n p0 L0 u := by
  intro d
  induction d with
  | zero =>
    intro p L u H h
    cases h
    exact H
  | succ d ih =>
    intro p L u H h
    cases q : js p with
    | none =>
      rw [lo_n q] at h
      cases h
      exact H
    | some j =>
      rw [lo_s q] at h
      obtain ⟨v, h1, h2⟩ := rb_r h
      obtain ⟨j2, j8, jn⟩ := hj p j q
      obtain ⟨x1, x2, x3, x4, x5, x6⟩ := H
      have x1 : p0 < p := x1
      have x2 : p ≤ n := x2
      have x3 : L0.1 ≤ L.1 := x3
      have x4 : L.1 + p0 ≤ L0.1 + p := x4
      have g := sk_ge (b := b) x2
      obtain ⟨y1, y2, y3, y4, y5, y6⟩ := hs _ _ _ (by omega) h1
      refine ih v.1 (lwA v.2 (j, 0)) u ⟨by show p0 < v.1; omega, y2, by show L0.1 ≤ v.2.1 + 1; omega, by show v.2.1 + 1 + p0 ≤ L0.1 + v.1; omega, fun k hk => ?_, ?_⟩ h2
      · show (lwA v.2 (j, 0)).2 k = _
        rw [lwA_k (by omega), y5 k (by omega)]
        exact x5 k hk
      · show SG m (lwA v.2 (j, 0)).2 L0.1 (v.2.1 + 1)
        refine SG.join (c := L.1) (x6.cg fun k hk => ?_) (y6.cg fun k hk => lwA_k hk) hm ?_ ?_
        · have hk : k < L.1 := hk
          rw [lwA_k (by omega)]
          exact y5 k hk
        · rw [lwA_e]; exact j2
        · rw [lwA_e]; exact j8
theorem cm_EX (hs : ∀ p L u, p ≤ n → sub p L = .inr u → EX m2 n p L u) (hj : ∀ p j, js p = some j → 2 ≤ j ∧ j ≤ 8 ∧ sk b n p < n) : ∀ p L u, p ≤ n → cmR b n sub js p L = .inr u → EX (m2 + 1) n p L u := by
  intro p L u hp h
  obtain ⟨v, h1, h2⟩ := rb_r h
  obtain ⟨y1, y2, y3, y4, y5, y6⟩ := hs p L v hp h1
  exact lo_EX hs (Nat.le_refl _) hj 150 v.1 v.2 u ⟨y1, y2, y3, y4, y5, y6.mono (Nat.le_succ _)⟩ h2
theorem jp_b : ∀ p j, jpR b n p = some j → 2 ≤ j ∧ j ≤ 8 ∧ sk b n p < n := by
  intro p j h
  unfold jpR at h
  by_cases q : sgP b n 42 p
  · rw [if_pos q] at h; cases h; exact ⟨by decide, by decide, q.1⟩
  · rw [if_neg q] at h
    by_cases q : sgP b n 47 p
    · rw [if_pos q] at h; cases h; exact ⟨by decide, by decide, q.1⟩
    · rw [if_neg q] at h
      by_cases q : sgP b n 37 p
      · rw [if_pos q] at h; cases h; exact ⟨by decide, by decide, q.1⟩
      · rw [if_neg q] at h; cases h
theorem js_b : ∀ p j, jsR b n p = some j → 2 ≤ j ∧ j ≤ 8 ∧ sk b n p < n := by
  intro p j h
  unfold jsR at h
  by_cases q : sgP b n 43 p
  · rw [if_pos q] at h; cases h; exact ⟨by decide, by decide, q.1⟩
  · rw [if_neg q] at h
    by_cases q : sgP b n 45 p
    · rw [if_pos q] at h; cases h; exact ⟨by decide, by decide, q.1⟩
    · rw [if_neg q] at h; cases h
theorem un_EX {rc : Nat → Nat → Lw → LR} {o : Nat} (hr : o < 6 → ∀ p L u, p ≤ n → rc (o + 1) p L = .inr u → EX (3 * (6 - (o + 1)) + 3) n p L u) : ∀ p L u, p ≤ n → unR rc b n o p L = .inr u → EX (3 * (6 - o) + 1) n p L u := by
  intro p L u hp h
  have g := sk_ge (b := b) hp
  unfold unR at h
  by_cases q : dgP b n p
  · rw [if_pos q] at h
    obtain ⟨v, h1, h2⟩ := rb_r h
    have b1 := nuR_b hp h1
    have b2 := nuR_q hp h1
    cases h2
    exact ⟨b2, b1.2, Nat.le_succ _, by show L.1 + 1 + p ≤ L.1 + v.2; omega, fun k hk => lwA_k hk, SG.one (by omega) (by rw [lwA_e]; exact Or.inl ⟨rfl, by show v.1 ≤ 999; omega⟩)⟩
  rw [if_neg q] at h
  by_cases q : sgP b n 40 p
  · rw [if_pos q] at h
    unfold brR at h
    by_cases ho : 6 ≤ o
    · rw [if_pos ho] at h; cases h
    rw [if_neg ho] at h
    obtain ⟨v, h1, h2⟩ := rb_r h
    obtain ⟨t, h3, h4⟩ := rb_r h2
    obtain ⟨y1, y2, y3, y4, y5, y6⟩ := hr (by omega) _ _ _ (by have := q.1; omega) h1
    obtain ⟨t1, t2⟩ := sgR_q y2 h3
    cases h4
    exact ⟨by show p < t; omega, t2, y3, by show v.2.1 + p ≤ L.1 + t; omega, y5, y6.mono (by omega)⟩
  rw [if_neg q] at h
  obtain ⟨v, h1, h2⟩ := rb_r h
  obtain ⟨w1, w2, w3, -⟩ := wd_c (b := b) (n := n) (p := p) sg_1 cd_1 h1
  have w4 := wdR_n hp h1
  by_cases q8 : v.1 < 8
  · rw [if_pos q8] at h2
    cases h2
    exact ⟨by show p < v.2; omega, w4, Nat.le_succ _, by show L.1 + 1 + p ≤ L.1 + v.2; omega, fun k hk => lwA_k hk, SG.one (by omega) (by rw [lwA_e]; exact Or.inr ⟨rfl, q8⟩)⟩
  rw [if_neg q8] at h2
  have v10 : v.1 < 10 := w1
  unfold paR at h2
  by_cases ho : 6 ≤ o
  · rw [if_pos ho] at h2; cases h2
  rw [if_neg ho] at h2
  obtain ⟨t1, e1, h2⟩ := rb_r h2
  obtain ⟨u1, e2, h2⟩ := rb_r h2
  obtain ⟨t2, e3, h2⟩ := rb_r h2
  obtain ⟨u2, e4, h2⟩ := rb_r h2
  obtain ⟨t3, e5, h2⟩ := rb_r h2
  obtain ⟨s1, s2⟩ := sgR_q w4 e1
  obtain ⟨y1, y2, y3, y4, y5, y6⟩ := hr (by omega) _ _ _ s2 e2
  obtain ⟨s3, s4⟩ := sgR_q y2 e3
  obtain ⟨z1, z2, z3, z4, z5, z6⟩ := hr (by omega) _ _ _ s4 e4
  obtain ⟨s5, s6⟩ := sgR_q z2 e5
  cases h2
  refine ⟨by show p < t3; omega, s6, by show L.1 ≤ u2.2.1 + 1; omega, by show u2.2.1 + 1 + p ≤ L.1 + t3; omega, fun k hk => ?_, ?_⟩
  · show (lwA u2.2 (v.1 - 1, 0)).2 k = _
    rw [lwA_k (by omega), z5 k (by omega)]
    exact y5 k hk
  · show SG _ (lwA u2.2 (v.1 - 1, 0)).2 L.1 (u2.2.1 + 1)
    refine SG.join (c := u1.2.1) (m2 := 3 * (6 - (o + 1)) + 3) ((y6.mono (by omega)).cg fun k hk => ?_) (z6.cg fun k hk => lwA_k hk) (by omega) ?_ ?_
    · rw [lwA_k (by omega)]
      exact z5 k hk
    · rw [lwA_e]; show 2 ≤ v.1 - 1; omega
    · rw [lwA_e]; show v.1 - 1 ≤ 8; omega
theorem su_EX : ∀ D o, o ≤ 6 → ∀ p L u, p ≤ n → suR b n D o p L = .inr u → EX (3 * (6 - o) + 3) n p L u
  | 0, o, _, p, L, u, _, h => by cases h
  | D + 1, o, ho, p, L, u, hp, h => by
    unfold suR at h
    exact cm_EX (cm_EX (un_EX (fun q => su_EX D (o + 1) (by omega))) jp_b) js_b p L u hp h
theorem pr_EX {D o : Nat} (ho : o ≤ 6) : ∀ p L u, p ≤ n → cmR b n (unR (suR b n D) b n o) (jpR b n) p L = .inr u → EX (3 * (6 - o) + 2) n p L u := cm_EX (un_EX (fun q => su_EX D (o + 1) (by omega))) jp_b
theorem uu_EX {D o : Nat} (ho : o ≤ 6) : ∀ p L u, p ≤ n → unR (suR b n D) b n o p L = .inr u → EX (3 * (6 - o) + 1) n p L u := un_EX (fun q => su_EX D (o + 1) (by omega))
end BND
