/-! PURE PART: an account of a work's text -/
abbrev Rc : Type := Nat × Nat × Nat × Nat × Nat
def rK (q : Rc) : Nat := q.1
def rA (q : Rc) : Nat := q.2.1
def rB (q : Rc) : Nat := q.2.2.1
def rH (q : Rc) : Nat := q.2.2.2.1
def rE (q : Rc) : Nat := q.2.2.2.2
abbrev WU : Type := Nat × Nat × (Nat → Rc)
abbrev WR : Type := Er ⊕ WU
def upF (f : Nat → Rc) (s : Nat) (q : Rc) : Nat → Rc := fun k => if k = s then q else f k
theorem upF_s {f : Nat → Rc} {s : Nat} {q : Rc} : upF f s q s = q := if_pos rfl
theorem upF_n {f : Nat → Rc} {s k : Nat} {q : Rc} (h : k ≠ s) : upF f s q k = f k := if_neg h
theorem rb_as {α β γ : Type} (x : Er ⊕ α) (f : α → Er ⊕ β) (g : β → Er ⊕ γ) : rb (rb x f) g = rb x fun v => rb (f v) g := by
  cases x <;> rfl
def nmR (b : Nat → Nat) (n z y p : Nat) : Er ⊕ (Nat × Nat × Nat × Nat) := if y = 0 then rb (nuR b n z p) (fun v => rb (nuR b n z v.2) fun u => rb (nuR b n 6 u.2) fun t => .inr (t.2, v.1, u.1, t.1)) else if y = 1 then rb (nuR b n z p) (fun v => rb (nuR b n 10 v.2) fun u => .inr (u.2, v.1, u.1, 0)) else if y = 2 then rb (nuR b n 6 p) (fun v => .inr (v.2, 0, 0, v.1)) else .inr (p, 0, 0, 0)
def smR (b : Nat → Nat) (n z y p c : Nat) (f : Nat → Rc) : WR := rb (nmR b n z y p) fun v => .inr (v.1, c + 1, upF f c (y, v.2.1, v.2.2.1, v.2.2.2, c + 1))
def agR (rc : Nat → Nat → Nat → (Nat → Rc) → WR) (b : Nat → Nat) (n o p c : Nat) (f : Nat → Rc) : WR := rb (nuR b n 31 p) fun v => rb (sgR b n 91 v.2) fun t => rb (rc (o + 1) t (c + 1) f) fun u => rb (sgR b n 93 u.1) fun t => .inr (t, u.2.1, upF u.2.2 c (4, v.1, 0, 0, u.2.1))
def enR (b : Nat → Nat) (n : Nat) (u : WU) : WR := rb (sgR b n 59 u.1) fun t => .inr (t, u.2)
def spR (rc : Nat → Nat → Nat → (Nat → Rc) → WR) (b : Nat → Nat) (n z o p c : Nat) (f : Nat → Rc) : WR := rb (wdR b n 2 wl2 p) fun v => if v.1 = 4 then (if 6 ≤ o then .inl (3, sk b n p) else rb (agR rc b n o v.2 c f) (enR b n)) else rb (smR b n z v.1 v.2 c f) (enR b n)
abbrev enP (b : Nat → Nat) (n o p : Nat) : Prop := (o = 0 ∧ ¬ sk b n p < n) ∨ (0 < o ∧ sgP b n 93 p)
def ssR (rc : Nat → Nat → Nat → (Nat → Rc) → WR) (b : Nat → Nat) (n z o : Nat) : Nat → Nat → Nat → (Nat → Rc) → WR
  | 0, _, _, _ => .inl (1, 0)
  | d + 1, p, c, f => if enP b n o p then .inr (p, c, f) else rb (spR rc b n z o p c f) fun u => ssR rc b n z o d u.1 u.2.1 u.2.2
def wkR (b : Nat → Nat) (n z : Nat) : Nat → Nat → Nat → Nat → (Nat → Rc) → WR
  | 0, _, _, _, _ => .inl (1, 0)
  | D + 1, o, p, c, f => ssR (wkR b n z D) b n z o 31 p c f
-- bounds
def nuOK (z : Nat) (q : Rc) : Prop := (rK q = 0 → rA q < z ∧ rB q < z ∧ rH q < 6) ∧ (rK q = 1 → rA q < z ∧ rB q ≤ 9) ∧ (rK q = 2 → rH q < 6)
def WFS (z : Nat) (f : Nat → Rc) : Nat → Nat → Nat → Nat → Prop
  | 0, _, a, c => a = c
  | m + 1, o, a, c => a = c ∨ (a < rE (f a) ∧ rE (f a) ≤ c ∧ ((rK (f a) < 4 ∧ rE (f a) = a + 1 ∧ nuOK z (f a)) ∨ (rK (f a) = 4 ∧ o < 6 ∧ rA (f a) ≤ 30 ∧ WFS z f m (o + 1) (a + 1) (rE (f a)))) ∧ WFS z f m o (rE (f a)) c)
theorem WFS.le {z : Nat} {f : Nat → Rc} : ∀ m o a c, WFS z f m o a c → a ≤ c
  | 0, o, a, c, h => Nat.le_of_eq h
  | m + 1, o, a, c, h => by
    rcases h with h | ⟨h1, h2, -⟩
    · exact Nat.le_of_eq h
    · omega
theorem WFS.mono {z : Nat} {f : Nat → Rc} : ∀ m o a c, WFS z f m o a c → WFS z f (m + 1) o a c
  | 0, o, a, c, h => Or.inl h
  | m + 1, o, a, c, h => by
    rcases h with h | ⟨h1, h2, h3, h4⟩
    · exact Or.inl h
    · refine Or.inr ⟨h1, h2, ?_, WFS.mono m _ _ _ h4⟩
      rcases h3 with h3 | ⟨x, y, t, h3⟩
      · exact Or.inl h3
      · exact Or.inr ⟨x, y, t, WFS.mono m _ _ _ h3⟩
theorem WFS.up {z : Nat} {f : Nat → Rc} {m o a c : Nat} (h : WFS z f m o a c) : ∀ d, WFS z f (m + d) o a c
  | 0 => h
  | d + 1 => WFS.mono _ _ _ _ (WFS.up h d)
theorem WFS.cg {z : Nat} {f g : Nat → Rc} : ∀ m o a c, (∀ k, a ≤ k → k < c → g k = f k) → WFS z f m o a c → WFS z g m o a c
  | 0, o, a, c, _, h => h
  | m + 1, o, a, c, e, h => by
    rcases h with h | ⟨h1, h2, h3, h4⟩
    · exact Or.inl h
    · have ea := e a (Nat.le_refl _) (by omega)
      refine Or.inr ?_
      rw [ea]
      refine ⟨h1, h2, ?_, WFS.cg m _ _ _ (fun k k1 k2 => e k (by omega) k2) h4⟩
      rcases h3 with h3 | ⟨x, y, t, h3⟩
      · exact Or.inl h3
      · exact Or.inr ⟨x, y, t, WFS.cg m _ _ _ (fun k k1 k2 => e k (by omega) (by omega)) h3⟩
/-- one step from c to c' -/
def SP (z o : Nat) (f : Nat → Rc) (c c' : Nat) : Prop := rE (f c) = c' ∧ c < c' ∧ ((rK (f c) < 4 ∧ c' = c + 1 ∧ nuOK z (f c)) ∨ (rK (f c) = 4 ∧ o < 6 ∧ rA (f c) ≤ 30 ∧ ∃ m, WFS z f m (o + 1) (c + 1) c'))
theorem SP.cg {z o c c' : Nat} {f g : Nat → Rc} (e : ∀ k, c ≤ k → k < c' → g k = f k) (H : SP z o f c c') : SP z o g c c' := by
  obtain ⟨h1, h2, h3⟩ := H
  have ec := e c (Nat.le_refl _) h2
  unfold SP
  rw [ec]
  refine ⟨h1, h2, ?_⟩
  rcases h3 with h3 | ⟨x, y, t, m, h3⟩
  · exact Or.inl h3
  · exact Or.inr ⟨x, y, t, m, h3.cg m _ _ _ fun k k1 k2 => e k (by omega) k2⟩
theorem SP.cons {z o c c' c2 m : Nat} {f : Nat → Rc} (H : SP z o f c c') (h : WFS z f m o c' c2) : ∃ m', WFS z f m' o c c2 := by
  obtain ⟨h1, h2, h3⟩ := H
  have l := h.le
  rcases h3 with ⟨x, y, t⟩ | ⟨x, y, t, m1, h3⟩
  · refine ⟨m + 1, Or.inr ?_⟩
    rw [h1]
    exact ⟨h2, l, Or.inl ⟨x, y, t⟩, h⟩
  · refine ⟨m1 + m + 1, Or.inr ?_⟩
    rw [h1]
    refine ⟨h2, l, Or.inr ⟨x, y, t, h3.up m⟩, ?_⟩
    rw [Nat.add_comm]
    exact h.up m1
def WX (x n p c : Nat) (f : Nat → Rc) (u : WU) : Prop := p + x ≤ u.1 ∧ u.1 ≤ n ∧ c ≤ u.2.1 ∧ 5 * u.2.1 + p ≤ 5 * c + u.1 ∧ ∀ k, k < c → u.2.2 k = f k
theorem cd_2b : ∀ i, i < 5 → 19683 ≤ cdL 2 0 wl2 i ∧ cdL 2 0 wl2 i < 2147483648 := by decide +kernel
section WBND
variable {b : Nat → Nat} {n z : Nat}
theorem wd_4 {p : Nat} {v : Nat × Nat} (h : wdR b n 2 wl2 p = .inr v) : sk b n p + 4 ≤ v.2 ∧ v.1 < 5 := by
  obtain ⟨h1, h2, h3, h4⟩ := wd_c (b := b) (n := n) (p := p) (l := wl2) sg_2 cd_2 h
  have h1 : v.1 < 5 := h1
  have e : wcM b (sk b n p) (wE b n (sk b n p)) = nn (cdL 2 0 wl2 v.1) := by rw [h4 v.1 h1]
  obtain ⟨c1, c2⟩ := cd_2b v.1 h1
  refine ⟨?_, h1⟩
  rw [h2] at h3 ⊢
  refine Nat.le_of_not_lt fun q => ?_
  unfold wcM at e
  rw [if_pos (by omega)] at e
  have hd : ∀ i, i < wE b n (sk b n p) - sk b n p → b (sk b n p + i) - 96 ≤ 26 := fun i hi => by
    have := wE_in (b := b) (n := n) (s := sk b n p) (c := sk b n p + i) (by omega) (by omega)
    omega
  have c3 := cod_b (g := fun i => b (sk b n p + i) - 96) (wE b n (sk b n p) - sk b n p) hd
  have c4 : 27 ^ (wE b n (sk b n p) - sk b n p) ≤ 27 ^ 3 := Nat.pow_le_pow_right (by decide) (by omega)
  have c5 : (27 : Nat) ^ 3 = 19683 := by decide
  rw [nn_eq (by omega) c2] at e
  omega
theorem nm_b {y p : Nat} {v : Nat × Nat × Nat × Nat} (hp : p ≤ n) (h : nmR b n z y p = .inr v) : p ≤ v.1 ∧ v.1 ≤ n ∧ (y = 0 → v.2.1 < z ∧ v.2.2.1 < z ∧ v.2.2.2 < 6) ∧ (y = 1 → v.2.1 < z ∧ v.2.2.1 ≤ 9) ∧ (y = 2 → v.2.2.2 < 6) := by
  unfold nmR at h
  by_cases q0 : y = 0
  · rw [if_pos q0] at h
    obtain ⟨v1, e1, h⟩ := rb_r h
    obtain ⟨v2, e2, h⟩ := rb_r h
    obtain ⟨v3, e3, h⟩ := rb_r h
    cases h
    have a1 := nuR_b hp e1
    have b1 := nuR_q hp e1
    have a2 := nuR_b a1.2 e2
    have b2 := nuR_q a1.2 e2
    have a3 := nuR_b a2.2 e3
    have b3 := nuR_q a2.2 e3
    exact ⟨by show p ≤ v3.2; omega, a3.2, fun _ => ⟨a1.1, a2.1, a3.1⟩, fun q => by omega, fun q => by omega⟩
  rw [if_neg q0] at h
  by_cases q1 : y = 1
  · rw [if_pos q1] at h
    obtain ⟨v1, e1, h⟩ := rb_r h
    obtain ⟨v2, e2, h⟩ := rb_r h
    cases h
    have a1 := nuR_b hp e1
    have b1 := nuR_q hp e1
    have a2 := nuR_b a1.2 e2
    have b2 := nuR_q a1.2 e2
    exact ⟨by show p ≤ v2.2; omega, a2.2, fun q => by omega, fun _ => ⟨a1.1, by show v2.1 ≤ 9; omega⟩, fun q => by omega⟩
  rw [if_neg q1] at h
  by_cases q2 : y = 2
  · rw [if_pos q2] at h
    obtain ⟨v1, e1, h⟩ := rb_r h
    cases h
    have a1 := nuR_b hp e1
    have b1 := nuR_q hp e1
    exact ⟨by show p ≤ v1.2; omega, a1.2, fun q => by omega, fun q => by omega, fun _ => a1.1⟩
  · rw [if_neg q2] at h
    cases h
    exact ⟨Nat.le_refl _, hp, fun q => by omega, fun q => by omega, fun q => by omega⟩
theorem sp_X {rc : Nat → Nat → Nat → (Nat → Rc) → WR} {o : Nat} (hr : o < 6 → ∀ p c f u, p ≤ n → rc (o + 1) p c f = .inr u → WX 0 n p c f u ∧ ∃ m, WFS z u.2.2 m (o + 1) c u.2.1) : ∀ p c f u, p ≤ n → spR rc b n z o p c f = .inr u → WX 5 n p c f u ∧ SP z o u.2.2 c u.2.1 := by
  intro p c f u hp h
  have g := sk_ge (b := b) hp
  obtain ⟨v, h1, h2⟩ := rb_r h
  obtain ⟨w4, v5⟩ := wd_4 h1
  have wn := wdR_n hp h1
  by_cases q : v.1 = 4
  · rw [if_pos q] at h2
    by_cases ho : 6 ≤ o
    · rw [if_pos ho] at h2; cases h2
    rw [if_neg ho] at h2
    obtain ⟨x, h3, h4⟩ := rb_r h2
    obtain ⟨a, e1, h3⟩ := rb_r h3
    obtain ⟨t, e2, h3⟩ := rb_r h3
    obtain ⟨y, e3, h3⟩ := rb_r h3
    obtain ⟨t2, e4, h3⟩ := rb_r h3
    obtain ⟨t3, e5, h4⟩ := rb_r h4
    cases h3
    cases h4
    have a1 := nuR_b wn e1
    have a2 := nuR_q wn e1
    obtain ⟨s1, s2⟩ := sgR_q a1.2 e2
    obtain ⟨⟨y1, y2, y3, y4, y5⟩, m, y6⟩ := hr (by omega) _ _ _ _ s2 e3
    obtain ⟨s3, s4⟩ := sgR_q y2 e4
    have e5 : sgR b n 59 t2 = .inr t3 := e5
    obtain ⟨s5, s6⟩ := sgR_q s4 e5
    refine ⟨⟨by show p + 5 ≤ t3; omega, s6, by show c ≤ y.2.1; omega, by show 5 * y.2.1 + p ≤ 5 * c + t3; omega, fun k hk => ?_⟩, ?_⟩
    · show upF y.2.2 c _ k = _
      rw [upF_n (by omega)]
      exact y5 k (by omega)
    · show SP z o (upF y.2.2 c (4, a.1, 0, 0, y.2.1)) c y.2.1
      unfold SP
      rw [upF_s]
      refine ⟨rfl, by omega, Or.inr ⟨rfl, by omega, by show a.1 ≤ 30; omega, m, y6.cg m _ _ _ fun k k1 k2 => upF_n (by omega)⟩⟩
  · rw [if_neg q] at h2
    obtain ⟨x, h3, h4⟩ := rb_r h2
    obtain ⟨a, e1, h3⟩ := rb_r h3
    obtain ⟨t3, e5, h4⟩ := rb_r h4
    cases h3
    cases h4
    obtain ⟨n1, n2, n3, n4, n5⟩ := nm_b wn e1
    have e5 : sgR b n 59 a.1 = .inr t3 := e5
    obtain ⟨s5, s6⟩ := sgR_q n2 e5
    refine ⟨⟨by show p + 5 ≤ t3; omega, s6, by show c ≤ c + 1; omega, by show 5 * (c + 1) + p ≤ 5 * c + t3; omega, fun k hk => upF_n (by omega)⟩, ?_⟩
    show SP z o (upF f c (v.1, a.2.1, a.2.2.1, a.2.2.2, c + 1)) c (c + 1)
    unfold SP
    rw [upF_s]
    exact ⟨rfl, by omega, Or.inl ⟨by show v.1 < 4; omega, rfl, n3, n4, n5⟩⟩
theorem ss_X {rc : Nat → Nat → Nat → (Nat → Rc) → WR} {o : Nat} (hs : ∀ p c f u, p ≤ n → spR rc b n z o p c f = .inr u → WX 5 n p c f u ∧ SP z o u.2.2 c u.2.1) : ∀ d p c f u, p ≤ n → ssR rc b n z o d p c f = .inr u → WX 0 n p c f u ∧ ∃ m, WFS z u.2.2 m o c u.2.1 := by
  intro d
  induction d with
  | zero => intro p c f u hp h; cases h
  | succ d ih =>
    intro p c f u hp h
    unfold ssR at h
    by_cases q : enP b n o p
    · rw [if_pos q] at h
      cases h
      exact ⟨⟨Nat.le_refl _, hp, Nat.le_refl _, Nat.le_refl _, fun _ _ => rfl⟩, 0, rfl⟩
    · rw [if_neg q] at h
      obtain ⟨v, h1, h2⟩ := rb_r h
      obtain ⟨⟨x1, x2, x3, x4, x5⟩, x6⟩ := hs p c f v hp h1
      obtain ⟨⟨y1, y2, y3, y4, y5⟩, m, y6⟩ := ih v.1 v.2.1 v.2.2 u x2 h2
      exact ⟨⟨by omega, y2, by omega, by omega, fun k hk => (y5 k (by omega)).trans (x5 k hk)⟩, (x6.cg fun k k1 k2 => y5 k k2).cons y6⟩
theorem wk_X : ∀ D o, ∀ p c f u, p ≤ n → wkR b n z D o p c f = .inr u → WX 0 n p c f u ∧ ∃ m, WFS z u.2.2 m o c u.2.1
  | 0, o, p, c, f, u, _, h => by cases h
  | D + 1, o, p, c, f, u, hp, h => by
    unfold wkR at h
    exact ss_X (sp_X (fun _ => wk_X D (o + 1))) 31 p c f u hp h
theorem ws_X {D o : Nat} : ∀ p c f u, p ≤ n → spR (wkR b n z D) b n z o p c f = .inr u → WX 5 n p c f u ∧ SP z o u.2.2 c u.2.1 := sp_X (fun _ => wk_X D (o + 1))
end WBND
