/-! PURE PART, BASE: counts as Int32, states, loops -/
abbrev nn (k : Nat) : Int32 := nI k
theorem nn_int {k : Nat} (h : k < 2147483648) : (nn k).toInt = (k : Int) := Int32.toInt_ofNat_of_lt h
theorem nn_cl {k : Nat} (h : k < 2147483648) : (nn k).toNatClampNeg = k := Int32.toNatClampNeg_ofNat_of_lt h
theorem nn_le {a b : Nat} (ha : a < 2147483648) (hb : b < 2147483648) : (nn a ≤ nn b) = (a ≤ b) := by
  rw [Int32.le_iff_toInt_le, nn_int ha, nn_int hb]
  exact propext Int.ofNat_le
theorem nn_lt {a b : Nat} (ha : a < 2147483648) (hb : b < 2147483648) : (nn a < nn b) = (a < b) := by
  rw [Int32.lt_iff_toInt_lt, nn_int ha, nn_int hb]
  exact propext Int.ofNat_lt
theorem nn_eq {a b : Nat} (ha : a < 2147483648) (hb : b < 2147483648) : (nn a = nn b) = (a = b) := by
  rw [← Int32.toInt_inj, nn_int ha, nn_int hb]
  exact propext Int.ofNat_inj
theorem nn_add (a b : Nat) : nn a + nn b = nn (a + b) := nI_add a b
theorem nn_succ (a : Nat) : nn a + 1 = nn (a + 1) := nn_add a 1
theorem nn_mul (a b : Nat) : nn a * nn b = nn (a * b) := by
  refine Int32.toBitVec_inj.1 ?_
  show (Int32.ofNat a * Int32.ofNat b).toBitVec = (Int32.ofNat (a * b)).toBitVec
  simp
theorem nn_sub {a b : Nat} (h : b ≤ a) : nn a - nn b = nn (a - b) := by
  have h1 : nn (a - b) + nn b = nn a := by rw [nn_add, Nat.sub_add_cancel h]
  rw [← h1, Int32.add_sub_cancel]
theorem nn_pred {a : Nat} (h : 1 ≤ a) : nn a - 1 = nn (a - 1) := nn_sub h
theorem nn_nneg {a : Nat} (h : a < 2147483648) : ¬ nn a < 0 := by
  have h1 : (nn a < nn 0) = (a < 0) := nn_lt h (by decide)
  rw [show (0 : Int32) = nn 0 from rfl, h1]
  omega
theorem nn_of {x : Int32} (h : ¬ x < 0) : ∃ k, k < 2147483648 ∧ x = nn k := nI_of h
theorem nn_inN {k m : Nat} (h : k < m) (hm : m < 2147483648) : inN (nn k) m = true := by
  unfold inN
  rw [nn_cl (Nat.lt_trans h hm)]
  have := nn_nneg (a := k) (Nat.lt_trans h hm)
  simp only [decide_eq_true_eq, not_or]
  exact ⟨this, by omega⟩
theorem nn_ne_neg {a : Nat} (h : a < 2147483648) : nn a ≠ -1 := by
  intro e
  have h1 := congrArg Int32.toInt e
  rw [nn_int h] at h1
  have h2 : (-1 : Int32).toInt = -1 := by decide
  rw [h2] at h1
  omega
-- a state: the world w (cells made, slots made, shapes, references), whole numbers, longs
abbrev Wd : Type := Nat × Nat × (Nat → Shp) × (Nat → Nat → Option Nat)
abbrev Is : Type := Nat → Nat → Int32
abbrev Js : Type := Nat → Nat → Int64
def st (w : Wd) (I : Is) (J : Js) : PS := (w.1, w.2.1, MM w.2.2.1 I J w.2.2.2)
def Sw (w : Wd) : Prop := 526 ≤ w.1 ∧ (∀ a, a < 526 → w.2.2.1 a = shT a) ∧ ∀ p ∈ rPairs, w.2.2.2 p.1 p.2 = some (rT p.1 p.2)
theorem bd_st {α β : Type} {m : Mo α} {f : α → Mo β} {σ σ' : PS} {x : α} (h : m σ = some (.inl x, σ')) : bd m f σ = f x σ' := by
  rw [bd_eq, h]
theorem it_ap {α : Type} {c : Prop} {dc : Decidable c} {A B : Mo α} {σ : PS} : (@ite _ c dc A B) σ = @ite _ c dc (A σ) (B σ) := by
  by_cases h : c
  · rw [if_pos h, if_pos h]
  · rw [if_neg h, if_neg h]
theorem pu_ap {α : Type} {x : α} {σ : PS} : pu x σ = some (.inl x, σ) := rfl
theorem rz0 {σ : PS} : rz 0 σ = some (.inl 0, σ) := by simp [rz, pu]
theorem rz1 {σ : PS} : rz 1 σ = some (.inl 1, σ) := by simp [rz, pu]
section BASE
variable {w : Wd} {I : Is} {J : Js}
theorem b_gI {c k a : Nat} (S : Sw w) (h : cI c k a 0 = true) : gI c k a (st w I J) = some (.inl (I a k), st w I J) := by
  obtain ⟨h1, ks, h2, h3⟩ := cI_spec h
  exact m_gI (Nat.lt_of_lt_of_le (Nat.lt_succ_of_lt h1) S.1) ((S.2.1 a (Nat.lt_succ_of_lt h1)).trans h2) h3
theorem b_gJ {c k a : Nat} (S : Sw w) (h : cI c k a 1 = true) : gJ c k a (st w I J) = some (.inl (J a k), st w I J) := by
  obtain ⟨h1, ks, h2, h3⟩ := cI_spec h
  exact m_gJ (Nat.lt_of_lt_of_le (Nat.lt_succ_of_lt h1) S.1) ((S.2.1 a (Nat.lt_succ_of_lt h1)).trans h2) h3
theorem b_gR {c k a : Nat} (S : Sw w) (h : cI c k a 2 = true) (hq : (a, k) ∈ rPairs) : gR c k a (st w I J) = some (.inl (rT a k), st w I J) := by
  obtain ⟨h1, ks, h2, h3⟩ := cI_spec h
  exact m_gR (Nat.lt_of_lt_of_le (Nat.lt_succ_of_lt h1) S.1) ((S.2.1 a (Nat.lt_succ_of_lt h1)).trans h2) h3 (S.2.2 (a, k) hq)
theorem b_gN {c k a : Nat} (S : Sw w) (h : cI c k a 2 = true) : gN c k a (st w I J) = some (.inl (w.2.2.2 a k), st w I J) := by
  obtain ⟨h1, ks, h2, h3⟩ := cI_spec h
  exact m_gN (Nat.lt_of_lt_of_le (Nat.lt_succ_of_lt h1) S.1) ((S.2.1 a (Nat.lt_succ_of_lt h1)).trans h2) h3
theorem b_pfI {c k a : Nat} {v : Int32} (S : Sw w) (h : cI c k a 0 = true) : pf c k a (.int v) (st w I J) = some (.inl (), st w (up2 I a k v) J) := by
  obtain ⟨h1, ks, h2, h3⟩ := cI_spec h
  exact m_pfI (Nat.lt_of_lt_of_le (Nat.lt_succ_of_lt h1) S.1) ((S.2.1 a (Nat.lt_succ_of_lt h1)).trans h2) h3
theorem b_pfJ {c k a : Nat} {v : Int64} (S : Sw w) (h : cI c k a 1 = true) : pf c k a (.long v) (st w I J) = some (.inl (), st w I (up2 J a k v)) := by
  obtain ⟨h1, ks, h2, h3⟩ := cI_spec h
  exact m_pfJ (Nat.lt_of_lt_of_le (Nat.lt_succ_of_lt h1) S.1) ((S.2.1 a (Nat.lt_succ_of_lt h1)).trans h2) h3
theorem b_cv {α : Type} {c a kd : Nat} {F : Mo α} (S : Sw w) (h : cI c 0 a kd = true) : cv c a F (st w I J) = F (st w I J) := by
  obtain ⟨h1, ks, h2, -⟩ := cI_spec h
  exact m_cv (Nat.lt_of_lt_of_le (Nat.lt_succ_of_lt h1) S.1) ((S.2.1 a (Nat.lt_succ_of_lt h1)).trans h2)
theorem b_al {t a : Nat} (m : Nat) {k : Nat} (S : Sw w) (ha : a < 526) (h : shT a = .inl (t, m, 0)) (hm : m < 2147483648) (hk : k < m) : al t a (nn k) (st w I J) = some (.inl (I a k), st w I J) := by
  have e := m_al (n := w.1) (q := w.2.1) (I := I) (J := J) (R := w.2.2.2) (Nat.lt_of_lt_of_le ha S.1) ((S.2.1 a ha).trans h) (nn_inN hk hm)
  rw [nn_cl (Nat.lt_trans hk hm)] at e
  exact e
theorem b_as {a : Nat} (m : Nat) {k : Nat} {v : Int32} (S : Sw w) (ha : a < 526) (h : shT a = .inl (0, m, 0)) (hm : m < 2147483648) (hk : k < m) : as_ a (nn k) v (st w I J) = some (.inl (), st w (up2 I a k v) J) := by
  have e := m_as (n := w.1) (q := w.2.1) (I := I) (J := J) (R := w.2.2.2) (v := v) (Nat.lt_of_lt_of_le ha S.1) ((S.2.1 a ha).trans h) (nn_inN hk hm)
  rw [nn_cl (Nat.lt_trans hk hm)] at e
  exact e
theorem b_bs {a : Nat} (m : Nat) {k : Nat} {v : Int32} (S : Sw w) (ha : a < 526) (h : shT a = .inl (1, m, 0)) (hm : m < 2147483648) (hk : k < m) : bs_ a (nn k) v (st w I J) = some (.inl (), st w (up2 I a k (vp_nar .byte v)) J) := by
  have e := m_bs (n := w.1) (q := w.2.1) (I := I) (J := J) (R := w.2.2.2) (v := v) (Nat.lt_of_lt_of_le ha S.1) ((S.2.1 a ha).trans h) (nn_inN hk hm)
  rw [nn_cl (Nat.lt_trans hk hm)] at e
  exact e
theorem b_len {t a m : Nat} (S : Sw w) (ha : a < 526) (h : shT a = .inl (t, m, 0)) (ht : t < 5) : aLen a (st w I J) = some (.inl (nn m), st w I J) :=
  m_len (n := w.1) (q := w.2.1) (I := I) (J := J) (R := w.2.2.2) (Nat.lt_of_lt_of_le ha S.1) ((S.2.1 a ha).trans h) ht
theorem b_aR {t a : Nat} (m : Nat) {k : Nat} (S : Sw w) (ha : a < 526) (h : shT a = .inl (t, m, 2)) (hm : m < 2147483648) (hk : k < m) (hp : (a, k) ∈ rPairs) : aR t a (nn k) (st w I J) = some (.inl (rT a k), st w I J) := by
  refine m_aR (n := w.1) (q := w.2.1) (I := I) (J := J) (R := w.2.2.2) (Nat.lt_of_lt_of_le ha S.1) ((S.2.1 a ha).trans h) (nn_inN hk hm) ?_
  rw [nn_cl (Nat.lt_trans hk hm)]
  exact S.2.2 (a, k) hp
end BASE
-- loops
def lp {α : Type} (f : Nat → α → α) : Nat → Nat → α → α
  | 0, _, x => x
  | d + 1, i, x => lp f d (i + 1) (f i x)
/-- a loop over i, i + 1 .. below e, with an invariant -/
theorem loopP {α β : Type} (B : Nat → Nat → α → β) (e : Nat) (P : Nat → α → Prop) (f : Nat → α → α) (ex : α → β)
    (hs : ∀ N i x, i < e → P i x → B (N + 1) i x = B N (i + 1) (f i x) ∧ P (i + 1) (f i x)) (he : ∀ N x, P e x → B (N + 1) e x = ex x) :
    ∀ d i x N, i + d = e → d < N → P i x → B N i x = ex (lp f d i x) ∧ P e (lp f d i x) := by
  intro d
  induction d with
  | zero =>
    intro i x N hi hN hP
    obtain ⟨N, rfl⟩ : ∃ M, N = M + 1 := ⟨N - 1, by omega⟩
    have : i = e := by omega
    subst this
    exact ⟨he N x hP, hP⟩
  | succ d ih =>
    intro i x N hi hN hP
    obtain ⟨N, rfl⟩ : ∃ M, N = M + 1 := ⟨N - 1, by omega⟩
    obtain ⟨h1, h2⟩ := hs N i x (by omega) hP
    rw [h1]
    exact ih (i + 1) (f i x) N (by omega) (by omega) h2
theorem loopL {α β : Type} (B : Nat → Nat → α → β) (e : Nat) (f : Nat → α → α) (ex : α → β)
    (hs : ∀ N i x, i < e → B (N + 1) i x = B N (i + 1) (f i x)) (he : ∀ N x, B (N + 1) e x = ex x) {N i : Nat} (x : α) (hi : i ≤ e) (hN : e - i < N) : B N i x = ex (lp f (e - i) i x) :=
  (loopP B e (fun _ _ => True) f ex (fun N i x h _ => ⟨hs N i x h, trivial⟩) (fun N x _ => he N x) (e - i) i x N (by omega) hN trivial).1
/-- a loop that may leave early -/
def lpE {α β : Type} (f : Nat → α → α ⊕ β) (ex : α → β) : Nat → Nat → α → β
  | 0, _, x => ex x
  | d + 1, i, x => match f i x with
    | .inl y => lpE f ex d (i + 1) y
    | .inr r => r
theorem loopE {α β : Type} (B : Nat → Nat → α → β) (e : Nat) (f : Nat → α → α ⊕ β) (ex : α → β)
    (hs : ∀ N i x, i < e → B (N + 1) i x = (match f i x with
      | .inl y => B N (i + 1) y
      | .inr r => r)) (he : ∀ N x, B (N + 1) e x = ex x) : ∀ {d i x N}, i + d = e → d < N → B N i x = lpE f ex d i x := by
  intro d
  induction d with
  | zero =>
    intro i x N hi hN
    obtain ⟨N, rfl⟩ : ∃ M, N = M + 1 := ⟨N - 1, by omega⟩
    have : i = e := by omega
    subst this
    exact he N x
  | succ d ih =>
    intro i x N hi hN
    obtain ⟨N, rfl⟩ : ∃ M, N = M + 1 := ⟨N - 1, by omega⟩
    rw [hs N i x (by omega)]
    unfold lpE
    cases f i x with
    | inl y => exact ih (by omega) (by omega)
    | inr r => rfl
theorem lp_congr {α : Type} {f g : Nat → α → α} : ∀ {d i : Nat} {x : α}, (∀ j y, i ≤ j → j < i + d → f j y = g j y) → lp f d i x = lp g d i x
  | 0, _, _, _ => rfl
  | d + 1, i, x, h => by
    unfold lp
    rw [h i x (Nat.le_refl i) (by omega)]
    exact lp_congr fun j y h1 h2 => h j y (by omega) (by omega)
theorem lp_end {α : Type} (f : Nat → α → α) : ∀ (d i : Nat) (x : α), lp f (d + 1) i x = f (i + d) (lp f d i x)
  | 0, _, _ => rfl
  | d + 1, i, x => by
    have h := lp_end f d (i + 1) (f i x)
    show lp f (d + 1) (i + 1) (f i x) = _
    rw [h]
    show _ = f (i + (d + 1)) (lp f d (i + 1) (f i x))
    rw [show i + 1 + d = i + (d + 1) by omega]
theorem lp_inv {α : Type} {f : Nat → α → α} (P : Nat → α → Prop) : ∀ {d i : Nat} {x : α}, P i x → (∀ j y, i ≤ j → j < i + d → P j y → P (j + 1) (f j y)) → P (i + d) (lp f d i x)
  | 0, _, _, h, _ => h
  | d + 1, i, x, h, hs => by
    have := lp_inv (f := f) P (d := d) (i := i + 1) (hs i x (Nat.le_refl i) (by omega) h) (fun j y h1 h2 => hs j y (by omega) (by omega))
    rw [show i + 1 + d = i + (d + 1) by omega] at this
    exact this
/-- cells that may differ -/
def Ag (L : List Nat) (I I' : Is) : Prop := ∀ a, a ∉ L → I' a = I a
theorem Ag.refl (L : List Nat) (I : Is) : Ag L I I := fun _ _ => rfl
theorem Ag.trans {L : List Nat} {I I' I'' : Is} (h : Ag L I I') (h' : Ag L I' I'') : Ag L I I'' := fun a ha => (h' a ha).trans (h a ha)
theorem Ag.mono {L L' : List Nat} {I I' : Is} (h : Ag L I I') (hs : ∀ a ∈ L, a ∈ L') : Ag L' I I' := fun a ha => h a fun h => ha (hs a h)
theorem Ag.up {L : List Nat} {I I' : Is} {a k : Nat} {v : Int32} (h : Ag L I I') (ha : a ∈ L) : Ag L I (up2 I' a k v) := fun b hb => by
  have hne : b ≠ a := fun e => hb (by rw [e]; exact ha)
  rw [up2_ra hne]
  exact h b hb
theorem Ag.at {L : List Nat} {I I' : Is} (h : Ag L I I') {a : Nat} (k : Nat) (ha : a ∉ L) : I' a k = I a k := congrFun (h a ha) k
