/-! PURE PART: who carries which, as numbers -/
abbrev Mp : Type := Nat → Option Nat
def c8 (f : Nat → Bool) : Nat := (f 0).toNat + (f 1).toNat + (f 2).toNat + (f 3).toNat + (f 4).toNat + (f 5).toNat + (f 6).toNat + (f 7).toNat
theorem c8_mono {f g : Nat → Bool} (h : ∀ i, i < 8 → f i = true → g i = true) : c8 f ≤ c8 g := by
  have e : ∀ i, i < 8 → (f i).toNat ≤ (g i).toNat := fun i hi => by
    cases q : f i with
    | false => exact Nat.zero_le _
    | true => rw [h i hi q]; exact Nat.le_refl _
  have e0 := e 0 (by decide)
  have e1 := e 1 (by decide)
  have e2 := e 2 (by decide)
  have e3 := e 3 (by decide)
  have e4 := e 4 (by decide)
  have e5 := e 5 (by decide)
  have e6 := e 6 (by decide)
  have e7 := e 7 (by decide)
  unfold c8
  omega
theorem c8_0 {f : Nat → Bool} (h : ∀ i, i < 8 → f i = false) : c8 f = 0 := by
  unfold c8
  rw [h 0 (by decide), h 1 (by decide), h 2 (by decide), h 3 (by decide), h 4 (by decide), h 5 (by decide), h 6 (by decide), h 7 (by decide)]
  rfl
theorem c8_cg {f g : Nat → Bool} (h : ∀ i, i < 8 → g i = f i) : c8 g = c8 f := by
  unfold c8
  rw [h 0 (by decide), h 1 (by decide), h 2 (by decide), h 3 (by decide), h 4 (by decide), h 5 (by decide), h 6 (by decide), h 7 (by decide)]
theorem c8_set {f g : Nat → Bool} {i : Nat} (hi : i < 8) (hf : f i = false) (hg : g i = true) (h : ∀ j, j < 8 → j ≠ i → g j = f j) : c8 g = c8 f + 1 := by
  have e : ∀ j, j < 8 → (g j).toNat = (f j).toNat + (if j = i then 1 else 0) := fun j hj => by
    by_cases q : j = i
    · subst q
      rw [hf, hg, if_pos rfl]
      rfl
    · rw [if_neg q, h j hj q]
      rfl
  unfold c8
  rcases (show i = 0 ∨ i = 1 ∨ i = 2 ∨ i = 3 ∨ i = 4 ∨ i = 5 ∨ i = 6 ∨ i = 7 by omega) with q | q | q | q | q | q | q | q
  · subst q
    rw [e 0 (by decide), e 1 (by decide), e 2 (by decide), e 3 (by decide), e 4 (by decide), e 5 (by decide), e 6 (by decide), e 7 (by decide)]
    simp
    omega
  · subst q
    rw [e 0 (by decide), e 1 (by decide), e 2 (by decide), e 3 (by decide), e 4 (by decide), e 5 (by decide), e 6 (by decide), e 7 (by decide)]
    simp
    omega
  · subst q
    rw [e 0 (by decide), e 1 (by decide), e 2 (by decide), e 3 (by decide), e 4 (by decide), e 5 (by decide), e 6 (by decide), e 7 (by decide)]
    simp
    omega
  · subst q
    rw [e 0 (by decide), e 1 (by decide), e 2 (by decide), e 3 (by decide), e 4 (by decide), e 5 (by decide), e 6 (by decide), e 7 (by decide)]
    simp
    omega
  · subst q
    rw [e 0 (by decide), e 1 (by decide), e 2 (by decide), e 3 (by decide), e 4 (by decide), e 5 (by decide), e 6 (by decide), e 7 (by decide)]
    simp
    omega
  · subst q
    rw [e 0 (by decide), e 1 (by decide), e 2 (by decide), e 3 (by decide), e 4 (by decide), e 5 (by decide), e 6 (by decide), e 7 (by decide)]
    simp
    omega
  · subst q
    rw [e 0 (by decide), e 1 (by decide), e 2 (by decide), e 3 (by decide), e 4 (by decide), e 5 (by decide), e 6 (by decide), e 7 (by decide)]
    simp
    omega
  · subst q
    rw [e 0 (by decide), e 1 (by decide), e 2 (by decide), e 3 (by decide), e 4 (by decide), e 5 (by decide), e 6 (by decide), e 7 (by decide)]
    simp
    omega
theorem c8_8 (f : Nat → Bool) : c8 f ≤ 8 := by
  have e : ∀ i, (f i).toNat ≤ 1 := fun i => by cases f i <;> decide
  have e0 := e 0
  have e1 := e 1
  have e2 := e 2
  have e3 := e 3
  have e4 := e 4
  have e5 := e 5
  have e6 := e 6
  have e7 := e 7
  unfold c8
  omega
def sz8 (m : Mp) : Nat := c8 fun i => (m i).isSome
def rmF (Fr : Nat → Bool) (i : Nat) : Nat → Bool := fun j => Fr j && !decide (i = j)
theorem rmF_t {Fr : Nat → Bool} {i j : Nat} : rmF Fr i j = true ↔ Fr j = true ∧ i ≠ j := by
  unfold rmF
  simp
def Mt (ma : Nat → Nat → Bool) (a c : Nat) (Fr : Nat → Bool) (m : Mp) : Prop := (∀ i, i < 8 → ∀ q, m i = some q → a ≤ q ∧ q < c ∧ ma q i = true ∧ Fr i = true) ∧ ∀ i j q, i < 8 → j < 8 → m i = some q → m j = some q → i = j
def mxO (g : Nat → Bool) (v : Nat → Nat) : Nat → Nat
  | 0 => 0
  | k + 1 => if g k = true then max (mxO g v k) (v k) else mxO g v k
theorem mxO_ge {g : Nat → Bool} {v : Nat → Nat} : ∀ k i, i < k → g i = true → v i ≤ mxO g v k
  | 0, i, h, _ => absurd h (Nat.not_lt_zero _)
  | k + 1, i, h, hg => by
    unfold mxO
    by_cases e : i = k
    · subst e
      rw [if_pos hg]
      omega
    · have := mxO_ge (g := g) (v := v) k i (by omega) hg
      split <;> omega
theorem mxO_le {g : Nat → Bool} {v : Nat → Nat} {B : Nat} : ∀ k, (∀ i, i < k → g i = true → v i ≤ B) → mxO g v k ≤ B
  | 0, _ => Nat.zero_le _
  | k + 1, h => by
    unfold mxO
    have a := mxO_le k fun i hi => h i (by omega)
    by_cases q : g k = true
    · rw [if_pos q]
      have := h k (by omega) q
      omega
    · rw [if_neg q]
      exact a
theorem mxO_at {g : Nat → Bool} {v : Nat → Nat} : ∀ k, mxO g v k = 0 ∨ ∃ i, i < k ∧ g i = true ∧ v i = mxO g v k
  | 0 => Or.inl rfl
  | k + 1 => by
    unfold mxO
    by_cases q : g k = true
    · rw [if_pos q]
      rcases Nat.le_total (mxO g v k) (v k) with l | l
      · rw [Nat.max_eq_right l]
        exact Or.inr ⟨k, Nat.lt_succ_self _, q, rfl⟩
      · rw [Nat.max_eq_left l]
        rcases mxO_at (g := g) (v := v) k with h | ⟨i, h1, h2, h3⟩
        · exact Or.inl h
        · exact Or.inr ⟨i, by omega, h2, h3⟩
    · rw [if_neg q]
      rcases mxO_at (g := g) (v := v) k with h | ⟨i, h1, h2, h3⟩
      · exact Or.inl h
      · exact Or.inr ⟨i, by omega, h2, h3⟩
/-- the most that d persons from a on can carry -/
def MXc (ma : Nat → Nat → Bool) : Nat → Nat → (Nat → Bool) → Nat
  | 0, _, _ => 0
  | d + 1, a, Fr => max (MXc ma d (a + 1) Fr) (mxO (fun i => ma a i && Fr i) (fun i => 1 + MXc ma d (a + 1) (rmF Fr i)) 8)
section MATCH
variable {ma : Nat → Nat → Bool}
theorem MXc_d : ∀ d a Fr, MXc ma d a Fr ≤ d
  | 0, _, _ => Nat.le_refl _
  | d + 1, a, Fr => by
    unfold MXc
    have h1 := MXc_d d (a + 1) Fr
    have h2 : mxO (fun i => ma a i && Fr i) (fun i => 1 + MXc ma d (a + 1) (rmF Fr i)) 8 ≤ d + 1 := mxO_le 8 fun i _ _ => by
      have := MXc_d d (a + 1) (rmF Fr i)
      show 1 + MXc ma d (a + 1) (rmF Fr i) ≤ d + 1
      omega
    omega
theorem rmF_c {Fr : Nat → Bool} {i : Nat} (hi : i < 8) (h : Fr i = true) : c8 Fr = c8 (rmF Fr i) + 1 := by
  refine c8_set hi ?_ h fun j hj hne => ?_
  · unfold rmF
    simp
  · unfold rmF
    have : decide (i = j) = false := by simp; omega
    rw [this]
    simp
theorem MXc_c : ∀ d a Fr, MXc ma d a Fr ≤ c8 Fr
  | 0, _, _ => Nat.zero_le _
  | d + 1, a, Fr => by
    unfold MXc
    have h1 := MXc_c d (a + 1) Fr
    have h2 : mxO (fun i => ma a i && Fr i) (fun i => 1 + MXc ma d (a + 1) (rmF Fr i)) 8 ≤ c8 Fr := mxO_le 8 fun i hi hg => by
      have hg : (ma a i && Fr i) = true := hg
      rw [Bool.and_eq_true] at hg
      have := MXc_c d (a + 1) (rmF Fr i)
      have e := rmF_c hi hg.2
      show 1 + MXc ma d (a + 1) (rmF Fr i) ≤ c8 Fr
      omega
    omega
theorem sz8_rm {m : Mp} {i q : Nat} (hi : i < 8) (h : m i = some q) : sz8 m = sz8 (fun j => if j = i then none else m j) + 1 := by
  unfold sz8
  refine c8_set hi ?_ ?_ fun j hj hne => ?_
  · show (if i = i then none else m i).isSome = false
    rw [if_pos rfl]
    rfl
  · show (m i).isSome = true
    rw [h]
    rfl
  · show (m j).isSome = (if j = i then none else m j).isSome
    rw [if_neg hne]
theorem sz8_ad {m : Mp} {i q : Nat} (hi : i < 8) (h : m i = none) : sz8 (fun j => if j = i then some q else m j) = sz8 m + 1 := by
  unfold sz8
  refine c8_set hi ?_ ?_ fun j hj hne => ?_
  · show (m i).isSome = false
    rw [h]
    rfl
  · show (if i = i then some q else m i).isSome = true
    rw [if_pos rfl]
    rfl
  · show (if j = i then some q else m j).isSome = (m j).isSome
    rw [if_neg hne]
theorem Mt.lo {a c : Nat} {Fr : Nat → Bool} {m : Mp} (H : Mt ma a c Fr m) (h : ∀ i, i < 8 → m i ≠ some a) : Mt ma (a + 1) c Fr m := by
  refine ⟨fun i hi q hq => ?_, H.2⟩
  obtain ⟨h1, h2, h3⟩ := H.1 i hi q hq
  have : q ≠ a := fun e => h i hi (e ▸ hq)
  exact ⟨by omega, h2, h3⟩
theorem MXc_up : ∀ d a Fr m, Mt ma a (a + d) Fr m → sz8 m ≤ MXc ma d a Fr
  | 0, a, Fr, m, H => by
    have : sz8 m = 0 := c8_0 fun i hi => by
      cases q : m i with
      | none => rfl
      | some x =>
        obtain ⟨h1, h2, -⟩ := H.1 i hi x q
        omega
    omega
  | d + 1, a, Fr, m, H => by
    unfold MXc
    have H : Mt ma a (a + 1 + d) Fr m := by rw [show a + 1 + d = a + (d + 1) by omega]; exact H
    by_cases h : ∀ i, i < 8 → m i ≠ some a
    · have := MXc_up d (a + 1) Fr m (H.lo h)
      omega
    · obtain ⟨i, hn⟩ := Classical.not_forall.mp h
      obtain ⟨hi, hn⟩ := Classical.not_imp.mp hn
      have hi2 : m i = some a := Classical.not_not.mp hn
      obtain ⟨-, -, b1, b2⟩ := H.1 i hi a hi2
      have M' : Mt ma (a + 1) (a + 1 + d) (rmF Fr i) (fun j => if j = i then none else m j) := by
        refine ⟨fun j hj q hq => ?_, fun j k q hj hk hq hq' => ?_⟩
        · by_cases e : j = i
          · simp only [if_pos e] at hq
            cases hq
          · simp only [if_neg e] at hq
            obtain ⟨h1, h2, h3, h4⟩ := H.1 j hj q hq
            have : q ≠ a := fun x => e (H.2 j i a hj hi (x ▸ hq) hi2)
            exact ⟨by omega, h2, h3, rmF_t.2 ⟨h4, fun x => e x.symm⟩⟩
        · by_cases e : j = i
          · simp only [if_pos e] at hq
            cases hq
          · by_cases e' : k = i
            · simp only [if_pos e'] at hq'
              cases hq'
            · simp only [if_neg e] at hq
              simp only [if_neg e'] at hq'
              exact H.2 j k q hj hk hq hq'
      have s1 := MXc_up d (a + 1) (rmF Fr i) _ M'
      have s2 := sz8_rm hi hi2
      have s3 := mxO_ge (g := fun i => ma a i && Fr i) (v := fun i => 1 + MXc ma d (a + 1) (rmF Fr i)) 8 i hi (by show (ma a i && Fr i) = true; rw [b1, b2]; rfl)
      have s3 : 1 + MXc ma d (a + 1) (rmF Fr i) ≤ mxO (fun i => ma a i && Fr i) (fun i => 1 + MXc ma d (a + 1) (rmF Fr i)) 8 := s3
      omega
theorem MXc_at : ∀ d a Fr, ∃ m, Mt ma a (a + d) Fr m ∧ sz8 m = MXc ma d a Fr
  | 0, a, Fr => ⟨fun _ => none, ⟨fun i hi q hq => (by cases hq), fun i j q hi hj hq => (by cases hq)⟩, c8_0 fun i hi => rfl⟩
  | d + 1, a, Fr => by
    unfold MXc
    have low : ∀ Fr, ∃ m, Mt ma (a + 1) (a + (d + 1)) Fr m ∧ sz8 m = MXc ma d (a + 1) Fr := fun Fr => by
      have := MXc_at d (a + 1) Fr
      rw [show a + 1 + d = a + (d + 1) by omega] at this
      exact this
    rcases Nat.le_total (mxO (fun i => ma a i && Fr i) (fun i => 1 + MXc ma d (a + 1) (rmF Fr i)) 8) (MXc ma d (a + 1) Fr) with l | l
    · obtain ⟨m, h1, h2⟩ := low Fr
      refine ⟨m, ⟨fun i hi q hq => ?_, h1.2⟩, by omega⟩
      obtain ⟨x1, x2, x3⟩ := h1.1 i hi q hq
      exact ⟨by omega, x2, x3⟩
    · rcases mxO_at (g := fun i => ma a i && Fr i) (v := fun i => 1 + MXc ma d (a + 1) (rmF Fr i)) 8 with h0 | ⟨i, hi, hg, hv⟩
      · obtain ⟨m, h1, h2⟩ := low Fr
        refine ⟨m, ⟨fun i hi q hq => ?_, h1.2⟩, by omega⟩
        obtain ⟨x1, x2, x3⟩ := h1.1 i hi q hq
        exact ⟨by omega, x2, x3⟩
      · have hg : (ma a i && Fr i) = true := hg
        rw [Bool.and_eq_true] at hg
        have hv : 1 + MXc ma d (a + 1) (rmF Fr i) = _ := hv
        obtain ⟨m, h1, h2⟩ := low (rmF Fr i)
        have hn : m i = none := by
          cases q : m i with
          | none => rfl
          | some x =>
            obtain ⟨-, -, -, h4⟩ := h1.1 i hi x q
            exact absurd rfl (rmF_t.1 h4).2
        refine ⟨fun j => if j = i then some a else m j, ⟨fun j hj q hq => ?_, fun j k q hj hk hq hq' => ?_⟩, ?_⟩
        · by_cases e : j = i
          · simp only [if_pos e] at hq
            cases hq
            subst e
            exact ⟨Nat.le_refl _, by omega, hg.1, hg.2⟩
          · simp only [if_neg e] at hq
            obtain ⟨x1, x2, x3, x4⟩ := h1.1 j hj q hq
            exact ⟨by omega, x2, x3, (rmF_t.1 x4).1⟩
        · by_cases e : j = i
          · by_cases e' : k = i
            · omega
            · simp only [if_pos e] at hq
              simp only [if_neg e'] at hq'
              cases hq
              have := (h1.1 k hk a hq').1
              omega
          · by_cases e' : k = i
            · simp only [if_pos e'] at hq'
              simp only [if_neg e] at hq
              cases hq'
              have := (h1.1 j hj a hq).1
              omega
            · simp only [if_neg e] at hq
              simp only [if_neg e'] at hq'
              exact h1.2 j k q hj hk hq hq'
        · rw [sz8_ad hi hn]
          omega
/-- v is the most -/
def Op (ma : Nat → Nat → Bool) (a c : Nat) (Fr : Nat → Bool) (m : Mp) (v : Nat) : Prop := Mt ma a c Fr m ∧ sz8 m = v ∧ ∀ m', Mt ma a c Fr m' → sz8 m' ≤ v
theorem Op.mx {a d v : Nat} {Fr : Nat → Bool} {m : Mp} (H : Op ma a (a + d) Fr m v) : v = MXc ma d a Fr := by
  obtain ⟨h1, h2, h3⟩ := H
  have a1 := MXc_up d a Fr m h1
  obtain ⟨m', b1, b2⟩ := MXc_at (ma := ma) d a Fr
  have := h3 m' b1
  omega
-- a search for a plate
def TQ (ma : Nat → Nat → Bool) (h : Mp) (Td : Nat → Bool) (p : Nat) (h' : Mp) : Prop := (∀ i, i < 8 → Td i = true → h' i = h i) ∧ (∃ j, j < 8 ∧ h j = none ∧ (∀ i, i < 8 → i ≠ j → (h' i).isSome = (h i).isSome) ∧ (h' j).isSome = true) ∧ (∀ i, i < 8 → ∀ q, h' i = some q → h i = some q ∨ (((∃ i', i' < 8 ∧ h i' = some q) ∨ q = p) ∧ ma q i = true ∧ Td i = false)) ∧ ∀ i j q, i < 8 → j < 8 → h i ≠ some p → h j ≠ some p → h' i = some q → h' j = some q → i = j
def FQ (ma : Nat → Nat → Bool) (h : Mp) (Td : Nat → Bool) (p : Nat) (Td' : Nat → Bool) : Prop := (∀ i, i < 8 → Td i = true → Td' i = true) ∧ (∀ i, i < 8 → ma p i = true → Td' i = true) ∧ ∀ t, t < 8 → Td' t = true → Td t = false → ∃ q, h t = some q ∧ ∀ i, i < 8 → ma q i = true → Td' i = true
def iH (h : Mp) : Prop := ∀ i j q, i < 8 → j < 8 → h i = some q → h j = some q → i = j
def stH (h : Mp) (i p : Nat) : Mp := fun j => if j = i then some p else h j
section FIND
variable {h h' : Mp} {Td Td1 : Nat → Bool} {p q i : Nat}
theorem fp_new (hI : iH h) (hi : i < 8) (hn : h i = none) (hm : ma p i = true) (ht : Td i = false) : TQ ma h Td p (stH h i p) := by
  refine ⟨fun j hj hT => ?_, ⟨i, hi, hn, fun j hj hne => ?_, ?_⟩, fun j hj r hr => ?_, fun j k r hj hk nj nk hr hr' => ?_⟩
  · have : j ≠ i := fun e => by rw [e, ht] at hT; cases hT
    exact if_neg this
  · show (if j = i then some p else h j).isSome = _
    rw [if_neg hne]
  · show (if i = i then some p else h i).isSome = true
    rw [if_pos rfl]
    rfl
  · have hr : (if j = i then some p else h j) = some r := hr
    by_cases e : j = i
    · rw [if_pos e] at hr
      cases hr
      subst e
      exact Or.inr ⟨Or.inr rfl, hm, ht⟩
    · rw [if_neg e] at hr
      exact Or.inl hr
  · have hr : (if j = i then some p else h j) = some r := hr
    have hr' : (if k = i then some p else h k) = some r := hr'
    by_cases e : j = i
    · by_cases e' : k = i
      · omega
      · rw [if_pos e] at hr
        rw [if_neg e'] at hr'
        cases hr
        exact absurd hr' nk
    · by_cases e' : k = i
      · rw [if_pos e'] at hr'
        rw [if_neg e] at hr
        cases hr'
        exact absurd hr nj
      · rw [if_neg e] at hr
        rw [if_neg e'] at hr'
        exact hI j k r hj hk hr hr'
theorem fp_sub (hI : iH h) (hP : ∀ j, j < 8 → h j = some p → Td j = true) (hi : i < 8) (hq : h i = some q) (hm : ma p i = true) (ht : Td i = false) (hT : ∀ j, j < 8 → Td j = true → Td1 j = true) (hTi : Td1 i = true) (H : TQ ma h Td1 q h') : TQ ma h Td p (stH h' i p) := by
  obtain ⟨t1, ⟨j0, b1, b2, b3, b4⟩, t3, t4⟩ := H
  have hpq : q ≠ p := fun e => by
    subst e
    have := hP i hi hq
    rw [ht] at this
    cases this
  have hqo : ∀ j, j < 8 → j ≠ i → h j ≠ some q := fun j hj hne e => hne (hI j i q hj hi e hq)
  have j0i : j0 ≠ i := fun e => by rw [e, hq] at b2; cases b2
  -- p stands in h' nowhere but where it stood
  have nop : ∀ j, j < 8 → j ≠ i → h j ≠ some p → h' j ≠ some p := fun j hj hne nj e => by
    rcases t3 j hj p e with x | ⟨x | x, -, -⟩
    · exact nj x
    · obtain ⟨i', hi', x⟩ := x
      have ti := hP i' hi' x
      have e' : h' i' = some p := by rw [t1 i' hi' (hT i' hi' ti)]; exact x
      have : i' ≠ i := fun z => by rw [z, ht] at ti; cases ti
      have := t4 i' j p hi' hj (hqo i' hi' this) (hqo j hj hne) e' e
      exact nj (this ▸ x)
    · exact hpq x.symm
  refine ⟨fun j hj hTj => ?_, ⟨j0, b1, b2, fun j hj hne => ?_, ?_⟩, fun j hj r hr => ?_, fun j k r hj hk nj nk hr hr' => ?_⟩
  · have : j ≠ i := fun e => by rw [e, ht] at hTj; cases hTj
    show (if j = i then some p else h' j) = _
    rw [if_neg this]
    exact t1 j hj (hT j hj hTj)
  · show (if j = i then some p else h' j).isSome = _
    by_cases e : j = i
    · rw [if_pos e, e, hq]
      rfl
    · rw [if_neg e]
      exact b3 j hj hne
  · show (if j0 = i then some p else h' j0).isSome = true
    rw [if_neg j0i]
    exact b4
  · have hr : (if j = i then some p else h' j) = some r := hr
    by_cases e : j = i
    · rw [if_pos e] at hr
      cases hr
      subst e
      exact Or.inr ⟨Or.inr rfl, hm, ht⟩
    · rw [if_neg e] at hr
      rcases t3 j hj r hr with x | ⟨x, y, z⟩
      · exact Or.inl x
      · refine Or.inr ⟨Or.inl ?_, y, ?_⟩
        · rcases x with x | x
          · exact x
          · exact ⟨i, hi, x ▸ hq⟩
        · cases hc : Td j with
          | false => rfl
          | true => rw [hT j hj hc] at z; cases z
  · have hr : (if j = i then some p else h' j) = some r := hr
    have hr' : (if k = i then some p else h' k) = some r := hr'
    by_cases e : j = i
    · by_cases e' : k = i
      · omega
      · rw [if_pos e] at hr
        rw [if_neg e'] at hr'
        cases hr
        exact absurd hr' (nop k hk e' nk)
    · by_cases e' : k = i
      · rw [if_pos e'] at hr'
        rw [if_neg e] at hr
        cases hr'
        exact absurd hr (nop j hj e nj)
      · rw [if_neg e] at hr
        rw [if_neg e'] at hr'
        exact t4 j k r hj hk (hqo j hj e) (hqo k hk e') hr hr'
end FIND
/-- p found a plate -/
theorem Op.add {a p v : Nat} {Fr : Nat → Bool} {h h' : Mp} (H : Op ma a p Fr h v) (hap : a ≤ p) (hT : TQ ma h (fun i => !Fr i) p h') : Op ma a (p + 1) Fr h' (v + 1) := by
  obtain ⟨⟨m1, m2⟩, s, u⟩ := H
  obtain ⟨t1, ⟨j, b1, b2, b3, b4⟩, t3, t4⟩ := hT
  have np : ∀ i, i < 8 → h i ≠ some p := fun i hi e => by
    have := (m1 i hi p e).2.1
    omega
  refine ⟨⟨fun i hi q hq => ?_, fun i j q hi hj hq hq' => t4 i j q hi hj (np i hi) (np j hj) hq hq'⟩, ?_, fun m' M' => ?_⟩
  · rcases t3 i hi q hq with x | ⟨x, y, z⟩
    · obtain ⟨x1, x2, x3⟩ := m1 i hi q x
      exact ⟨x1, by omega, x3⟩
    · have fr : Fr i = true := by
        have z : (!Fr i) = false := z
        cases hc : Fr i with
        | true => rfl
        | false => rw [hc] at z; cases z
      rcases x with ⟨i', hi', x⟩ | x
      · obtain ⟨x1, x2, -⟩ := m1 i' hi' q x
        exact ⟨x1, by omega, y, fr⟩
      · subst x
        exact ⟨hap, by omega, y, fr⟩
  · unfold sz8 at s ⊢
    rw [c8_set (f := fun i => (h i).isSome) b1 (by show (h j).isSome = false; rw [b2]; rfl) b4 b3, s]
  · by_cases hh : ∀ i, i < 8 → m' i ≠ some p
    · have : Mt ma a p Fr m' := ⟨fun i hi q hq => by
        obtain ⟨x1, x2, x3⟩ := M'.1 i hi q hq
        have : q ≠ p := fun e => hh i hi (e ▸ hq)
        exact ⟨x1, by omega, x3⟩, M'.2⟩
      have := u m' this
      omega
    · obtain ⟨i, hn⟩ := Classical.not_forall.mp hh
      obtain ⟨hi, hn⟩ := Classical.not_imp.mp hn
      have hi2 : m' i = some p := Classical.not_not.mp hn
      have : Mt ma a p Fr (fun j => if j = i then none else m' j) := by
        refine ⟨fun j hj q hq => ?_, fun j k q hj hk hq hq' => ?_⟩
        · by_cases e : j = i
          · simp only [if_pos e] at hq
            cases hq
          · simp only [if_neg e] at hq
            obtain ⟨x1, x2, x3⟩ := M'.1 j hj q hq
            have : q ≠ p := fun x => e (M'.2 j i p hj hi (x ▸ hq) hi2)
            exact ⟨x1, by omega, x3⟩
        · by_cases e : j = i
          · simp only [if_pos e] at hq
            cases hq
          · by_cases e' : k = i
            · simp only [if_pos e'] at hq'
              cases hq'
            · simp only [if_neg e] at hq
              simp only [if_neg e'] at hq'
              exact M'.2 j k q hj hk hq hq'
      have s1 := u _ this
      have s2 := sz8_rm hi hi2
      omega
/-- p found none -/
theorem Op.no {a p v : Nat} {Fr Td' : Nat → Bool} {h : Mp} (H : Op ma a p Fr h v) (hF : FQ ma h (fun i => !Fr i) p Td') : Op ma a (p + 1) Fr h v := by
  obtain ⟨⟨m1, m2⟩, s, u⟩ := H
  obtain ⟨f1, f2, f3⟩ := hF
  refine ⟨⟨fun i hi q hq => ?_, m2⟩, s, fun m' M' => ?_⟩
  · obtain ⟨x1, x2, x3⟩ := m1 i hi q hq
    exact ⟨x1, by omega, x3⟩
  · have nf : ∀ i, Fr i = true → (!Fr i) = false := fun i e => by rw [e]; rfl
    have key : Mt ma a p Fr (fun i => if Td' i = true ∧ Fr i = true then h i else m' i) := by
      refine ⟨fun i hi q hq => ?_, fun i j q hi hj hq hq' => ?_⟩
      · by_cases e : Td' i = true ∧ Fr i = true
        · simp only [if_pos e] at hq
          exact m1 i hi q hq
        · simp only [if_neg e] at hq
          obtain ⟨x1, x2, x3, x4⟩ := M'.1 i hi q hq
          have : q ≠ p := fun x => e ⟨f2 i hi (x ▸ x3), x4⟩
          exact ⟨x1, by omega, x3, x4⟩
      · have mix : ∀ i j, i < 8 → j < 8 → (Td' i = true ∧ Fr i = true) → ¬ (Td' j = true ∧ Fr j = true) → h i = some q → m' j = some q → False := fun i j hi hj e e' hq hq' => by
          obtain ⟨r, hr, hc⟩ := f3 i hi e.1 (nf i e.2)
          rw [hr] at hq
          have er := Option.some.inj hq
          rw [er] at hc
          obtain ⟨-, -, x3, x4⟩ := M'.1 j hj q hq'
          exact e' ⟨hc j hj x3, x4⟩
        by_cases e : Td' i = true ∧ Fr i = true
        · by_cases e' : Td' j = true ∧ Fr j = true
          · simp only [if_pos e] at hq
            simp only [if_pos e'] at hq'
            exact m2 i j q hi hj hq hq'
          · simp only [if_pos e] at hq
            simp only [if_neg e'] at hq'
            exact (mix i j hi hj e e' hq hq').elim
        · by_cases e' : Td' j = true ∧ Fr j = true
          · simp only [if_neg e] at hq
            simp only [if_pos e'] at hq'
            exact (mix j i hj hi e' e hq' hq).elim
          · simp only [if_neg e] at hq
            simp only [if_neg e'] at hq'
            exact M'.2 i j q hi hj hq hq'
    have s1 := u _ key
    have s2 : sz8 m' ≤ sz8 (fun i => if Td' i = true ∧ Fr i = true then h i else m' i) := by
      refine c8_mono fun i hi hs => ?_
      by_cases e : Td' i = true ∧ Fr i = true
      · show (if Td' i = true ∧ Fr i = true then h i else m' i).isSome = true
        rw [if_pos e]
        obtain ⟨r, hr, -⟩ := f3 i hi e.1 (nf i e.2)
        rw [hr]
        rfl
      · show (if Td' i = true ∧ Fr i = true then h i else m' i).isSome = true
        rw [if_neg e]
        exact hs
    omega
end MATCH
