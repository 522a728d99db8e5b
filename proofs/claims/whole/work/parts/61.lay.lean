/-- the shapes of the cells that are there from the start on -/
def shT (a : Nat) : Shp := match a with
  | 0 => .inr (11, [2, 2, 2, 2, 2, 2, 2, 2, 2, 2, 2, 2, 2, 2, 0, 0, 0, 0])
  | 1 => .inr (8, [2, 0, 0, 0, 0, 0, 0])
  | 2 => .inl (1, 600, 0)
  | 3 => .inr (2, [2, 2, 2, 2, 0, 0])
  | 4 => .inl (0, 8, 0)
  | 5 => .inl (0, 8, 0)
  | 6 => .inl (0, 8, 0)
  | 7 => .inl (0, 8, 0)
  | 8 => .inr (2, [2, 2, 2, 2, 0, 0])
  | 9 => .inl (0, 8, 0)
  | 10 => .inl (0, 8, 0)
  | 11 => .inl (0, 8, 0)
  | 12 => .inl (0, 8, 0)
  | 13 => .inr (4, [2, 2, 0])
  | 14 => .inl (0, 150, 0)
  | 15 => .inl (0, 24, 0)
  | 16 => .inr (4, [2, 2, 0])
  | 17 => .inl (0, 150, 0)
  | 18 => .inl (0, 24, 0)
  | 19 => .inr (9, [2, 2, 2, 2, 0, 0, 0, 0])
  | 20 => .inl (0, 30, 0)
  | 21 => .inl (0, 30, 0)
  | 22 => .inl (0, 30, 0)
  | 23 => .inl (0, 30, 0)
  | 24 => .inr (1, [2, 2, 2, 2, 0, 1])
  | 25 => .inl (0, 8, 0)
  | 26 => .inl (0, 8, 0)
  | 27 => .inl (0, 7, 0)
  | 28 => .inr (6, [2, 2, 2])
  | 29 => .inl (0, 8, 0)
  | 30 => .inr (7, [2, 2, 2, 2, 0, 0])
  | 31 => .inl (0, 8, 0)
  | 32 => .inl (0, 5, 0)
  | 33 => .inr (0, [2, 2, 2, 2, 0, 0])
  | 34 => .inl (0, 8, 0)
  | 35 => .inl (0, 8, 0)
  | 36 => .inl (0, 8, 0)
  | 37 => .inr (10, [2, 2, 0, 0, 0])
  | 38 => .inr (5, [2, 2, 2, 2, 0, 0])
  | 39 => .inl (0, 8, 0)
  | 40 => .inl (0, 8, 0)
  | 41 => .inl (0, 8, 0)
  | 42 => .inl (0, 40, 0)
  | 43 => .inr (5, [2, 2, 2, 2, 0, 0])
  | 44 => .inl (0, 8, 0)
  | 45 => .inl (0, 8, 0)
  | 46 => .inl (0, 8, 0)
  | 47 => .inl (0, 40, 0)
  | 48 => .inl (4, 3, 2)
  | 49 => .inr (12, [0, 0, 0, 0, 0, 0, 0, 0, 0, 2, 2, 2, 2, 2, 2, 2, 2, 0, 0, 2, 2, 2, 2, 2, 2, 2, 0, 2, 2, 2, 2, 0, 0, 0, 0, 0, 0, 0, 2, 0, 0, 2, 2, 2, 0, 2, 0, 0, 0])
  | 50 => .inl (0, 600, 0)
  | 51 => .inl (0, 2, 0)
  | 52 => .inl (0, 2, 0)
  | 53 => .inl (0, 2, 0)
  | 54 => .inl (0, 8, 0)
  | 55 => .inl (0, 8, 0)
  | 56 => .inl (3, 8, 2)
  | 65 => .inl (3, 8, 2)
  | 74 => .inl (3, 160, 2)
  | 235 => .inl (3, 160, 2)
  | 396 => .inl (3, 8, 2)
  | 405 => .inl (3, 8, 2)
  | 414 => .inl (0, 160, 0)
  | 415 => .inl (0, 8, 0)
  | 416 => .inl (3, 80, 2)
  | 497 => .inl (0, 228, 0)
  | 498 => .inl (0, 228, 0)
  | 499 => .inl (3, 16, 2)
  | 516 => .inl (3, 3, 2)
  | 520 => .inl (0, 8, 0)
  | 521 => .inl (0, 7, 0)
  | 522 => .inl (0, 8, 0)
  | 523 => .inl (0, 8, 0)
  | 524 => .inl (0, 64, 0)
  | 525 => .inl (2, 1, 1)
  | a => if 56 < a ∧ a ≤ 64 then .inl (0, 3, 0) else if 65 < a ∧ a ≤ 73 then .inl (0, 3, 0) else if 74 < a ∧ a ≤ 234 then .inl (0, 2, 0) else if 235 < a ∧ a ≤ 395 then .inl (0, 2, 0) else if 396 < a ∧ a ≤ 404 then .inl (0, 2, 0) else if 405 < a ∧ a ≤ 413 then .inl (0, 2, 0) else if 416 < a ∧ a ≤ 496 then .inl (0, 5, 0) else if 499 < a ∧ a ≤ 515 then .inl (0, 228, 0) else if 516 < a ∧ a ≤ 519 then .inl (0, 3877, 0) else .inl (0, 0, 0)
/-- the references that never change -/
def rT (a k : Nat) : Nat := match a, k with
  | 0, 0 => 1
  | 0, 1 => 3
  | 0, 2 => 8
  | 0, 3 => 13
  | 0, 4 => 16
  | 0, 5 => 19
  | 0, 6 => 24
  | 0, 7 => 28
  | 0, 8 => 30
  | 0, 9 => 33
  | 0, 10 => 37
  | 0, 11 => 43
  | 0, 12 => 48
  | 1, 0 => 2
  | 3, 0 => 4
  | 3, 1 => 5
  | 3, 2 => 6
  | 3, 3 => 7
  | 8, 0 => 9
  | 8, 1 => 10
  | 8, 2 => 11
  | 8, 3 => 12
  | 13, 0 => 14
  | 13, 1 => 15
  | 16, 0 => 17
  | 16, 1 => 18
  | 19, 0 => 20
  | 19, 1 => 21
  | 19, 2 => 22
  | 19, 3 => 23
  | 24, 0 => 3
  | 24, 1 => 25
  | 24, 2 => 26
  | 24, 3 => 27
  | 28, 0 => 3
  | 28, 1 => 13
  | 28, 2 => 29
  | 30, 0 => 28
  | 30, 1 => 3
  | 30, 2 => 31
  | 30, 3 => 32
  | 33, 0 => 3
  | 33, 1 => 34
  | 33, 2 => 35
  | 33, 3 => 36
  | 37, 0 => 28
  | 37, 1 => 38
  | 38, 0 => 39
  | 38, 1 => 40
  | 38, 2 => 41
  | 38, 3 => 42
  | 43, 0 => 44
  | 43, 1 => 45
  | 43, 2 => 46
  | 43, 3 => 47
  | 49, 9 => 50
  | 49, 10 => 51
  | 49, 11 => 52
  | 49, 12 => 53
  | 49, 13 => 54
  | 49, 14 => 55
  | 49, 15 => 56
  | 49, 16 => 65
  | 49, 19 => 74
  | 49, 20 => 235
  | 49, 21 => 396
  | 49, 22 => 405
  | 49, 23 => 414
  | 49, 24 => 415
  | 49, 25 => 416
  | 49, 27 => 497
  | 49, 28 => 498
  | 49, 29 => 499
  | 49, 30 => 516
  | 49, 38 => 520
  | 49, 41 => 521
  | 49, 42 => 522
  | 49, 43 => 523
  | 49, 45 => 524
  | a, k => if a = 56 then 57 + k else if a = 65 then 66 + k else if a = 74 then 75 + k else if a = 235 then 236 + k else if a = 396 then 397 + k else if a = 405 then 406 + k else if a = 416 then 417 + k else if a = 499 then 500 + k else if a = 516 then 517 + k else 0
def rQ (a k : Nat) : Bool := match a, k with
  | 0, 0 => true
  | 0, 1 => true
  | 0, 2 => true
  | 0, 3 => true
  | 0, 4 => true
  | 0, 5 => true
  | 0, 6 => true
  | 0, 7 => true
  | 0, 8 => true
  | 0, 9 => true
  | 0, 10 => true
  | 0, 11 => true
  | 0, 12 => true
  | 1, 0 => true
  | 3, 0 => true
  | 3, 1 => true
  | 3, 2 => true
  | 3, 3 => true
  | 8, 0 => true
  | 8, 1 => true
  | 8, 2 => true
  | 8, 3 => true
  | 13, 0 => true
  | 13, 1 => true
  | 16, 0 => true
  | 16, 1 => true
  | 19, 0 => true
  | 19, 1 => true
  | 19, 2 => true
  | 19, 3 => true
  | 24, 0 => true
  | 24, 1 => true
  | 24, 2 => true
  | 24, 3 => true
  | 28, 0 => true
  | 28, 1 => true
  | 28, 2 => true
  | 30, 0 => true
  | 30, 1 => true
  | 30, 2 => true
  | 30, 3 => true
  | 33, 0 => true
  | 33, 1 => true
  | 33, 2 => true
  | 33, 3 => true
  | 37, 0 => true
  | 37, 1 => true
  | 38, 0 => true
  | 38, 1 => true
  | 38, 2 => true
  | 38, 3 => true
  | 43, 0 => true
  | 43, 1 => true
  | 43, 2 => true
  | 43, 3 => true
  | 49, 9 => true
  | 49, 10 => true
  | 49, 11 => true
  | 49, 12 => true
  | 49, 13 => true
  | 49, 14 => true
  | 49, 15 => true
  | 49, 16 => true
  | 49, 19 => true
  | 49, 20 => true
  | 49, 21 => true
  | 49, 22 => true
  | 49, 23 => true
  | 49, 24 => true
  | 49, 25 => true
  | 49, 27 => true
  | 49, 28 => true
  | 49, 29 => true
  | 49, 30 => true
  | 49, 38 => true
  | 49, 41 => true
  | 49, 42 => true
  | 49, 43 => true
  | 49, 45 => true
  | a, k => (a == 56 && decide (k < 8)) || (a == 65 && decide (k < 8)) || (a == 74 && decide (k < 160)) || (a == 235 && decide (k < 160)) || (a == 396 && decide (k < 8)) || (a == 405 && decide (k < 8)) || (a == 416 && decide (k < 80)) || (a == 499 && decide (k < 16)) || (a == 516 && decide (k < 3))
/-- a memory that has grown out of that start -/
def Sh0 (n : Nat) (sh : Nat → Shp) (R : Nat → Nat → Option Nat) : Prop := 525 ≤ n ∧ (∀ a, a < 525 → sh a = shT a) ∧ ∀ a k, rQ a k = true → R a k = some (rT a k)
def cI (c k a kd : Nat) : Bool := decide (a < 525) && (match shT a with
  | .inr (c', ks) => decide (c' = c) && decide (ks[k]? = some kd)
  | .inl _ => false)
def cA (t a m kd : Nat) : Bool := decide (a < 525) && decide (shT a = .inl (t, m, kd))
theorem cI_spec {c k a kd : Nat} (h : cI c k a kd = true) : a < 525 ∧ ∃ ks, shT a = .inr (c, ks) ∧ ks[k]? = some kd := by
  unfold cI at h
  rw [Bool.and_eq_true] at h
  refine ⟨of_decide_eq_true h.1, ?_⟩
  have h2 := h.2
  match hs : shT a, h2 with
  | .inr (c', ks), h2 =>
    simp only [Bool.and_eq_true, decide_eq_true_eq] at h2
    exact ⟨ks, by rw [← h2.1], h2.2⟩
theorem cA_spec {t a m kd : Nat} (h : cA t a m kd = true) : a < 525 ∧ shT a = .inl (t, m, kd) := by
  unfold cA at h
  simp only [Bool.and_eq_true, decide_eq_true_eq] at h
  exact h
section LAY
variable {n q : Nat} {sh : Nat → Shp} {I : Nat → Nat → Int32} {J : Nat → Nat → Int64} {R : Nat → Nat → Option Nat}
theorem z_gI (S : Sh0 n sh R) {c k a : Nat} (h : cI c k a 0 = true) : gI c k a (n, q, MM sh I J R) = some (.inl (I a k), (n, q, MM sh I J R)) := by
  obtain ⟨h1, ks, h2, h3⟩ := cI_spec h
  exact m_gI (Nat.lt_of_lt_of_le h1 S.1) ((S.2.1 a h1).trans h2) h3
theorem z_gJ (S : Sh0 n sh R) {c k a : Nat} (h : cI c k a 1 = true) : gJ c k a (n, q, MM sh I J R) = some (.inl (J a k), (n, q, MM sh I J R)) := by
  obtain ⟨h1, ks, h2, h3⟩ := cI_spec h
  exact m_gJ (Nat.lt_of_lt_of_le h1 S.1) ((S.2.1 a h1).trans h2) h3
theorem z_gR (S : Sh0 n sh R) {c k a : Nat} (h : cI c k a 2 = true) (hq : rQ a k = true) : gR c k a (n, q, MM sh I J R) = some (.inl (rT a k), (n, q, MM sh I J R)) := by
  obtain ⟨h1, ks, h2, h3⟩ := cI_spec h
  exact m_gR (Nat.lt_of_lt_of_le h1 S.1) ((S.2.1 a h1).trans h2) h3 (S.2.2 a k hq)
theorem z_gN (S : Sh0 n sh R) {c k a : Nat} (h : cI c k a 2 = true) : gN c k a (n, q, MM sh I J R) = some (.inl (R a k), (n, q, MM sh I J R)) := by
  obtain ⟨h1, ks, h2, h3⟩ := cI_spec h
  exact m_gN (Nat.lt_of_lt_of_le h1 S.1) ((S.2.1 a h1).trans h2) h3
theorem z_pfI (S : Sh0 n sh R) {c k a : Nat} {v : Int32} (h : cI c k a 0 = true) : pf c k a (.int v) (n, q, MM sh I J R) = some (.inl (), (n, q, MM sh (up2 I a k v) J R)) := by
  obtain ⟨h1, ks, h2, h3⟩ := cI_spec h
  exact m_pfI (Nat.lt_of_lt_of_le h1 S.1) ((S.2.1 a h1).trans h2) h3
theorem z_pfJ (S : Sh0 n sh R) {c k a : Nat} {v : Int64} (h : cI c k a 1 = true) : pf c k a (.long v) (n, q, MM sh I J R) = some (.inl (), (n, q, MM sh I (up2 J a k v) R)) := by
  obtain ⟨h1, ks, h2, h3⟩ := cI_spec h
  exact m_pfJ (Nat.lt_of_lt_of_le h1 S.1) ((S.2.1 a h1).trans h2) h3
theorem z_pfR (S : Sh0 n sh R) {c k a : Nat} {v : Option Nat} (h : cI c k a 2 = true) : pf c k a (oV v) (n, q, MM sh I J R) = some (.inl (), (n, q, MM sh I J (up2 R a k v))) := by
  obtain ⟨h1, ks, h2, h3⟩ := cI_spec h
  exact m_pfR (Nat.lt_of_lt_of_le h1 S.1) ((S.2.1 a h1).trans h2) h3
theorem z_cv (S : Sh0 n sh R) {α : Type} {c a : Nat} {F : Mo α} (h : cI c 0 a 2 = true ∨ cI c 0 a 0 = true) : cv c a F (n, q, MM sh I J R) = F (n, q, MM sh I J R) := by
  rcases h with h | h
  · obtain ⟨h1, ks, h2, -⟩ := cI_spec h
    exact m_cv (Nat.lt_of_lt_of_le h1 S.1) ((S.2.1 a h1).trans h2)
  · obtain ⟨h1, ks, h2, -⟩ := cI_spec h
    exact m_cv (Nat.lt_of_lt_of_le h1 S.1) ((S.2.1 a h1).trans h2)
theorem z_al (S : Sh0 n sh R) {t a : Nat} (m : Nat) {i : Int32} (h : cA t a m 0 = true) (hi : inN i m = true) : al t a i (n, q, MM sh I J R) = some (.inl (I a i.toNatClampNeg), (n, q, MM sh I J R)) :=
  m_al (Nat.lt_of_lt_of_le (cA_spec h).1 S.1) ((S.2.1 a (cA_spec h).1).trans (cA_spec h).2) hi
theorem z_as (S : Sh0 n sh R) {a : Nat} (m : Nat) {i v : Int32} (h : cA 0 a m 0 = true) (hi : inN i m = true) : as_ a i v (n, q, MM sh I J R) = some (.inl (), (n, q, MM sh (up2 I a i.toNatClampNeg v) J R)) :=
  m_as (Nat.lt_of_lt_of_le (cA_spec h).1 S.1) ((S.2.1 a (cA_spec h).1).trans (cA_spec h).2) hi
theorem z_bs (S : Sh0 n sh R) {a : Nat} (m : Nat) {i v : Int32} (h : cA 1 a m 0 = true) (hi : inN i m = true) : bs_ a i v (n, q, MM sh I J R) = some (.inl (), (n, q, MM sh (up2 I a i.toNatClampNeg (vp_nar .byte v)) J R)) :=
  m_bs (Nat.lt_of_lt_of_le (cA_spec h).1 S.1) ((S.2.1 a (cA_spec h).1).trans (cA_spec h).2) hi
end LAY
theorem bd_eq {α β : Type} {m : Mo α} {f : α → Mo β} {σ : PS} : bd m f σ = (match m σ with
  | none => none
  | some (.inl x, σ') => f x σ'
  | some (.inr e, σ') => some (.inr e, σ')) := rfl
-- first trials
theorem c_fault {n q : Nat} {sh : Nat → Shp} {I : Nat → Nat → Int32} {J : Nat → Nat → Int64} {R : Nat → Nat → Option Nat} (S : Sh0 n sh R) : f_X11_fault 0 (n, q, MM sh I J R) = some (.inl (I 1 6), (n, q, MM sh I J R)) := by
  simp (decide := true) only [f_X11_fault, bd_eq, z_gR S, z_gI S, rT, pu]
theorem c_status {n q : Nat} {sh : Nat → Shp} {I : Nat → Nat → Int32} {J : Nat → Nat → Int64} {R : Nat → Nat → Option Nat} (S : Sh0 n sh R) (x : Int32) : f_X11_status 0 x (n, q, MM sh I J R) = some (.inl (if x = 0 then I 0 16 else if x = 1 then I 0 17 else -1), (n, q, MM sh I J R)) := by
  by_cases h0 : x = 0
  · simp (decide := true) only [f_X11_status, bd_eq, z_gR S, z_gI S, rT, pu, h0, if_true]
  · by_cases h1 : x = 1
    · simp (decide := true) only [f_X11_status, bd_eq, z_gR S, z_gI S, rT, pu, h1, if_true, if_false]
    · simp (decide := true) only [f_X11_status, bd_eq, z_gR S, z_gI S, rT, pu, h0, h1, if_false]
