/-! PURE PART: a town begins anew, both sides -/
def at0 : At := ((0, 0), (fun _ => 0), (fun _ => 0), (fun _ => 0), fun _ => (0, 0, 0, 0, 0))
def wo0 : Wo := (0, (fun _ => 0), fun _ => 0)
theorem fit0 : ∀ f, f < 64 → ((-1 : Int64) >>> (Int32.toInt64 (nn f) &&& 63)) &&& 1 = 1 := by decide +kernel
def KN : List Nat := [49, 53, 55, 66, 67, 68, 69, 70, 71, 72, 73, 497]
theorem KN_in {p : Nat} (h : p < 8) : 66 + p ∈ KN := by
  unfold KN
  simp
  omega
theorem lwU_W : LwW lwU := by
  refine ⟨by decide, fun k hk => ?_, fun k => if k = 0 then 0 else if k = 1 then 1 else if k = 2 then 2 else 1, rfl, rfl, fun k => ?_, fun k hk => ?_⟩
  · have hk : k < 3 := hk
    rcases (show k = 0 ∨ k = 1 ∨ k = 2 by omega) with q | q | q <;> subst q <;> decide
  · show (if k = 0 then 0 else if k = 1 then 1 else if k = 2 then 2 else 1) ≤ 24
    split
    · decide
    · split
      · decide
      · split <;> decide
  · have hk : k < 3 := hk
    rcases (show k = 0 ∨ k = 1 ∨ k = 2 by omega) with q | q | q <;> subst q <;> decide
section TOWN11
variable {w : Wd} {I : Is} {J : Js} {G : Fo}
theorem c_put13 (S : Sw w) {k : Nat} {x : Int32} (h : I 13 2 = nn k) (hk : k < 150) : f_X4_put 13 x (st w I J) = some (.inl 1, st w (up2 (up2 I 14 k x) 13 2 (nn (k + 1))) J) := by
  have i2 := i_13_2 (I := I) (J := J) S
  rw [h] at i2
  have j2 := i_13_2 (I := up2 I 14 k x) (J := J) S
  rw [up2_a (by decide), h] at j2
  rw [f_X4_put, bd_st i2, bd_st (r_13_0 S), bd_st (ln_14 S), if_pos (by rw [nn_lt (by omega) (by omega)]; exact hk), bd_st (r_13_0 S), bd_st i2, bd_st (s_14 S hk), bd_st j2, nn_succ, bd_st (w_13_2 S)]
  rfl
theorem c_usual (S : Sw w) : ∃ I1, f_X4_setUsual 13 (st w I J) = some (.inl (), st w I1 J) ∧ Ag [13, 14] I I1 ∧ LwC I1 lwU := by
  obtain ⟨I1, h1⟩ : ∃ I1, I1 = up2 (up2 (up2 I 13 2 0) 14 0 1000) 13 2 (nn 1) := ⟨_, rfl⟩
  obtain ⟨I2, h2⟩ : ∃ I2, I2 = up2 (up2 I1 14 1 1002) 13 2 (nn 2) := ⟨_, rfl⟩
  obtain ⟨I3, h3⟩ : ∃ I3, I3 = up2 (up2 I2 14 2 2000) 13 2 (nn 3) := ⟨_, rfl⟩
  have e1 := c_put13 (J := J) (I := up2 I 13 2 0) (k := 0) (x := 1000) S up2_s (by decide)
  rw [← h1] at e1
  have e2 := c_put13 (J := J) (I := I1) (k := 1) (x := 1002) S (by rw [h1, up2_s]) (by decide)
  rw [← h2] at e2
  have e3 := c_put13 (J := J) (I := I2) (k := 2) (x := 2000) S (by rw [h2, up2_s]) (by decide)
  rw [← h3] at e3
  refine ⟨I3, ?_, ?_, ?_, fun k hk => ?_⟩
  · rw [f_X4_setUsual, bd_st (w_13_2 S), bd_st ((v_13 S).trans e1), bd_st ((v_13 S).trans e2), bd_st ((v_13 S).trans e3)]
    rfl
  · rw [h3, h2, h1]
    exact (((((((Ag.refl _ _).up (by decide)).up (by decide)).up (by decide)).up (by decide)).up (by decide)).up (by decide)).up (by decide)
  · rw [h3, up2_s]
    rfl
  · have hk : k < 3 := hk
    rcases (show k = 0 ∨ k = 1 ∨ k = 2 by omega) with q | q | q <;> subst q
    · rw [h3, h2, h1]
      simp (disch := decide) only [up2_a, up2_k, up2_s]
      rfl
    · rw [h3, h2, h1]
      simp (disch := decide) only [up2_a, up2_k, up2_s]
      rfl
    · rw [h3, h2, h1]
      simp (disch := decide) only [up2_a, up2_k, up2_s]
      rfl
theorem c_clrW (S : Sw w) (F : Fo) : ∃ I1, f_X1_clear 24 (st w I J) = some (.inl (), st w I1 (up2 J 24 5 (-1))) ∧ Ag [24, 25] I I1 ∧ WoC I1 (up2 J 24 5 (-1)) F wo0 := by
  unfold f_X1_clear
  refine loopQ (fun N i (I1 : Is) => f_X1_clear_b2 N 24 (nn i) (st w I1 J)) 8 (fun i I1 => Ag [24, 25] I I1 ∧ ∀ q, q < i → I1 25 q = -1) (fun z => ∃ I1, z = some (.inl (), st w I1 (up2 J 24 5 (-1))) ∧ Ag [24, 25] I I1 ∧ WoC I1 (up2 J 24 5 (-1)) F wo0) ?_ ?_ 8 0 I NF (by omega) (NF_gt (by omega)) ⟨Ag.refl _ _, fun q hq => by omega⟩
  · intro N i I1 hi ⟨a1, b1⟩
    left
    refine ⟨up2 I1 25 i (-1), ?_, a1.up (by decide), fun q hq => ?_⟩
    · show f_X1_clear_b2 (N + 1) 24 (nn i) (st w I1 J) = _
      rw [f_X1_clear_b2, if_neg (by rw [show (8 : Int32) = nn 8 from rfl, nn_le (by omega) (by omega)]; omega), bd_st (r_24_1 S), bd_st (s_25 S hi), nn_succ]
    · by_cases e : q = i
      · rw [e, up2_s]
      · rw [up2_k e]; exact b1 q (by omega)
  · intro N I1 ⟨a1, b1⟩
    refine ⟨up2 I1 24 4 0, ?_, a1.up (by decide), up2_s, fun p hp => ?_, fun f hf => ⟨fun _ k hk => absurd hk (Nat.not_lt_zero _), fun _ => ?_⟩⟩
    · show f_X1_clear_b2 (N + 1) 24 (nn 8) (st w I1 J) = _
      rw [f_X1_clear_b2, if_pos (by decide), bd_st (w_24_4 S), bd_st (wj_24_5 S)]
      rfl
    · rw [up2_a (by decide)]
      exact b1 p hp
    · rw [up2_s]
      exact fit0 f hf
theorem c_clrS (S : Sw w) : ∃ I1, f_X5_clear 43 (st w I J) = some (.inl (), st w I1 J) ∧ Ag [43, 44, 45, 46] I I1 ∧ StR I1 43 at0 := by
  unfold f_X5_clear
  refine loopQ (fun N i (I1 : Is) => f_X5_clear_b2 N 43 (nn i) (st w I1 J)) 8 (fun i I1 => Ag [43, 44, 45, 46] I I1 ∧ ∀ q, q < i → I1 44 q = 0 ∧ I1 45 q = 0 ∧ I1 46 q = 0) (fun z => ∃ I1, z = some (.inl (), st w I1 J) ∧ Ag [43, 44, 45, 46] I I1 ∧ StR I1 43 at0) ?_ ?_ 8 0 I NF (by omega) (NF_gt (by omega)) ⟨Ag.refl _ _, fun q hq => by omega⟩
  · intro N i I1 hi ⟨a1, b1⟩
    left
    refine ⟨up2 (up2 (up2 I1 44 i 0) 45 i 0) 46 i 0, ?_, ((a1.up (by decide)).up (by decide)).up (by decide), fun q hq => ?_⟩
    · show f_X5_clear_b2 (N + 1) 43 (nn i) (st w I1 J) = _
      rw [f_X5_clear_b2, if_neg (by rw [show (8 : Int32) = nn 8 from rfl, nn_le (by omega) (by omega)]; omega), bd_st (r_43_0 S), bd_st (s_44 S hi), bd_st (r_43_1 S), bd_st (s_45 S hi), bd_st (r_43_2 S), bd_st (s_46 S hi), nn_succ]
    · by_cases e : q = i
      · subst e
        simp (disch := decide) only [up2_a, up2_s]
        exact ⟨trivial, trivial, trivial⟩
      · have := b1 q (by omega)
        refine ⟨?_, ?_, ?_⟩
        · rw [up2_a (by decide), up2_a (by decide), up2_k e]; exact this.1
        · rw [up2_a (by decide), up2_k e, up2_a (by decide)]; exact this.2.1
        · rw [up2_k e, up2_a (by decide), up2_a (by decide)]; exact this.2.2
  · intro N I1 ⟨a1, b1⟩
    refine ⟨up2 (up2 I1 43 4 0) 43 5 0, ?_, (a1.up (by decide)).up (by decide), ?_, up2_s, fun p hp => ?_, fun i hi => absurd hi (Nat.not_lt_zero _)⟩
    · show f_X5_clear_b2 (N + 1) 43 (nn 8) (st w I1 J) = _
      rw [f_X5_clear_b2, if_pos (by decide), bd_st (w_43_4 S), bd_st (w_43_5 S)]
      rfl
    · rw [up2_k (by decide), up2_s]
      rfl
    · have := b1 p hp
      refine ⟨?_, ?_, ?_⟩
      · rw [up2_a (by decide), up2_a (by decide)]; exact this.1
      · rw [up2_a (by decide), up2_a (by decide)]; exact this.2.1
      · rw [up2_a (by decide), up2_a (by decide)]; exact this.2.2
-- the model
theorem m_layP (S : Sw w) {j : Nat} (hj : j < 8) (x : Int32) (k2 : Nat → Nat → Int32 → Int32 → Mo Unit) : f_X12_lays_b10 k2 NF 56 65 x (nn j) 0 (st w I J) = k2 56 65 x (nn (j + 1)) (st w (up2 (up2 (up2 I (66 + j) 0 (I (57 + j) 0)) (66 + j) 1 (I (57 + j) 1)) (66 + j) 2 (I (57 + j) 2)) J) := by
  obtain ⟨M, hM⟩ : ∃ M, NF = M + 4 := ⟨9996, rfl⟩
  have l1 := l_57_1 (I := up2 I (66 + j) 0 (I (57 + j) 0)) (J := J) (p := j) S hj
  rw [up2_a (by omega)] at l1
  have l2 := l_57_2 (I := up2 (up2 I (66 + j) 0 (I (57 + j) 0)) (66 + j) 1 (I (57 + j) 1)) (J := J) (p := j) S hj
  rw [up2_a (by omega), up2_a (by omega)] at l2
  rw [hM, show M + 4 = M + 3 + 1 from rfl, f_X12_lays_b10, bd_st (g_65 S hj), bd_st (ln_66 S hj), if_neg (by decide), bd_st (g_65 S hj), bd_st (g_56 S hj), bd_st (l_57_0 S hj), bd_st (s_66_0 S hj), show (0 : Int32) + 1 = 1 from rfl, show M + 3 = M + 2 + 1 from rfl, f_X12_lays_b10, bd_st (g_65 S hj), bd_st (ln_66 S hj), if_neg (by decide), bd_st (g_65 S hj), bd_st (g_56 S hj), bd_st l1, bd_st (s_66_1 S hj), show (1 : Int32) + 1 = 2 from rfl, show M + 2 = M + 1 + 1 from rfl, f_X12_lays_b10, bd_st (g_65 S hj), bd_st (ln_66 S hj), if_neg (by decide), bd_st (g_65 S hj), bd_st (g_56 S hj), bd_st l2, bd_st (s_66_2 S hj), show (2 : Int32) + 1 = 3 from rfl, f_X12_lays_b10, bd_st (g_65 S hj), bd_st (ln_66 S hj), if_pos (by decide), nn_succ]
theorem m_lays3 (S : Sw w) {m : Nat} (hm : m ≤ 8) : ∃ I1, f_X12_lays 56 65 (nn m) (st w I J) = some (.inl (), st w I1 J) ∧ Ag [66, 67, 68, 69, 70, 71, 72, 73] I I1 ∧ ∀ j, j < m → I1 (66 + j) 0 = I (57 + j) 0 ∧ I1 (66 + j) 1 = I (57 + j) 1 ∧ I1 (66 + j) 2 = I (57 + j) 2 := by
  have kin : ∀ {j : Nat}, j < 8 → 66 + j ∈ [66, 67, 68, 69, 70, 71, 72, 73] := fun {j} h => by simp; omega
  unfold f_X12_lays
  refine loopQ (fun N i (I1 : Is) => f_X12_lays_b2 N 56 65 (nn m) (nn i) (st w I1 J)) m (fun i I1 => Ag [66, 67, 68, 69, 70, 71, 72, 73] I I1 ∧ ∀ j, j < i → I1 (66 + j) 0 = I (57 + j) 0 ∧ I1 (66 + j) 1 = I (57 + j) 1 ∧ I1 (66 + j) 2 = I (57 + j) 2) (fun z => ∃ I1, z = some (.inl (), st w I1 J) ∧ Ag [66, 67, 68, 69, 70, 71, 72, 73] I I1 ∧ ∀ j, j < m → I1 (66 + j) 0 = I (57 + j) 0 ∧ I1 (66 + j) 1 = I (57 + j) 1 ∧ I1 (66 + j) 2 = I (57 + j) 2) ?_ ?_ m 0 I NF (by omega) (NF_gt (by omega)) ⟨Ag.refl _ _, fun j hj => by omega⟩
  · intro N i I1 hi ⟨a1, b1⟩
    left
    refine ⟨up2 (up2 (up2 I1 (66 + i) 0 (I1 (57 + i) 0)) (66 + i) 1 (I1 (57 + i) 1)) (66 + i) 2 (I1 (57 + i) 2), ?_, ((a1.up (kin (by omega))).up (kin (by omega))).up (kin (by omega)), fun j hj => ?_⟩
    · show f_X12_lays_b2 (N + 1) 56 65 (nn m) (nn i) (st w I1 J) = _
      rw [f_X12_lays_b2, if_neg (by rw [nn_le (by omega) (by omega)]; omega), m_layP S (by omega)]
    · by_cases e : j = i
      · subst e
        have q : I1 (57 + j) = I (57 + j) := a1 (57 + j) (by simp; omega)
        simp (disch := decide) only [up2_k, up2_s, q]
        exact ⟨trivial, trivial, trivial⟩
      · have n : 66 + j ≠ 66 + i := by omega
        rw [up2_a n, up2_a n, up2_a n, up2_a n, up2_a n, up2_a n, up2_a n, up2_a n, up2_a n]
        exact b1 j (by omega)
  · intro N I1 ⟨a1, b1⟩
    refine ⟨I1, ?_, a1, b1⟩
    show f_X12_lays_b2 (N + 1) 56 65 (nn m) (nn m) (st w I1 J) = _
    rw [f_X12_lays_b2, if_pos (by rw [nn_le (by omega) (by omega)]; omega)]
    rfl
theorem m_anew70 (S : Sw w) : ∃ I1, f_X12_beginsAnew_b70 NF 49 0 (st w I J) = some (.inl (), st w I1 J) ∧ Ag [49, 497] I I1 ∧ (∀ j, j ≠ 17 → j ≠ 31 → j ≠ 32 → j ≠ 33 → j ≠ 34 → I1 49 j = I 49 j) ∧ RwR I1 497 0 at0 ∧ I1 49 17 = 0 ∧ I1 49 31 = 0 ∧ I1 49 32 = 0 ∧ I1 49 33 = 0 ∧ I1 49 34 = 0 := by
  refine loopQ (fun N i (I1 : Is) => f_X12_beginsAnew_b70 N 49 (nn i) (st w I1 J)) 228 (fun i I1 => Ag [497] I I1 ∧ ∀ q, q < i → I1 497 q = 0) (fun z => ∃ I1, z = some (.inl (), st w I1 J) ∧ Ag [49, 497] I I1 ∧ (∀ j, j ≠ 17 → j ≠ 31 → j ≠ 32 → j ≠ 33 → j ≠ 34 → I1 49 j = I 49 j) ∧ RwR I1 497 0 at0 ∧ I1 49 17 = 0 ∧ I1 49 31 = 0 ∧ I1 49 32 = 0 ∧ I1 49 33 = 0 ∧ I1 49 34 = 0) ?_ ?_ 228 0 I NF (by omega) (NF_gt (by omega)) ⟨Ag.refl _ _, fun q hq => by omega⟩
  · intro N i I1 hi ⟨a1, b1⟩
    left
    refine ⟨up2 I1 497 i 0, ?_, a1.up (by decide), fun q hq => ?_⟩
    · show f_X12_beginsAnew_b70 (N + 1) 49 (nn i) (st w I1 J) = _
      rw [f_X12_beginsAnew_b70, if_neg (by rw [show (228 : Int32) = nn 228 from rfl, nn_le (by omega) (by omega)]; omega), bd_st (r_49_27 S), bd_st (s_497 S hi), nn_succ]
    · by_cases e : q = i
      · rw [e, up2_s]
      · rw [up2_k e]; exact b1 q (by omega)
  · intro N I1 ⟨a1, b1⟩
    obtain ⟨I2, hI2⟩ : ∃ I2, I2 = up2 (up2 (up2 (up2 (up2 I1 49 17 0) 49 31 0) 49 32 0) 49 33 0) 49 34 0 := ⟨_, rfl⟩
    have x : I2 497 = I1 497 := by
      rw [hI2]
      simp (disch := decide) only [up2_ra]
    refine ⟨I2, ?_, ?_, fun j h1 h2 h3 h4 h5 => ?_, ⟨fun p hp => ?_, ?_, fun i hi => absurd hi (Nat.not_lt_zero _)⟩, ?_⟩
    · show f_X12_beginsAnew_b70 (N + 1) 49 (nn 228) (st w I1 J) = _
      rw [f_X12_beginsAnew_b70, if_pos (by decide), bd_st (w_49_17 S), bd_st (w_49_31 S), bd_st (w_49_32 S), bd_st (w_49_33 S), bd_st (w_49_34 S), ← hI2]
      rfl
    · rw [hI2]
      exact (((((a1.mono (by decide)).up (by decide)).up (by decide)).up (by decide)).up (by decide)).up (by decide)
    · rw [hI2, up2_k h5, up2_k h4, up2_k h3, up2_k h2, up2_k h1]
      exact a1.at j (by decide)
    · rw [x, b1 _ (by omega), b1 _ (by omega), b1 _ (by omega)]
      exact ⟨rfl, rfl, rfl⟩
    · rw [x, b1 _ (by omega), b1 _ (by omega), b1 _ (by omega), b1 _ (by omega)]
      exact ⟨rfl, rfl, rfl, rfl⟩
    · rw [hI2]
      simp (disch := decide) only [up2_k, up2_s]
      exact ⟨trivial, trivial, trivial, trivial, trivial⟩
theorem m_anew (S : Sw w) (D : DM I G) (WG : FoW G) : ∃ I1, f_X12_beginsAnew 49 (st w I J) = some (.inl (), st w I1 J) ∧ Ag KN I I1 ∧ (∀ j, j ≠ 17 → j ≠ 31 → j ≠ 32 → j ≠ 33 → j ≠ 34 → I1 49 j = I 49 j) ∧ FoM I1 G ∧ RwR I1 497 0 at0 ∧ I1 49 17 = 0 ∧ I1 49 31 = 0 ∧ I1 49 32 = 0 ∧ I1 49 33 = 0 ∧ I1 49 34 = 0 := by
  have z8 := WG.1
  obtain ⟨D0, D1, D2, D3⟩ := D
  obtain ⟨I1, hI1⟩ : ∃ I1, I1 = up2 (up2 I 53 0 (nn (sz G))) 53 1 (nn (ak G)) := ⟨_, rfl⟩
  have a1 : Ag [53] I I1 := by rw [hI1]; exact ((Ag.refl _ _).up (by decide)).up (by decide)
  have e1 : f_X12_beginsAnew 49 (st w I J) = f_X12_beginsAnew_b27 NF 49 0 (st w I1 J) := by
    obtain ⟨M, hM⟩ : ∃ M, NF = M + 3 := ⟨9997, rfl⟩
    have l0 := l_52_0 (I := I) (J := J) S
    rw [D0] at l0
    have l1 := l_52_1 (I := up2 I 53 0 (nn (sz G))) (J := J) S
    rw [up2_a (by decide), D1] at l1
    unfold f_X12_beginsAnew
    rw [show f_X12_beginsAnew_b2 NF = f_X12_beginsAnew_b2 (M + 2 + 1) by rw [hM], f_X12_beginsAnew_b2, if_neg (by decide), bd_st (r_49_12 S), bd_st (r_49_11 S), bd_st l0, bd_st (s_53_0 S), show (0 : Int32) + 1 = 1 from rfl, show M + 2 = M + 1 + 1 from rfl, f_X12_beginsAnew_b2, if_neg (by decide), bd_st (r_49_12 S), bd_st (r_49_11 S), bd_st l1, bd_st (s_53_1 S), show (1 : Int32) + 1 = 2 from rfl, f_X12_beginsAnew_b2, if_pos (by decide), hI1]
  have key := loopQ (fun N i (I2 : Is) => f_X12_beginsAnew_b27 N 49 (nn i) (st w I2 J)) 8 (fun i I2 => Ag [55] I1 I2 ∧ ∀ q, q < i → I2 55 q = I1 54 q) (fun z => ∃ I2, z = (bd (f_X12_lays 56 65 (nn (sz G))) fun _ => f_X12_beginsAnew_b70 NF 49 0) (st w I2 J) ∧ Ag [55] I1 I2 ∧ ∀ q, q < 8 → I2 55 q = I1 54 q) ?_ ?_ 8 0 I1 NF (by omega) (NF_gt (by omega)) ⟨Ag.refl _ _, fun q hq => by omega⟩
  · obtain ⟨I2, e2, a2, b2⟩ := key
    obtain ⟨I3, e3, a3, b3⟩ := m_lays3 (I := I2) (J := J) (m := sz G) S z8
    obtain ⟨I4, e4, a4, g4, r4, rest⟩ := m_anew70 (I := I3) (J := J) S
    have t53 : I4 53 = I1 53 := by rw [a4 53 (by decide), a3 53 (by decide), a2 53 (by decide)]
    have t55 : I4 55 = I2 55 := by rw [a4 55 (by decide), a3 55 (by decide)]
    refine ⟨I4, ?_, ?_, fun j h1 h2 h3 h4 h5 => ?_, ⟨?_, ?_, fun p hp => ?_⟩, r4, rest⟩
    · rw [e1]
      refine e2.trans ?_
      rw [bd_st e3]
      exact e4
    · exact (((a1.mono (by decide)).trans (a2.mono (by decide))).trans (a3.mono (by decide))).trans (a4.mono (by decide))
    · rw [g4 j h1 h2 h3 h4 h5, a3 49 (by decide), a2 49 (by decide), a1 49 (by decide)]
    · rw [t53, hI1, up2_k (by decide), up2_s]
    · rw [t53, hI1, up2_s]
    · obtain ⟨q0, q1, q2⟩ := b3 p hp
      obtain ⟨d0, d1, d2⟩ := D2 p hp
      have t66 : I4 (66 + p) = I3 (66 + p) := a4 (66 + p) (by simp; omega)
      have t57 : I2 (57 + p) = I (57 + p) := by rw [a2 (57 + p) (by simp; omega), a1 (57 + p) (by simp; omega)]
      rw [t66, q0, q1, q2, t57, d0, d1, d2, t55, b2 p (by omega), a1 54 (by decide), D3 p (by omega), if_pos hp]
      exact ⟨rfl, rfl, rfl, rfl⟩
  · intro N i I2 hi ⟨a2, b2⟩
    left
    have l := l_54 (I := I2) (J := J) (k := i) S hi
    refine ⟨up2 I2 55 i (I2 54 i), ?_, a2.up (by decide), fun q hq => ?_⟩
    · show f_X12_beginsAnew_b27 (N + 1) 49 (nn i) (st w I2 J) = _
      rw [f_X12_beginsAnew_b27, if_neg (by rw [show (8 : Int32) = nn 8 from rfl, nn_le (by omega) (by omega)]; omega), bd_st (r_49_14 S), bd_st (r_49_13 S), bd_st l, bd_st (s_55 S hi), nn_succ]
    · by_cases e : q = i
      · rw [e, up2_s, a2 54 (by decide)]
      · rw [up2_k e]; exact b2 q (by omega)
  · intro N I2 ⟨a2, b2⟩
    have l := l_53_0 (I := I2) (J := J) S
    rw [a2 53 (by decide), hI1, up2_k (by decide), up2_s] at l
    refine ⟨I2, ?_, a2, b2⟩
    show f_X12_beginsAnew_b27 (N + 1) 49 (nn 8) (st w I2 J) = _
    rw [f_X12_beginsAnew_b27, if_pos (by decide), bd_st (r_49_15 S), bd_st (r_49_16 S), bd_st (r_49_12 S), bd_st l]
end TOWN11
