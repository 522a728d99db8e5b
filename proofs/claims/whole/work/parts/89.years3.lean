/-! PURE PART: the calls years and span -/
def inY (lo hi : Nat) (x : Int32) : Prop := ∃ k, (lo ≤ k ∧ k < hi) ∧ x = nn k
theorem inY_no {lo hi : Nat} (hh : hi < 2147483648) (hl : lo < 2147483648) {x : Int32} (h : ¬ inY lo hi x) : x < nn lo ∨ nn hi ≤ x := by
  by_cases h0 : x < nn lo
  · exact Or.inl h0
  · right
    by_cases h1 : x < 0
    · exfalso
      apply h0
      refine Int32.lt_of_lt_of_le h1 ?_
      rw [show (0 : Int32) = nn 0 from rfl, nn_le (by omega) hl]
      omega
    · obtain ⟨k, hk, rfl⟩ := nn_of h1
      rw [nn_lt hk hl] at h0
      rw [nn_le hh hk]
      rcases Nat.lt_or_ge k hi with q | q
      · exact absurd ⟨k, ⟨by omega, q⟩, rfl⟩ h
      · exact q
theorem my_ok {lo hi k : Nat} {a b : Int32} (ha : a = nn lo) (hb : b = nn (hi - 1)) (h : lo ≤ k ∧ k < hi) (hh : hi < 2147483648) {σ : PS} : f_X12_in (nn k) a b σ = some (.inl 1, σ) := by
  subst ha
  subst hb
  unfold f_X12_in
  rw [if_neg (by rw [nn_lt (by omega) (by omega)]; omega), if_neg (by rw [nn_lt (by omega) (by omega)]; omega)]
  rfl
theorem lt_pred {hi : Nat} (h0 : 0 < hi) (hh : hi < 2147483648) (x : Int32) (h : nn hi ≤ x) : nn (hi - 1) < x := by
  refine Int32.lt_of_lt_of_le ?_ h
  rw [nn_lt (by omega) hh]
  omega
theorem my_no {lo hi : Nat} {a b x : Int32} (ha : a = nn lo) (hb : b = nn (hi - 1)) (h0 : 0 < hi) (hl : lo < 2147483648) (hh : hi < 2147483648) (h : ¬ inY lo hi x) {σ : PS} : f_X12_in x a b σ = some (.inl 0, σ) := by
  subst ha
  subst hb
  unfold f_X12_in
  rcases inY_no hh hl h with q | q
  · rw [if_pos q]; rfl
  · by_cases q' : x < nn lo
    · rw [if_pos q']; rfl
    · rw [if_neg q', if_pos (lt_pred h0 hh x q)]; rfl
theorem or_pw : ∀ b, b < 8 → (1 : Int32) <<< (nn b &&& 31) = nn (2 ^ b) ∧ 2 ^ b < 256 := by decide
theorem had_b {F : Fo} {A : At} (W : AtW F A) (h8 : sz F ≤ 8) (x : Int32) : ∃ n, n < 256 ∧ hadP F A x = nn n := by
  rw [hadP_eq]
  have := lp_inv (f := fun i y => hdS F x (pl A i) y) (fun _ y => ∃ n, n < 256 ∧ y = nn n) (d := hg A) (i := 0) (x := 0) ⟨0, by decide, rfl⟩ (fun j y _ hj ⟨n, hn, e⟩ => by
    show ∃ m, m < 256 ∧ hdS F x (pl A j) y = nn m
    unfold hdS
    split
    · exact ⟨n, hn, e⟩
    · have hb : (pl A j).2.1 < sz F := (W.2.2 j (by omega)).2.1
      obtain ⟨p1, p2⟩ := or_pw (pl A j).2.1 (by omega)
      refine ⟨n ||| 2 ^ (pl A j).2.1, Nat.or_lt_two_pow (n := 8) hn p2, ?_⟩
      rw [e, p1, nn_or])
  exact this
section Y3
variable {w : Wd} {I : Is} {J : Js} {D : Dt}
theorem ny_ok (S : Sw w) {t q : Nat} (ht : 1 ≤ t ∧ t < 97) (hq : q < 17) : f_X11_needYears 0 (nn t) (nn q) (st w I J) = some (.inl (), st w I J) := by
  have h1 : ¬ nn t < 1 := by rw [show (1 : Int32) = nn 1 from rfl, nn_lt (by omega) (by omega)]; omega
  have h2 : ¬ (96 : Int32) < nn t := by rw [show (96 : Int32) = nn 96 from rfl, nn_lt (by omega) (by omega)]; omega
  simp (disch := omega) only [bd_eq, pu_ap, if_true, if_false, not_true_eq_false, not_false_eq_true, eq_self, v_0 S, r_0_0 S, r_0_1 S, r_0_2 S, r_0_3 S, r_0_4 S, r_0_5 S, r_0_6 S, r_0_7 S, r_0_8 S, r_0_9 S, r_0_10 S, r_0_11 S, r_0_12 S, n_0_13 S, i_0_14 S, i_0_15 S, i_0_16 S, i_0_17 S, v_1 S, r_1_0 S, i_1_1 S, i_1_2 S, i_1_3 S, i_1_4 S, i_1_5 S, i_1_6 S, v_3 S, r_3_0 S, r_3_1 S, r_3_2 S, r_3_3 S, i_3_4 S, i_3_5 S, v_8 S, r_8_0 S, r_8_1 S, r_8_2 S, r_8_3 S, i_8_4 S, i_8_5 S, v_13 S, r_13_0 S, r_13_1 S, i_13_2 S, v_16 S, r_16_0 S, r_16_1 S, i_16_2 S, v_19 S, r_19_0 S, r_19_1 S, r_19_2 S, r_19_3 S, i_19_4 S, i_19_5 S, i_19_6 S, i_19_7 S, v_24 S, r_24_0 S, r_24_1 S, r_24_2 S, r_24_3 S, i_24_4 S, j_24_5 S, v_28 S, r_28_0 S, r_28_1 S, r_28_2 S, v_30 S, r_30_0 S, r_30_1 S, r_30_2 S, r_30_3 S, i_30_4 S, i_30_5 S, v_33 S, r_33_0 S, r_33_1 S, r_33_2 S, r_33_3 S, i_33_4 S, i_33_5 S, v_37 S, r_37_0 S, r_37_1 S, i_37_2 S, i_37_3 S, i_37_4 S, f_X11_needYears, f_X11_needYears_b17, h1, h2, n_argT, cr_ok S (b := 16) (m := 17) rfl (by decide) hq]
theorem ny_no1 (S : Sw w) (hr : Rm w) {x y : Int32} (h : ¬ inY 1 97 x) : f_X11_needYears 0 x y (st w I J) = some (.inr (w.1, 14), st (tw w 14) (up2 I 0 17 (I 0 17 + 1)) J) := by
  by_cases q : x < 1
  · simp (disch := omega) only [bd_eq, pu_ap, if_true, if_false, not_true_eq_false, not_false_eq_true, eq_self, v_0 S, r_0_0 S, r_0_1 S, r_0_2 S, r_0_3 S, r_0_4 S, r_0_5 S, r_0_6 S, r_0_7 S, r_0_8 S, r_0_9 S, r_0_10 S, r_0_11 S, r_0_12 S, n_0_13 S, i_0_14 S, i_0_15 S, i_0_16 S, i_0_17 S, v_1 S, r_1_0 S, i_1_1 S, i_1_2 S, i_1_3 S, i_1_4 S, i_1_5 S, i_1_6 S, v_3 S, r_3_0 S, r_3_1 S, r_3_2 S, r_3_3 S, i_3_4 S, i_3_5 S, v_8 S, r_8_0 S, r_8_1 S, r_8_2 S, r_8_3 S, i_8_4 S, i_8_5 S, v_13 S, r_13_0 S, r_13_1 S, i_13_2 S, v_16 S, r_16_0 S, r_16_1 S, i_16_2 S, v_19 S, r_19_0 S, r_19_1 S, r_19_2 S, r_19_3 S, i_19_4 S, i_19_5 S, i_19_6 S, i_19_7 S, v_24 S, r_24_0 S, r_24_1 S, r_24_2 S, r_24_3 S, i_24_4 S, j_24_5 S, v_28 S, r_28_0 S, r_28_1 S, r_28_2 S, v_30 S, r_30_0 S, r_30_1 S, r_30_2 S, r_30_3 S, i_30_4 S, i_30_5 S, v_33 S, r_33_0 S, r_33_1 S, r_33_2 S, r_33_3 S, i_33_4 S, i_33_5 S, v_37 S, r_37_0 S, r_37_1 S, i_37_2 S, i_37_3 S, i_37_4 S, f_X11_needYears, f_X11_needYears_b16, f_X11_needYears_b17, q, n_argF S hr]
  · have h2 : (96 : Int32) < x := lt_pred (hi := 97) (by decide) (by decide) x ((inY_no (by decide) (by decide) h).resolve_left q)
    simp (disch := omega) only [bd_eq, pu_ap, if_true, if_false, not_true_eq_false, not_false_eq_true, eq_self, v_0 S, r_0_0 S, r_0_1 S, r_0_2 S, r_0_3 S, r_0_4 S, r_0_5 S, r_0_6 S, r_0_7 S, r_0_8 S, r_0_9 S, r_0_10 S, r_0_11 S, r_0_12 S, n_0_13 S, i_0_14 S, i_0_15 S, i_0_16 S, i_0_17 S, v_1 S, r_1_0 S, i_1_1 S, i_1_2 S, i_1_3 S, i_1_4 S, i_1_5 S, i_1_6 S, v_3 S, r_3_0 S, r_3_1 S, r_3_2 S, r_3_3 S, i_3_4 S, i_3_5 S, v_8 S, r_8_0 S, r_8_1 S, r_8_2 S, r_8_3 S, i_8_4 S, i_8_5 S, v_13 S, r_13_0 S, r_13_1 S, i_13_2 S, v_16 S, r_16_0 S, r_16_1 S, i_16_2 S, v_19 S, r_19_0 S, r_19_1 S, r_19_2 S, r_19_3 S, i_19_4 S, i_19_5 S, i_19_6 S, i_19_7 S, v_24 S, r_24_0 S, r_24_1 S, r_24_2 S, r_24_3 S, i_24_4 S, j_24_5 S, v_28 S, r_28_0 S, r_28_1 S, r_28_2 S, v_30 S, r_30_0 S, r_30_1 S, r_30_2 S, r_30_3 S, i_30_4 S, i_30_5 S, v_33 S, r_33_0 S, r_33_1 S, r_33_2 S, r_33_3 S, i_33_4 S, i_33_5 S, v_37 S, r_37_0 S, r_37_1 S, i_37_2 S, i_37_3 S, i_37_4 S, f_X11_needYears, f_X11_needYears_b16, f_X11_needYears_b17, q, h2, n_argF S hr]
theorem ny_no2 (S : Sw w) (hr : Rm w) {t : Nat} (ht : 1 ≤ t ∧ t < 97) {y : Int32} (h : ¬ inP 17 y) : f_X11_needYears 0 (nn t) y (st w I J) = some (.inr (w.1, 14), st (tw w 14) (up2 I 0 17 (I 0 17 + 1)) J) := by
  have h1 : ¬ nn t < 1 := by rw [show (1 : Int32) = nn 1 from rfl, nn_lt (by omega) (by omega)]; omega
  have h2 : ¬ (96 : Int32) < nn t := by rw [show (96 : Int32) = nn 96 from rfl, nn_lt (by omega) (by omega)]; omega
  simp (disch := omega) only [bd_eq, pu_ap, if_true, if_false, not_true_eq_false, not_false_eq_true, eq_self, v_0 S, r_0_0 S, r_0_1 S, r_0_2 S, r_0_3 S, r_0_4 S, r_0_5 S, r_0_6 S, r_0_7 S, r_0_8 S, r_0_9 S, r_0_10 S, r_0_11 S, r_0_12 S, n_0_13 S, i_0_14 S, i_0_15 S, i_0_16 S, i_0_17 S, v_1 S, r_1_0 S, i_1_1 S, i_1_2 S, i_1_3 S, i_1_4 S, i_1_5 S, i_1_6 S, v_3 S, r_3_0 S, r_3_1 S, r_3_2 S, r_3_3 S, i_3_4 S, i_3_5 S, v_8 S, r_8_0 S, r_8_1 S, r_8_2 S, r_8_3 S, i_8_4 S, i_8_5 S, v_13 S, r_13_0 S, r_13_1 S, i_13_2 S, v_16 S, r_16_0 S, r_16_1 S, i_16_2 S, v_19 S, r_19_0 S, r_19_1 S, r_19_2 S, r_19_3 S, i_19_4 S, i_19_5 S, i_19_6 S, i_19_7 S, v_24 S, r_24_0 S, r_24_1 S, r_24_2 S, r_24_3 S, i_24_4 S, j_24_5 S, v_28 S, r_28_0 S, r_28_1 S, r_28_2 S, v_30 S, r_30_0 S, r_30_1 S, r_30_2 S, r_30_3 S, i_30_4 S, i_30_5 S, v_33 S, r_33_0 S, r_33_1 S, r_33_2 S, r_33_3 S, i_33_4 S, i_33_5 S, v_37 S, r_37_0 S, r_37_1 S, i_37_2 S, i_37_3 S, i_37_4 S, f_X11_needYears, f_X11_needYears_b17, h1, h2, n_argT, cr_no S hr (b := 16) (m := 17) rfl (by decide) h]
theorem ay_ok {t q : Nat} (ht : 1 ≤ t ∧ t < 97) (hq : q < 17) {σ : PS} : f_X12_areYears (nn t) (nn q) σ = some (.inl 1, σ) := by
  simp (disch := omega) only [bd_eq, pu_ap, if_true, if_false, not_true_eq_false, not_false_eq_true, eq_self, f_X12_areYears, my_ok (lo := 1) (hi := 97) (a := 1) (b := 96) rfl rfl ht (by decide), mb_ok (b := 16) (m := 17) rfl (by decide) hq, show ((1 : Int32) = 0) = False from by decide]
theorem ay_no1 {x y : Int32} (h : ¬ inY 1 97 x) {σ : PS} : f_X12_areYears x y σ = some (.inl 0, σ) := by
  simp (disch := omega) only [bd_eq, pu_ap, if_true, if_false, not_true_eq_false, not_false_eq_true, eq_self, f_X12_areYears, my_no (lo := 1) (hi := 97) (a := 1) (b := 96) rfl rfl (by decide) (by decide) (by decide) h]
theorem ay_no2 {t : Nat} (ht : 1 ≤ t ∧ t < 97) {y : Int32} (h : ¬ inP 17 y) {σ : PS} : f_X12_areYears (nn t) y σ = some (.inl 0, σ) := by
  simp (disch := omega) only [bd_eq, pu_ap, if_true, if_false, not_true_eq_false, not_false_eq_true, eq_self, f_X12_areYears, my_ok (lo := 1) (hi := 97) (a := 1) (b := 96) rfl rfl ht (by decide), mb_no (b := 16) (m := 17) rfl (by decide) h, show ((1 : Int32) = 0) = False from by decide]
/-- a test of the model that fails, for IllegalArgumentException -/
theorem bad14 (S : Sw w) (HM : RM I D) (W : WD D) (J' : Js) : f_X12_bad 49 1 1 1 (st (tw w 14) (up2 (up2 I 0 17 (I 0 17 + 1)) 49 0 0) J') = some (.inl 1, st (tw w 14) (up2 (up2 (up2 (up2 I 0 17 (I 0 17 + 1)) 49 0 0) 49 0 1) 51 1 (I 51 1 + 1)) J') := by
  have z : up2 (up2 I 0 17 (I 0 17 + 1)) 49 0 0 51 1 = I 51 1 := by rw [up2_a (by decide), up2_a (by decide)]
  have e := mb_11 (J := J') (tw_Sw S 14) 1 (by decide) (show up2 (up2 I 0 17 (I 0 17 + 1)) 49 0 0 49 0 = 0 from up2_s)
  rw [z] at e
  exact e
theorem g_years (S : Sw w) (hr : Rm w) (HC : RC w I J D) (HM : RM I D) (W : WD D) (x1 x2 x3 x4 : Int32) : Call w I J 1 (f_X11_years 0 x1 x2 x3 x4) (f_X12_years 49 x1 x2 x3 x4) := by
  have hz : ¬ (1 : Int32) = 0 := by decide
  have S' := tw_Sw S 14
  by_cases h2 : inY 1 97 x2
  rotate_left
  · refine Or.inr (Or.inr ⟨?_, fun J' => ⟨0, ?_⟩⟩)
    · simp (disch := omega) only [bd_eq, pu_ap, if_true, if_false, not_true_eq_false, not_false_eq_true, eq_self, v_0 S, r_0_0 S, r_0_1 S, r_0_2 S, r_0_3 S, r_0_4 S, r_0_5 S, r_0_6 S, r_0_7 S, r_0_8 S, r_0_9 S, r_0_10 S, r_0_11 S, r_0_12 S, n_0_13 S, i_0_14 S, i_0_15 S, i_0_16 S, i_0_17 S, v_1 S, r_1_0 S, i_1_1 S, i_1_2 S, i_1_3 S, i_1_4 S, i_1_5 S, i_1_6 S, v_3 S, r_3_0 S, r_3_1 S, r_3_2 S, r_3_3 S, i_3_4 S, i_3_5 S, v_8 S, r_8_0 S, r_8_1 S, r_8_2 S, r_8_3 S, i_8_4 S, i_8_5 S, v_13 S, r_13_0 S, r_13_1 S, i_13_2 S, v_16 S, r_16_0 S, r_16_1 S, i_16_2 S, v_19 S, r_19_0 S, r_19_1 S, r_19_2 S, r_19_3 S, i_19_4 S, i_19_5 S, i_19_6 S, i_19_7 S, v_24 S, r_24_0 S, r_24_1 S, r_24_2 S, r_24_3 S, i_24_4 S, j_24_5 S, v_28 S, r_28_0 S, r_28_1 S, r_28_2 S, v_30 S, r_30_0 S, r_30_1 S, r_30_2 S, r_30_3 S, i_30_4 S, i_30_5 S, v_33 S, r_33_0 S, r_33_1 S, r_33_2 S, r_33_3 S, i_33_4 S, i_33_5 S, v_37 S, r_37_0 S, r_37_1 S, i_37_2 S, i_37_3 S, i_37_4 S, f_X11_years, ny_no1 S hr h2]
    · rw [f_X12_years, bd_st (w_49_0 S'), bd_st (ay_no1 h2), if_pos rfl, f_X12_years_b24, f_X12_years_b29, bd_st ((v_49 S').trans (bad14 S HM W J')), if_neg hz]
      rfl
  obtain ⟨t, ht, rfl⟩ := h2
  by_cases h3 : inP 17 x3
  rotate_left
  · refine Or.inr (Or.inr ⟨?_, fun J' => ⟨0, ?_⟩⟩)
    · simp (disch := omega) only [bd_eq, pu_ap, if_true, if_false, not_true_eq_false, not_false_eq_true, eq_self, v_0 S, r_0_0 S, r_0_1 S, r_0_2 S, r_0_3 S, r_0_4 S, r_0_5 S, r_0_6 S, r_0_7 S, r_0_8 S, r_0_9 S, r_0_10 S, r_0_11 S, r_0_12 S, n_0_13 S, i_0_14 S, i_0_15 S, i_0_16 S, i_0_17 S, v_1 S, r_1_0 S, i_1_1 S, i_1_2 S, i_1_3 S, i_1_4 S, i_1_5 S, i_1_6 S, v_3 S, r_3_0 S, r_3_1 S, r_3_2 S, r_3_3 S, i_3_4 S, i_3_5 S, v_8 S, r_8_0 S, r_8_1 S, r_8_2 S, r_8_3 S, i_8_4 S, i_8_5 S, v_13 S, r_13_0 S, r_13_1 S, i_13_2 S, v_16 S, r_16_0 S, r_16_1 S, i_16_2 S, v_19 S, r_19_0 S, r_19_1 S, r_19_2 S, r_19_3 S, i_19_4 S, i_19_5 S, i_19_6 S, i_19_7 S, v_24 S, r_24_0 S, r_24_1 S, r_24_2 S, r_24_3 S, i_24_4 S, j_24_5 S, v_28 S, r_28_0 S, r_28_1 S, r_28_2 S, v_30 S, r_30_0 S, r_30_1 S, r_30_2 S, r_30_3 S, i_30_4 S, i_30_5 S, v_33 S, r_33_0 S, r_33_1 S, r_33_2 S, r_33_3 S, i_33_4 S, i_33_5 S, v_37 S, r_37_0 S, r_37_1 S, i_37_2 S, i_37_3 S, i_37_4 S, f_X11_years, ny_no2 S hr ht h3]
    · rw [f_X12_years, bd_st (w_49_0 S'), bd_st (ay_no2 ht h3), if_pos rfl, f_X12_years_b24, f_X12_years_b29, bd_st ((v_49 S').trans (bad14 S HM W J')), if_neg hz]
      rfl
  obtain ⟨q, hq, rfl⟩ := h3
  by_cases h4 : inP 4 x4
  rotate_left
  · refine Or.inr (Or.inr ⟨?_, fun J' => ⟨0, ?_⟩⟩)
    · simp (disch := omega) only [bd_eq, pu_ap, if_true, if_false, not_true_eq_false, not_false_eq_true, eq_self, v_0 S, r_0_0 S, r_0_1 S, r_0_2 S, r_0_3 S, r_0_4 S, r_0_5 S, r_0_6 S, r_0_7 S, r_0_8 S, r_0_9 S, r_0_10 S, r_0_11 S, r_0_12 S, n_0_13 S, i_0_14 S, i_0_15 S, i_0_16 S, i_0_17 S, v_1 S, r_1_0 S, i_1_1 S, i_1_2 S, i_1_3 S, i_1_4 S, i_1_5 S, i_1_6 S, v_3 S, r_3_0 S, r_3_1 S, r_3_2 S, r_3_3 S, i_3_4 S, i_3_5 S, v_8 S, r_8_0 S, r_8_1 S, r_8_2 S, r_8_3 S, i_8_4 S, i_8_5 S, v_13 S, r_13_0 S, r_13_1 S, i_13_2 S, v_16 S, r_16_0 S, r_16_1 S, i_16_2 S, v_19 S, r_19_0 S, r_19_1 S, r_19_2 S, r_19_3 S, i_19_4 S, i_19_5 S, i_19_6 S, i_19_7 S, v_24 S, r_24_0 S, r_24_1 S, r_24_2 S, r_24_3 S, i_24_4 S, j_24_5 S, v_28 S, r_28_0 S, r_28_1 S, r_28_2 S, v_30 S, r_30_0 S, r_30_1 S, r_30_2 S, r_30_3 S, i_30_4 S, i_30_5 S, v_33 S, r_33_0 S, r_33_1 S, r_33_2 S, r_33_3 S, i_33_4 S, i_33_5 S, v_37 S, r_37_0 S, r_37_1 S, i_37_2 S, i_37_3 S, i_37_4 S, f_X11_years, ny_ok S ht hq, cr_no S hr (b := 3) (m := 4) rfl (by decide) h4]
    · rw [f_X12_years, bd_st (w_49_0 S'), bd_st (ay_ok ht hq), if_neg hz, bd_st (mb_no (b := 3) (m := 4) rfl (by decide) h4), if_pos rfl, f_X12_years_b24, f_X12_years_b29, bd_st ((v_49 S').trans (bad14 S HM W J')), if_neg hz]
      rfl
  obtain ⟨k, hk, rfl⟩ := h4
  refine Or.inl (Bod.call HC HM W ?_)
  clear HM HC
  intro I I' J J' HC HM
  have HMx := HM.t0 (v := 0) W
  obtain ⟨A, I1, I2, e1, e2, a1, a2, sA, rA, wA, u3, u4⟩ := yrs S W ht x1 (nn q) I (up2 I' 49 0 0) J J' HC HMx
  have HF := (HC.kc a1).1.1
  have MF := (HMx.agm W a2).1.1
  have WF := W.1
  have h8 := WF.1
  have T := StS_38 S
  have U := RoS_498 S
  have t0 : up2 I' 49 0 0 49 0 = 0 := up2_s
  obtain ⟨n, hn, en⟩ := had_b wA h8 (-1)
  have o1 := m_ones (z := n) hn (σ := st w I2 J')
  have hm := m_hadBy (J := J') S MF WF U rA wA
  rw [en] at hm
  have hc := c_hadBits (J := J) S HF h8 T sA wA (-1)
  rw [en] at hc
  rcases (show k = 0 ∨ k = 1 ∨ k = 2 ∨ k = 3 by omega) with h | h | h | h <;> subst h
  · refine ⟨nn (hg A), ⟨I1, ?_, a1⟩, I2, ?_, a2⟩
    · simp (disch := omega) only [bd_eq, pu_ap, if_true, if_false, not_true_eq_false, not_false_eq_true, eq_self, v_0 S, r_0_0 S, r_0_1 S, r_0_2 S, r_0_3 S, r_0_4 S, r_0_5 S, r_0_6 S, r_0_7 S, r_0_8 S, r_0_9 S, r_0_10 S, r_0_11 S, r_0_12 S, n_0_13 S, i_0_14 S, i_0_15 S, i_0_16 S, i_0_17 S, v_1 S, r_1_0 S, i_1_1 S, i_1_2 S, i_1_3 S, i_1_4 S, i_1_5 S, i_1_6 S, v_3 S, r_3_0 S, r_3_1 S, r_3_2 S, r_3_3 S, i_3_4 S, i_3_5 S, v_8 S, r_8_0 S, r_8_1 S, r_8_2 S, r_8_3 S, i_8_4 S, i_8_5 S, v_13 S, r_13_0 S, r_13_1 S, i_13_2 S, v_16 S, r_16_0 S, r_16_1 S, i_16_2 S, v_19 S, r_19_0 S, r_19_1 S, r_19_2 S, r_19_3 S, i_19_4 S, i_19_5 S, i_19_6 S, i_19_7 S, v_24 S, r_24_0 S, r_24_1 S, r_24_2 S, r_24_3 S, i_24_4 S, j_24_5 S, v_28 S, r_28_0 S, r_28_1 S, r_28_2 S, v_30 S, r_30_0 S, r_30_1 S, r_30_2 S, r_30_3 S, i_30_4 S, i_30_5 S, v_33 S, r_33_0 S, r_33_1 S, r_33_2 S, r_33_3 S, i_33_4 S, i_33_5 S, v_37 S, r_37_0 S, r_37_1 S, i_37_2 S, i_37_3 S, i_37_4 S, f_X11_years, ny_ok S ht hq, cr_ok S (b := 3) (m := 4) rfl (by decide) hk, e1, sw_at (x := nn 0) (lo := 0) 0 (by decide), List.getElem?_cons_succ, List.getElem?_cons_zero, List.getElem?_nil, Option.getD_some, Option.getD_none, e_i4 T, sr_hg sA]
    · rw [f_X12_years, bd_st (w_49_0 S), bd_st (ay_ok ht hq), if_neg hz, bd_st (mb_ok (b := 3) (m := 4) rfl (by decide) hk), if_neg hz, f_X12_years_b29, bd_st ((v_49 S).trans (mb_0 S _ _ t0)), if_pos rfl, bd_st ((v_49 S).trans e2), sw_at (x := nn 0) (lo := 0) 0 (by decide)]
      show bd (gR 12 28 49) _ (st w I2 J') = _
      rw [bd_st (r_49_28 S), bd_st (o_l24 U), rr_hg rA]
      rfl
  · refine ⟨I2 49 47, ⟨I1, ?_, a1⟩, I2, ?_, a2⟩
    · simp (disch := omega) only [bd_eq, pu_ap, if_true, if_false, not_true_eq_false, not_false_eq_true, eq_self, v_0 S, r_0_0 S, r_0_1 S, r_0_2 S, r_0_3 S, r_0_4 S, r_0_5 S, r_0_6 S, r_0_7 S, r_0_8 S, r_0_9 S, r_0_10 S, r_0_11 S, r_0_12 S, n_0_13 S, i_0_14 S, i_0_15 S, i_0_16 S, i_0_17 S, v_1 S, r_1_0 S, i_1_1 S, i_1_2 S, i_1_3 S, i_1_4 S, i_1_5 S, i_1_6 S, v_3 S, r_3_0 S, r_3_1 S, r_3_2 S, r_3_3 S, i_3_4 S, i_3_5 S, v_8 S, r_8_0 S, r_8_1 S, r_8_2 S, r_8_3 S, i_8_4 S, i_8_5 S, v_13 S, r_13_0 S, r_13_1 S, i_13_2 S, v_16 S, r_16_0 S, r_16_1 S, i_16_2 S, v_19 S, r_19_0 S, r_19_1 S, r_19_2 S, r_19_3 S, i_19_4 S, i_19_5 S, i_19_6 S, i_19_7 S, v_24 S, r_24_0 S, r_24_1 S, r_24_2 S, r_24_3 S, i_24_4 S, j_24_5 S, v_28 S, r_28_0 S, r_28_1 S, r_28_2 S, v_30 S, r_30_0 S, r_30_1 S, r_30_2 S, r_30_3 S, i_30_4 S, i_30_5 S, v_33 S, r_33_0 S, r_33_1 S, r_33_2 S, r_33_3 S, i_33_4 S, i_33_5 S, v_37 S, r_37_0 S, r_37_1 S, i_37_2 S, i_37_3 S, i_37_4 S, f_X11_years, ny_ok S ht hq, cr_ok S (b := 3) (m := 4) rfl (by decide) hk, e1, sw_at (x := nn 1) (lo := 0) 1 (by decide), List.getElem?_cons_succ, List.getElem?_cons_zero, List.getElem?_nil, Option.getD_some, Option.getD_none, u3]
    · rw [f_X12_years, bd_st (w_49_0 S), bd_st (ay_ok ht hq), if_neg hz, bd_st (mb_ok (b := 3) (m := 4) rfl (by decide) hk), if_neg hz, f_X12_years_b29, bd_st ((v_49 S).trans (mb_0 S _ _ t0)), if_pos rfl, bd_st ((v_49 S).trans e2), sw_at (x := nn 1) (lo := 0) 1 (by decide)]
      show bd (gI 12 47 49) _ (st w I2 J') = _
      rw [bd_st (i_49_47 S)]
      rfl
  · refine ⟨I2 49 48, ⟨I1, ?_, a1⟩, I2, ?_, a2⟩
    · simp (disch := omega) only [bd_eq, pu_ap, if_true, if_false, not_true_eq_false, not_false_eq_true, eq_self, v_0 S, r_0_0 S, r_0_1 S, r_0_2 S, r_0_3 S, r_0_4 S, r_0_5 S, r_0_6 S, r_0_7 S, r_0_8 S, r_0_9 S, r_0_10 S, r_0_11 S, r_0_12 S, n_0_13 S, i_0_14 S, i_0_15 S, i_0_16 S, i_0_17 S, v_1 S, r_1_0 S, i_1_1 S, i_1_2 S, i_1_3 S, i_1_4 S, i_1_5 S, i_1_6 S, v_3 S, r_3_0 S, r_3_1 S, r_3_2 S, r_3_3 S, i_3_4 S, i_3_5 S, v_8 S, r_8_0 S, r_8_1 S, r_8_2 S, r_8_3 S, i_8_4 S, i_8_5 S, v_13 S, r_13_0 S, r_13_1 S, i_13_2 S, v_16 S, r_16_0 S, r_16_1 S, i_16_2 S, v_19 S, r_19_0 S, r_19_1 S, r_19_2 S, r_19_3 S, i_19_4 S, i_19_5 S, i_19_6 S, i_19_7 S, v_24 S, r_24_0 S, r_24_1 S, r_24_2 S, r_24_3 S, i_24_4 S, j_24_5 S, v_28 S, r_28_0 S, r_28_1 S, r_28_2 S, v_30 S, r_30_0 S, r_30_1 S, r_30_2 S, r_30_3 S, i_30_4 S, i_30_5 S, v_33 S, r_33_0 S, r_33_1 S, r_33_2 S, r_33_3 S, i_33_4 S, i_33_5 S, v_37 S, r_37_0 S, r_37_1 S, i_37_2 S, i_37_3 S, i_37_4 S, f_X11_years, ny_ok S ht hq, cr_ok S (b := 3) (m := 4) rfl (by decide) hk, e1, sw_at (x := nn 2) (lo := 0) 2 (by decide), List.getElem?_cons_succ, List.getElem?_cons_zero, List.getElem?_nil, Option.getD_some, Option.getD_none, u4]
    · rw [f_X12_years, bd_st (w_49_0 S), bd_st (ay_ok ht hq), if_neg hz, bd_st (mb_ok (b := 3) (m := 4) rfl (by decide) hk), if_neg hz, f_X12_years_b29, bd_st ((v_49 S).trans (mb_0 S _ _ t0)), if_pos rfl, bd_st ((v_49 S).trans e2), sw_at (x := nn 2) (lo := 0) 2 (by decide)]
      show bd (gI 12 48 49) _ (st w I2 J') = _
      rw [bd_st (i_49_48 S)]
      rfl
  · refine ⟨bc32 (nn n), ⟨I1, ?_, a1⟩, I2, ?_, a2⟩
    · simp (disch := omega) only [bd_eq, pu_ap, if_true, if_false, not_true_eq_false, not_false_eq_true, eq_self, v_0 S, r_0_0 S, r_0_1 S, r_0_2 S, r_0_3 S, r_0_4 S, r_0_5 S, r_0_6 S, r_0_7 S, r_0_8 S, r_0_9 S, r_0_10 S, r_0_11 S, r_0_12 S, n_0_13 S, i_0_14 S, i_0_15 S, i_0_16 S, i_0_17 S, v_1 S, r_1_0 S, i_1_1 S, i_1_2 S, i_1_3 S, i_1_4 S, i_1_5 S, i_1_6 S, v_3 S, r_3_0 S, r_3_1 S, r_3_2 S, r_3_3 S, i_3_4 S, i_3_5 S, v_8 S, r_8_0 S, r_8_1 S, r_8_2 S, r_8_3 S, i_8_4 S, i_8_5 S, v_13 S, r_13_0 S, r_13_1 S, i_13_2 S, v_16 S, r_16_0 S, r_16_1 S, i_16_2 S, v_19 S, r_19_0 S, r_19_1 S, r_19_2 S, r_19_3 S, i_19_4 S, i_19_5 S, i_19_6 S, i_19_7 S, v_24 S, r_24_0 S, r_24_1 S, r_24_2 S, r_24_3 S, i_24_4 S, j_24_5 S, v_28 S, r_28_0 S, r_28_1 S, r_28_2 S, v_30 S, r_30_0 S, r_30_1 S, r_30_2 S, r_30_3 S, i_30_4 S, i_30_5 S, v_33 S, r_33_0 S, r_33_1 S, r_33_2 S, r_33_3 S, i_33_4 S, i_33_5 S, v_37 S, r_37_0 S, r_37_1 S, i_37_2 S, i_37_3 S, i_37_4 S, f_X11_years, ny_ok S ht hq, cr_ok S (b := 3) (m := 4) rfl (by decide) hk, e1, sw_at (x := nn 3) (lo := 0) 3 (by decide), List.getElem?_cons_succ, List.getElem?_cons_zero, List.getElem?_nil, Option.getD_some, Option.getD_none, hc]
    · rw [f_X12_years, bd_st (w_49_0 S), bd_st (ay_ok ht hq), if_neg hz, bd_st (mb_ok (b := 3) (m := 4) rfl (by decide) hk), if_neg hz, f_X12_years_b29, bd_st ((v_49 S).trans (mb_0 S _ _ t0)), if_pos rfl, bd_st ((v_49 S).trans e2), sw_at (x := nn 3) (lo := 0) 3 (by decide)]
      show bd (gR 12 28 49) _ (st w I2 J') = _
      rw [bd_st (r_49_28 S), bd_st ((v_49 S).trans hm), bd_st o1]
      rfl
theorem b_span (S : Sw w) (W : WD D) {many t k p : Nat} (hm : 1 ≤ many ∧ many < 21) (ht : 1 ≤ t ∧ t < 97) (hk : k < 3) (hp : p < sz (dF D)) (s q : Int32) : Bod w D (f_X11_span_b73 NF 0 s (nn many) (nn t) q (nn k) (nn p) 40 0 0 0) (f_X12_span_b71 NF 49 s (nn many) (nn t) q (nn k) (nn p) (-1) 0 0 0) := by
  intro I I' J J' HC HM H0
  have HCs := HC
  have HMs := HM
  obtain ⟨⟨HF, HA, HL, HW, HT, -⟩, -, -⟩ := HC
  obtain ⟨⟨MF, MA, ML, MW, MT, -⟩, -, -⟩ := HM
  have Ws := W
  obtain ⟨WF, ⟨WA, -, WB, -⟩, -, WL, WW, -⟩ := W
  have h8 := WF.1
  have h40 := WA.1
  have T := StS_43 S
  have U := RoS_497 S
  have q0 : (nn k = (0 : Int32)) = (k = 0) := nn_eq (b := 0) (by omega) (by omega)
  have q1 : (nn k = (1 : Int32)) = (k = 1) := nn_eq (b := 1) (by omega) (by omega)
  have T8 := StS_38 S
  have U8 := RoS_498 S
  refine loopS HCs HMs Ws H0 (fun N i (x : Int32 × Int32 × Int32) I => f_X11_span_b73 N 0 s (nn many) (nn t) q (nn k) (nn p) x.1 x.2.1 x.2.2 (nn i) (st w I J)) (fun N i (x : Int32 × Int32 × Int32) I => f_X12_span_b71 N 49 s (nn many) (nn t) q (nn k) (nn p) x.1 x.2.1 x.2.2 (nn i) (st w I J')) many (fun i x y _ _ => x.2 = y.2 ∧ (i = 0 ∧ x.1 = 40 ∧ y.1 = -1 ∨ ∃ n, n ≤ 40 ∧ x.1 = nn n ∧ y.1 = nn n)) ?_ ?_ (40, 0, 0) (-1, 0, 0) ⟨rfl, Or.inl ⟨rfl, rfl, rfl⟩⟩ (by omega)
  · intro N i ⟨x7, x8, x9⟩ ⟨y7, y8, y9⟩ I1 I2 hi ⟨hxy, h7⟩ a1 a2 HC HM _
    left
    simp only [Prod.mk.injEq] at hxy
    obtain ⟨h8', h9'⟩ := hxy
    subst h8'
    subst h9'
    have hn : ¬ nn many ≤ nn i := by rw [nn_le (by omega) (by omega)]; omega
    obtain ⟨A, I3, I4, e3, e4, a3, a4, sA, rA, wA, u3, u4⟩ := yrs S Ws ht (s + nn i) q I1 I2 J J' HC HM
    have HF3 := (HC.kc a3).1.1
    have MF4 := (HM.agm Ws a4).1.1
    have hA40 := wA.1
    have hc := c_hadBits (J := J) S HF3 h8 T8 sA wA (-1)
    have hmm := m_hadBy (J := J') S MF4 WF U8 rA wA
    have tm : x9 + ((hadP (dF D) A (-1) >>> (nn p &&& 31)) &&& 1) = if bit (hadP (dF D) A (-1)) p then x9 + 1 else x9 + 0 := by
      by_cases hb : bit (hadP (dF D) A (-1)) p
      · rw [if_pos hb, show ((hadP (dF D) A (-1) >>> (nn p &&& 31)) &&& 1) = 1 from hb]
      · rw [if_neg hb, bit0.1 hb]
    have i38 := e_i4 (I := I3) (J := J) T8
    rw [sr_hg sA] at i38
    have l24 := o_l24 (I := I4) (J := J') U8
    rw [rr_hg rA] at l24
    have eC : f_X11_span_b73 (N + 1) 0 s (nn many) (nn t) q (nn k) (nn p) x7 x8 x9 (nn i) (st w I1 J) = f_X11_span_b73 N 0 s (nn many) (nn t) q (nn k) (nn p) (mn32 x7 (nn (hg A))) (mx32 x8 (nn (hg A))) (if bit (hadP (dF D) A (-1)) p then x9 + 1 else x9 + 0) (nn (i + 1)) (st w I3 J) := by
      rw [f_X11_span_b73, if_neg hn, bd_st (r_0_10 S), bd_st (r_0_11 S), bd_st ((v_37 S).trans e3), bd_st (r_0_10 S), bd_st (r_37_1 S), bd_st i38, bd_st (r_0_10 S), bd_st (r_37_1 S), bd_st i38, bd_st (r_0_7 S), bd_st (r_0_10 S), bd_st (r_37_1 S), bd_st ((v_28 S).trans hc), tm, nn_succ]
    have eM : ∀ z, f_X12_span_b115 (f_X12_span_b71 N) 49 s (nn many) (nn t) q (nn k) (nn p) x8 x9 (nn i) (nn (hg A)) z (st w I4 J') = f_X12_span_b71 N 49 s (nn many) (nn t) q (nn k) (nn p) z (mx32 x8 (nn (hg A))) (if bit (hadP (dF D) A (-1)) p then x9 + 1 else x9 + 0) (nn (i + 1)) (st w I4 J') := by
      intro z
      rw [f_X12_span_b115, bd_st (m_more _ _), bd_st (r_49_28 S), bd_st ((v_49 S).trans hmm), bd_st m_has]
      by_cases hb : bit (hadP (dF D) A (-1)) p
      · rw [bI_t hb, if_neg (by decide), if_pos hb, f_X12_span_b149, nn_succ]
      · rw [bI_f hb, if_pos rfl, if_neg hb, f_X12_span_b149, nn_succ]
    rcases h7 with ⟨i0, z1, z2⟩ | ⟨n, n40, z1, z2⟩
    · have z1 : x7 = 40 := z1
      have z2 : y7 = -1 := z2
      subst z1
      subst z2
      have mnE : mn32 40 (nn (hg A)) = nn (hg A) := by
        unfold mn32
        by_cases hq : nn (hg A) < 40
        · rw [if_pos hq]
        · rw [if_neg hq]
          rw [nn40 hA40] at hq
          rw [show hg A = 40 by omega]
          rfl
      refine ⟨(nn (hg A), mx32 x8 (nn (hg A)), if bit (hadP (dF D) A (-1)) p then x9 + 1 else x9 + 0), (nn (hg A), mx32 x8 (nn (hg A)), if bit (hadP (dF D) A (-1)) p then x9 + 1 else x9 + 0), I3, I4, ?_, ?_, a3, a4, rfl, Or.inr ⟨hg A, hA40, rfl, rfl⟩⟩
      · show f_X11_span_b73 (N + 1) 0 s (nn many) (nn t) q (nn k) (nn p) 40 x8 x9 (nn i) (st w I1 J) = _
        rw [eC, mnE]
      · show f_X12_span_b71 (N + 1) 49 s (nn many) (nn t) q (nn k) (nn p) (-1) x8 x9 (nn i) (st w I2 J') = _
        rw [f_X12_span_b71, if_neg hn, bd_st ((v_49 S).trans e4), bd_st (r_49_28 S), bd_st l24, if_pos rfl]
        exact eM _
    · have z1 : x7 = nn n := z1
      have z2 : y7 = nn n := z2
      subst z1
      subst z2
      have hne : ¬ nn n = -1 := nn_ne_neg (by omega)
      refine ⟨(mn32 (nn n) (nn (hg A)), mx32 x8 (nn (hg A)), if bit (hadP (dF D) A (-1)) p then x9 + 1 else x9 + 0), (mn32 (nn n) (nn (hg A)), mx32 x8 (nn (hg A)), if bit (hadP (dF D) A (-1)) p then x9 + 1 else x9 + 0), I3, I4, eC, ?_, a3, a4, rfl, Or.inr ?_⟩
      · show f_X12_span_b71 (N + 1) 49 s (nn many) (nn t) q (nn k) (nn p) (nn n) x8 x9 (nn i) (st w I2 J') = _
        rw [f_X12_span_b71, if_neg hn, bd_st ((v_49 S).trans e4), bd_st (r_49_28 S), bd_st l24, if_neg hne, bd_st (m_less _ _)]
        exact eM _
      · show ∃ m, m ≤ 40 ∧ mn32 (nn n) (nn (hg A)) = nn m ∧ _
        by_cases hq : nn (hg A) < nn n
        · refine ⟨hg A, hA40, ?_, ?_⟩
          · unfold mn32; rw [if_pos hq]
          · show mn32 (nn n) (nn (hg A)) = _
            unfold mn32; rw [if_pos hq]
        · refine ⟨n, n40, ?_, ?_⟩
          · unfold mn32; rw [if_neg hq]
          · show mn32 (nn n) (nn (hg A)) = _
            unfold mn32; rw [if_neg hq]
  · intro N ⟨x7, x8, x9⟩ ⟨y7, y8, y9⟩ I1 I2 ⟨hxy, h7⟩ a1 a2 HC HM _
    simp only [Prod.mk.injEq] at hxy
    obtain ⟨h8', h9'⟩ := hxy
    subst h8'
    subst h9'
    have h77 : x7 = y7 := by
      rcases h7 with ⟨i0, -⟩ | ⟨n, n40, z1, z2⟩
      · omega
      · exact (show x7 = nn n from z1).trans (show y7 = nn n from z2).symm
    subst h77
    refine QQ.mk (if k = 0 then x7 else if k = 1 then x8 else x9) ?_ ?_
    · by_cases c0 : k = 0
      · simp (disch := omega) only [bd_eq, pu_ap, if_true, if_false, not_true_eq_false, not_false_eq_true, eq_self, f_X11_span_b73, Int32.le_refl, q0, eq_true c0]
      · by_cases c1 : k = 1
        · simp (disch := omega) only [bd_eq, pu_ap, if_true, if_false, not_true_eq_false, not_false_eq_true, eq_self, f_X11_span_b73, Int32.le_refl, q0, q1, eq_false c0, eq_true c1]
        · simp (disch := omega) only [bd_eq, pu_ap, if_true, if_false, not_true_eq_false, not_false_eq_true, eq_self, f_X11_span_b73, Int32.le_refl, q0, q1, eq_false c0, eq_false c1]
    · by_cases c0 : k = 0
      · simp (disch := omega) only [bd_eq, pu_ap, if_true, if_false, not_true_eq_false, not_false_eq_true, eq_self, f_X12_span_b71, Int32.le_refl, q0, eq_true c0]
      · by_cases c1 : k = 1
        · simp (disch := omega) only [bd_eq, pu_ap, if_true, if_false, not_true_eq_false, not_false_eq_true, eq_self, f_X12_span_b71, Int32.le_refl, q0, q1, eq_false c0, eq_true c1]
        · simp (disch := omega) only [bd_eq, pu_ap, if_true, if_false, not_true_eq_false, not_false_eq_true, eq_self, f_X12_span_b71, Int32.le_refl, q0, q1, eq_false c0, eq_false c1]
theorem g_span (S : Sw w) (hr : Rm w) (HC : RC w I J D) (HM : RM I D) (W : WD D) (x1 x2 x3 x4 x5 x6 : Int32) : Call w I J 1 (f_X11_span 0 x1 x2 x3 x4 x5 x6) (f_X12_span 49 x1 x2 x3 x4 x5 x6) := by
  have hz : ¬ (1 : Int32) = 0 := by decide
  have S' := tw_Sw S 14
  have HF := HC.1.1
  have h8 := W.1.1
  by_cases h2 : inY 1 21 x2
  rotate_left
  · refine Or.inr (Or.inr ⟨?_, fun J' => ⟨0, ?_⟩⟩)
    · by_cases q : x2 < 1
      · simp (disch := omega) only [bd_eq, pu_ap, if_true, if_false, not_true_eq_false, not_false_eq_true, eq_self, v_0 S, r_0_0 S, r_0_1 S, r_0_2 S, r_0_3 S, r_0_4 S, r_0_5 S, r_0_6 S, r_0_7 S, r_0_8 S, r_0_9 S, r_0_10 S, r_0_11 S, r_0_12 S, n_0_13 S, i_0_14 S, i_0_15 S, i_0_16 S, i_0_17 S, v_1 S, r_1_0 S, i_1_1 S, i_1_2 S, i_1_3 S, i_1_4 S, i_1_5 S, i_1_6 S, v_3 S, r_3_0 S, r_3_1 S, r_3_2 S, r_3_3 S, i_3_4 S, i_3_5 S, v_8 S, r_8_0 S, r_8_1 S, r_8_2 S, r_8_3 S, i_8_4 S, i_8_5 S, v_13 S, r_13_0 S, r_13_1 S, i_13_2 S, v_16 S, r_16_0 S, r_16_1 S, i_16_2 S, v_19 S, r_19_0 S, r_19_1 S, r_19_2 S, r_19_3 S, i_19_4 S, i_19_5 S, i_19_6 S, i_19_7 S, v_24 S, r_24_0 S, r_24_1 S, r_24_2 S, r_24_3 S, i_24_4 S, j_24_5 S, v_28 S, r_28_0 S, r_28_1 S, r_28_2 S, v_30 S, r_30_0 S, r_30_1 S, r_30_2 S, r_30_3 S, i_30_4 S, i_30_5 S, v_33 S, r_33_0 S, r_33_1 S, r_33_2 S, r_33_3 S, i_33_4 S, i_33_5 S, v_37 S, r_37_0 S, r_37_1 S, i_37_2 S, i_37_3 S, i_37_4 S, f_X11_span, f_X11_span_b16, f_X11_span_b17, q, n_argF S hr]
      · have h2' : (20 : Int32) < x2 := lt_pred (hi := 21) (by decide) (by decide) x2 ((inY_no (by decide) (by decide) h2).resolve_left q)
        simp (disch := omega) only [bd_eq, pu_ap, if_true, if_false, not_true_eq_false, not_false_eq_true, eq_self, v_0 S, r_0_0 S, r_0_1 S, r_0_2 S, r_0_3 S, r_0_4 S, r_0_5 S, r_0_6 S, r_0_7 S, r_0_8 S, r_0_9 S, r_0_10 S, r_0_11 S, r_0_12 S, n_0_13 S, i_0_14 S, i_0_15 S, i_0_16 S, i_0_17 S, v_1 S, r_1_0 S, i_1_1 S, i_1_2 S, i_1_3 S, i_1_4 S, i_1_5 S, i_1_6 S, v_3 S, r_3_0 S, r_3_1 S, r_3_2 S, r_3_3 S, i_3_4 S, i_3_5 S, v_8 S, r_8_0 S, r_8_1 S, r_8_2 S, r_8_3 S, i_8_4 S, i_8_5 S, v_13 S, r_13_0 S, r_13_1 S, i_13_2 S, v_16 S, r_16_0 S, r_16_1 S, i_16_2 S, v_19 S, r_19_0 S, r_19_1 S, r_19_2 S, r_19_3 S, i_19_4 S, i_19_5 S, i_19_6 S, i_19_7 S, v_24 S, r_24_0 S, r_24_1 S, r_24_2 S, r_24_3 S, i_24_4 S, j_24_5 S, v_28 S, r_28_0 S, r_28_1 S, r_28_2 S, v_30 S, r_30_0 S, r_30_1 S, r_30_2 S, r_30_3 S, i_30_4 S, i_30_5 S, v_33 S, r_33_0 S, r_33_1 S, r_33_2 S, r_33_3 S, i_33_4 S, i_33_5 S, v_37 S, r_37_0 S, r_37_1 S, i_37_2 S, i_37_3 S, i_37_4 S, f_X11_span, f_X11_span_b16, f_X11_span_b17, q, h2', n_argF S hr]
    · rw [f_X12_span, bd_st (w_49_0 S'), bd_st (my_no (lo := 1) (hi := 21) (a := 1) (b := 20) rfl rfl (by decide) (by decide) (by decide) h2), if_pos rfl, f_X12_span_b44, f_X12_span_b49, bd_st ((v_49 S').trans (bad14 S HM W J')), if_neg hz]
      rfl
  obtain ⟨m, hm, rfl⟩ := h2
  have m1 : ¬ nn m < 1 := by rw [show (1 : Int32) = nn 1 from rfl, nn_lt (by omega) (by omega)]; omega
  have m2 : ¬ (20 : Int32) < nn m := by rw [show (20 : Int32) = nn 20 from rfl, nn_lt (by omega) (by omega)]; omega
  by_cases h3 : inY 1 97 x3
  rotate_left
  · refine Or.inr (Or.inr ⟨?_, fun J' => ⟨0, ?_⟩⟩)
    · simp (disch := omega) only [bd_eq, pu_ap, if_true, if_false, not_true_eq_false, not_false_eq_true, eq_self, v_0 S, r_0_0 S, r_0_1 S, r_0_2 S, r_0_3 S, r_0_4 S, r_0_5 S, r_0_6 S, r_0_7 S, r_0_8 S, r_0_9 S, r_0_10 S, r_0_11 S, r_0_12 S, n_0_13 S, i_0_14 S, i_0_15 S, i_0_16 S, i_0_17 S, v_1 S, r_1_0 S, i_1_1 S, i_1_2 S, i_1_3 S, i_1_4 S, i_1_5 S, i_1_6 S, v_3 S, r_3_0 S, r_3_1 S, r_3_2 S, r_3_3 S, i_3_4 S, i_3_5 S, v_8 S, r_8_0 S, r_8_1 S, r_8_2 S, r_8_3 S, i_8_4 S, i_8_5 S, v_13 S, r_13_0 S, r_13_1 S, i_13_2 S, v_16 S, r_16_0 S, r_16_1 S, i_16_2 S, v_19 S, r_19_0 S, r_19_1 S, r_19_2 S, r_19_3 S, i_19_4 S, i_19_5 S, i_19_6 S, i_19_7 S, v_24 S, r_24_0 S, r_24_1 S, r_24_2 S, r_24_3 S, i_24_4 S, j_24_5 S, v_28 S, r_28_0 S, r_28_1 S, r_28_2 S, v_30 S, r_30_0 S, r_30_1 S, r_30_2 S, r_30_3 S, i_30_4 S, i_30_5 S, v_33 S, r_33_0 S, r_33_1 S, r_33_2 S, r_33_3 S, i_33_4 S, i_33_5 S, v_37 S, r_37_0 S, r_37_1 S, i_37_2 S, i_37_3 S, i_37_4 S, f_X11_span, f_X11_span_b17, m1, m2, n_argT, ny_no1 S hr h3]
    · rw [f_X12_span, bd_st (w_49_0 S'), bd_st (my_ok (lo := 1) (hi := 21) (a := 1) (b := 20) rfl rfl hm (by decide)), if_neg hz, bd_st (ay_no1 h3), if_pos rfl, f_X12_span_b44, f_X12_span_b49, bd_st ((v_49 S').trans (bad14 S HM W J')), if_neg hz]
      rfl
  obtain ⟨t, ht, rfl⟩ := h3
  by_cases h4 : inP 17 x4
  rotate_left
  · refine Or.inr (Or.inr ⟨?_, fun J' => ⟨0, ?_⟩⟩)
    · simp (disch := omega) only [bd_eq, pu_ap, if_true, if_false, not_true_eq_false, not_false_eq_true, eq_self, v_0 S, r_0_0 S, r_0_1 S, r_0_2 S, r_0_3 S, r_0_4 S, r_0_5 S, r_0_6 S, r_0_7 S, r_0_8 S, r_0_9 S, r_0_10 S, r_0_11 S, r_0_12 S, n_0_13 S, i_0_14 S, i_0_15 S, i_0_16 S, i_0_17 S, v_1 S, r_1_0 S, i_1_1 S, i_1_2 S, i_1_3 S, i_1_4 S, i_1_5 S, i_1_6 S, v_3 S, r_3_0 S, r_3_1 S, r_3_2 S, r_3_3 S, i_3_4 S, i_3_5 S, v_8 S, r_8_0 S, r_8_1 S, r_8_2 S, r_8_3 S, i_8_4 S, i_8_5 S, v_13 S, r_13_0 S, r_13_1 S, i_13_2 S, v_16 S, r_16_0 S, r_16_1 S, i_16_2 S, v_19 S, r_19_0 S, r_19_1 S, r_19_2 S, r_19_3 S, i_19_4 S, i_19_5 S, i_19_6 S, i_19_7 S, v_24 S, r_24_0 S, r_24_1 S, r_24_2 S, r_24_3 S, i_24_4 S, j_24_5 S, v_28 S, r_28_0 S, r_28_1 S, r_28_2 S, v_30 S, r_30_0 S, r_30_1 S, r_30_2 S, r_30_3 S, i_30_4 S, i_30_5 S, v_33 S, r_33_0 S, r_33_1 S, r_33_2 S, r_33_3 S, i_33_4 S, i_33_5 S, v_37 S, r_37_0 S, r_37_1 S, i_37_2 S, i_37_3 S, i_37_4 S, f_X11_span, f_X11_span_b17, m1, m2, n_argT, ny_no2 S hr ht h4]
    · rw [f_X12_span, bd_st (w_49_0 S'), bd_st (my_ok (lo := 1) (hi := 21) (a := 1) (b := 20) rfl rfl hm (by decide)), if_neg hz, bd_st (ay_no2 ht h4), if_pos rfl, f_X12_span_b44, f_X12_span_b49, bd_st ((v_49 S').trans (bad14 S HM W J')), if_neg hz]
      rfl
  obtain ⟨q, hq, rfl⟩ := h4
  by_cases h5 : inP 3 x5
  rotate_left
  · refine Or.inr (Or.inr ⟨?_, fun J' => ⟨0, ?_⟩⟩)
    · simp (disch := omega) only [bd_eq, pu_ap, if_true, if_false, not_true_eq_false, not_false_eq_true, eq_self, v_0 S, r_0_0 S, r_0_1 S, r_0_2 S, r_0_3 S, r_0_4 S, r_0_5 S, r_0_6 S, r_0_7 S, r_0_8 S, r_0_9 S, r_0_10 S, r_0_11 S, r_0_12 S, n_0_13 S, i_0_14 S, i_0_15 S, i_0_16 S, i_0_17 S, v_1 S, r_1_0 S, i_1_1 S, i_1_2 S, i_1_3 S, i_1_4 S, i_1_5 S, i_1_6 S, v_3 S, r_3_0 S, r_3_1 S, r_3_2 S, r_3_3 S, i_3_4 S, i_3_5 S, v_8 S, r_8_0 S, r_8_1 S, r_8_2 S, r_8_3 S, i_8_4 S, i_8_5 S, v_13 S, r_13_0 S, r_13_1 S, i_13_2 S, v_16 S, r_16_0 S, r_16_1 S, i_16_2 S, v_19 S, r_19_0 S, r_19_1 S, r_19_2 S, r_19_3 S, i_19_4 S, i_19_5 S, i_19_6 S, i_19_7 S, v_24 S, r_24_0 S, r_24_1 S, r_24_2 S, r_24_3 S, i_24_4 S, j_24_5 S, v_28 S, r_28_0 S, r_28_1 S, r_28_2 S, v_30 S, r_30_0 S, r_30_1 S, r_30_2 S, r_30_3 S, i_30_4 S, i_30_5 S, v_33 S, r_33_0 S, r_33_1 S, r_33_2 S, r_33_3 S, i_33_4 S, i_33_5 S, v_37 S, r_37_0 S, r_37_1 S, i_37_2 S, i_37_3 S, i_37_4 S, f_X11_span, f_X11_span_b17, m1, m2, n_argT, ny_ok S ht hq, cr_no S hr (b := 2) (m := 3) rfl (by decide) h5]
    · rw [f_X12_span, bd_st (w_49_0 S'), bd_st (my_ok (lo := 1) (hi := 21) (a := 1) (b := 20) rfl rfl hm (by decide)), if_neg hz, bd_st (ay_ok ht hq), if_neg hz, bd_st (mb_no (b := 2) (m := 3) rfl (by decide) h5), if_pos rfl, f_X12_span_b44, f_X12_span_b49, bd_st ((v_49 S').trans (bad14 S HM W J')), if_neg hz]
      rfl
  obtain ⟨k, hk, rfl⟩ := h5
  by_cases h6 : inP (sz (dF D)) x6
  rotate_left
  · refine Or.inr (Or.inr ⟨?_, fun J' => ⟨0, ?_⟩⟩)
    · by_cases q0 : x6 < 0
      · simp (disch := omega) only [bd_eq, pu_ap, if_true, if_false, not_true_eq_false, not_false_eq_true, eq_self, v_0 S, r_0_0 S, r_0_1 S, r_0_2 S, r_0_3 S, r_0_4 S, r_0_5 S, r_0_6 S, r_0_7 S, r_0_8 S, r_0_9 S, r_0_10 S, r_0_11 S, r_0_12 S, n_0_13 S, i_0_14 S, i_0_15 S, i_0_16 S, i_0_17 S, v_1 S, r_1_0 S, i_1_1 S, i_1_2 S, i_1_3 S, i_1_4 S, i_1_5 S, i_1_6 S, v_3 S, r_3_0 S, r_3_1 S, r_3_2 S, r_3_3 S, i_3_4 S, i_3_5 S, v_8 S, r_8_0 S, r_8_1 S, r_8_2 S, r_8_3 S, i_8_4 S, i_8_5 S, v_13 S, r_13_0 S, r_13_1 S, i_13_2 S, v_16 S, r_16_0 S, r_16_1 S, i_16_2 S, v_19 S, r_19_0 S, r_19_1 S, r_19_2 S, r_19_3 S, i_19_4 S, i_19_5 S, i_19_6 S, i_19_7 S, v_24 S, r_24_0 S, r_24_1 S, r_24_2 S, r_24_3 S, i_24_4 S, j_24_5 S, v_28 S, r_28_0 S, r_28_1 S, r_28_2 S, v_30 S, r_30_0 S, r_30_1 S, r_30_2 S, r_30_3 S, i_30_4 S, i_30_5 S, v_33 S, r_33_0 S, r_33_1 S, r_33_2 S, r_33_3 S, i_33_4 S, i_33_5 S, v_37 S, r_37_0 S, r_37_1 S, i_37_2 S, i_37_3 S, i_37_4 S, f_X11_span, f_X11_span_b17, f_X11_span_b56, f_X11_span_b57, m1, m2, n_argT, ny_ok S ht hq, cr_ok S (b := 2) (m := 3) rfl (by decide) hk, q0, n_argF S hr]
      · have h7 := (in_no (by omega) h6).resolve_left q0
        simp (disch := omega) only [bd_eq, pu_ap, if_true, if_false, not_true_eq_false, not_false_eq_true, eq_self, v_0 S, r_0_0 S, r_0_1 S, r_0_2 S, r_0_3 S, r_0_4 S, r_0_5 S, r_0_6 S, r_0_7 S, r_0_8 S, r_0_9 S, r_0_10 S, r_0_11 S, r_0_12 S, n_0_13 S, i_0_14 S, i_0_15 S, i_0_16 S, i_0_17 S, v_1 S, r_1_0 S, i_1_1 S, i_1_2 S, i_1_3 S, i_1_4 S, i_1_5 S, i_1_6 S, v_3 S, r_3_0 S, r_3_1 S, r_3_2 S, r_3_3 S, i_3_4 S, i_3_5 S, v_8 S, r_8_0 S, r_8_1 S, r_8_2 S, r_8_3 S, i_8_4 S, i_8_5 S, v_13 S, r_13_0 S, r_13_1 S, i_13_2 S, v_16 S, r_16_0 S, r_16_1 S, i_16_2 S, v_19 S, r_19_0 S, r_19_1 S, r_19_2 S, r_19_3 S, i_19_4 S, i_19_5 S, i_19_6 S, i_19_7 S, v_24 S, r_24_0 S, r_24_1 S, r_24_2 S, r_24_3 S, i_24_4 S, j_24_5 S, v_28 S, r_28_0 S, r_28_1 S, r_28_2 S, v_30 S, r_30_0 S, r_30_1 S, r_30_2 S, r_30_3 S, i_30_4 S, i_30_5 S, v_33 S, r_33_0 S, r_33_1 S, r_33_2 S, r_33_3 S, i_33_4 S, i_33_5 S, v_37 S, r_37_0 S, r_37_1 S, i_37_2 S, i_37_3 S, i_37_4 S, f_X11_span, f_X11_span_b17, f_X11_span_b56, f_X11_span_b57, m1, m2, n_argT, ny_ok S ht hq, cr_ok S (b := 2) (m := 3) rfl (by decide) hk, q0, fc_sz HF, h7, n_argF S hr]
    · have HMx : RM (up2 (up2 I 0 17 (I 0 17 + 1)) 49 0 0) D := (HM.ag W ((Ag.refl [0] I).up (by decide)) (by decide)).t0 W
      rw [f_X12_span, bd_st (w_49_0 S'), bd_st (my_ok (lo := 1) (hi := 21) (a := 1) (b := 20) rfl rfl hm (by decide)), if_neg hz, bd_st (ay_ok ht hq), if_neg hz, bd_st (mb_ok (b := 2) (m := 3) rfl (by decide) hk), if_neg hz, bd_st ((v_49 S').trans (mp_no S' HMx.1.1 h8 h6)), if_pos rfl, f_X12_span_b44, f_X12_span_b49, bd_st ((v_49 S').trans (bad14 S HM W J')), if_neg hz]
      rfl
  obtain ⟨p, hp, rfl⟩ := h6
  refine Or.inl (Bod.call HC HM W ?_)
  clear HM HC HF
  intro I I' J J' HC HM
  have HMx := HM.t0 (v := 0) W
  have HF := HC.1.1
  obtain ⟨v, ⟨I1, e1, a1⟩, I2, e2, a2⟩ := b_span S W hm ht hk hp x1 (nn q) I (up2 I' 49 0 0) J J' HC HMx up2_s
  have t0 : up2 I' 49 0 0 49 0 = 0 := up2_s
  have p0 : ¬ nn p < 0 := nn_nneg (by omega)
  have p1 : ¬ sz (dF D) ≤ p := by omega
  refine ⟨v, ⟨I1, ?_, a1⟩, I2, ?_, a2⟩
  · simp (disch := omega) only [bd_eq, pu_ap, if_true, if_false, not_true_eq_false, not_false_eq_true, eq_self, v_0 S, r_0_0 S, r_0_1 S, r_0_2 S, r_0_3 S, r_0_4 S, r_0_5 S, r_0_6 S, r_0_7 S, r_0_8 S, r_0_9 S, r_0_10 S, r_0_11 S, r_0_12 S, n_0_13 S, i_0_14 S, i_0_15 S, i_0_16 S, i_0_17 S, v_1 S, r_1_0 S, i_1_1 S, i_1_2 S, i_1_3 S, i_1_4 S, i_1_5 S, i_1_6 S, v_3 S, r_3_0 S, r_3_1 S, r_3_2 S, r_3_3 S, i_3_4 S, i_3_5 S, v_8 S, r_8_0 S, r_8_1 S, r_8_2 S, r_8_3 S, i_8_4 S, i_8_5 S, v_13 S, r_13_0 S, r_13_1 S, i_13_2 S, v_16 S, r_16_0 S, r_16_1 S, i_16_2 S, v_19 S, r_19_0 S, r_19_1 S, r_19_2 S, r_19_3 S, i_19_4 S, i_19_5 S, i_19_6 S, i_19_7 S, v_24 S, r_24_0 S, r_24_1 S, r_24_2 S, r_24_3 S, i_24_4 S, j_24_5 S, v_28 S, r_28_0 S, r_28_1 S, r_28_2 S, v_30 S, r_30_0 S, r_30_1 S, r_30_2 S, r_30_3 S, i_30_4 S, i_30_5 S, v_33 S, r_33_0 S, r_33_1 S, r_33_2 S, r_33_3 S, i_33_4 S, i_33_5 S, v_37 S, r_37_0 S, r_37_1 S, i_37_2 S, i_37_3 S, i_37_4 S, f_X11_span, f_X11_span_b17, f_X11_span_b57, m1, m2, n_argT, ny_ok S ht hq, cr_ok S (b := 2) (m := 3) rfl (by decide) hk, p0, fc_sz HF, nn_le, p1, e1]
  · rw [f_X12_span, bd_st (w_49_0 S), bd_st (my_ok (lo := 1) (hi := 21) (a := 1) (b := 20) rfl rfl hm (by decide)), if_neg hz, bd_st (ay_ok ht hq), if_neg hz, bd_st (mb_ok (b := 2) (m := 3) rfl (by decide) hk), if_neg hz, bd_st ((v_49 S).trans (mp_ok S HMx.1.1 h8 hp)), if_neg hz, f_X12_span_b49, bd_st ((v_49 S).trans (mb_0 S _ _ t0)), if_pos rfl]
    exact e2
end Y3
