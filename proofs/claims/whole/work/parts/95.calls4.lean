/-! PURE PART: calls with their tests, fourth -/
section C95
variable {w : Wd} {I : Is} {J : Js} {D : Dt}
theorem g_hold (S : Sw w) (hr : Rm w) (HC : RC w I J D) (HM : RM I D) (W : WD D) (x1 : Int32) : Call w I J 1 (f_X11_hold 0 x1) (f_X12_hold 49 x1) := by
  have HF := HC.1.1
  have h8 := W.1.1
  by_cases h1 : inP 2 x1
  rotate_left
  · refine Or.inr (Or.inr ⟨?_, fun J' => ⟨0, ?_⟩⟩)
    · simp (disch := omega) only [bd_eq, pu_ap, if_true, if_false, not_true_eq_false, not_false_eq_true, eq_self, v_0 S, r_0_0 S, r_0_1 S, r_0_2 S, r_0_3 S, r_0_4 S, r_0_5 S, r_0_6 S, r_0_7 S, r_0_8 S, r_0_9 S, r_0_10 S, r_0_11 S, r_0_12 S, n_0_13 S, i_0_14 S, i_0_15 S, i_0_16 S, i_0_17 S, v_1 S, r_1_0 S, i_1_1 S, i_1_2 S, i_1_3 S, i_1_4 S, i_1_5 S, i_1_6 S, v_3 S, r_3_0 S, r_3_1 S, r_3_2 S, r_3_3 S, i_3_4 S, i_3_5 S, v_8 S, r_8_0 S, r_8_1 S, r_8_2 S, r_8_3 S, i_8_4 S, i_8_5 S, v_13 S, r_13_0 S, r_13_1 S, i_13_2 S, v_16 S, r_16_0 S, r_16_1 S, i_16_2 S, v_19 S, r_19_0 S, r_19_1 S, r_19_2 S, r_19_3 S, i_19_4 S, i_19_5 S, i_19_6 S, i_19_7 S, v_24 S, r_24_0 S, r_24_1 S, r_24_2 S, r_24_3 S, i_24_4 S, j_24_5 S, v_28 S, r_28_0 S, r_28_1 S, r_28_2 S, v_30 S, r_30_0 S, r_30_1 S, r_30_2 S, r_30_3 S, i_30_4 S, i_30_5 S, v_33 S, r_33_0 S, r_33_1 S, r_33_2 S, r_33_3 S, i_33_4 S, i_33_5 S, v_37 S, r_37_0 S, r_37_1 S, i_37_2 S, i_37_3 S, i_37_4 S, f_X11_hold, cr_no S hr (b := 1) (m := 2) rfl (by decide) h1]
    · have S1 := S
      have S := tw_Sw S 14
      have HMx : RM (up2 (up2 I 0 17 (I 0 17 + 1)) 49 0 0) D := (HM.ag W ((Ag.refl [0] I).up (by decide)) (by decide)).t0 W
      have MF := HMx.1.1
      have t0 : up2 (up2 I 0 17 (I 0 17 + 1)) 49 0 0 49 0 = 0 := up2_s
      simp (disch := omega) only [bd_eq, pu_ap, if_true, if_false, not_true_eq_false, not_false_eq_true, eq_self, v_49 S, i_49_0 S, i_49_1 S, i_49_2 S, i_49_3 S, i_49_4 S, i_49_5 S, i_49_6 S, i_49_7 S, i_49_8 S, r_49_9 S, r_49_10 S, r_49_11 S, r_49_12 S, r_49_13 S, r_49_14 S, r_49_15 S, r_49_16 S, i_49_17 S, i_49_18 S, r_49_19 S, r_49_20 S, r_49_21 S, r_49_22 S, r_49_23 S, r_49_24 S, r_49_25 S, i_49_26 S, r_49_27 S, r_49_28 S, r_49_29 S, r_49_30 S, i_49_31 S, i_49_32 S, i_49_33 S, i_49_34 S, i_49_35 S, i_49_36 S, i_49_37 S, r_49_38 S, i_49_39 S, i_49_40 S, r_49_41 S, r_49_42 S, r_49_43 S, i_49_44 S, r_49_45 S, i_49_46 S, i_49_47 S, i_49_48 S, l_53_0 S, l_53_1 S, f_X12_hold, f_X12_hold_b20, w_49_0 S, mb_no (b := 1) (m := 2) rfl (by decide) h1, mb_0 S _ _ t0, mb_11 S 1 (by decide) t0, up2_a, show ((1 : Int32) = 0) = False from by decide]
  obtain ⟨k1, h1, rfl⟩ := h1
  refine Or.inl (Bod.call HC HM W ?_)
  clear HF HM HC
  intro I I' J J' HC HM
  have HMx := HM.t0 (v := 0) W
  obtain ⟨v, ⟨I1, e1, a1⟩, I2, e2, a2⟩ := b_hold S W h1 I (up2 I' 49 0 0) J J' HC HMx up2_s
  obtain ⟨⟨HF, HA, HL, HW, HT, -⟩, -, -⟩ := HC
  obtain ⟨⟨MF, MA, ML, MW, MT, -⟩, -, -⟩ := HMx
  obtain ⟨WF, ⟨WA, -, WB, -⟩, -, WL, WW, -⟩ := W
  have h40 := WA.1
  have T := StS_43 S
  have U := RoS_497 S
  have t0 : up2 I' 49 0 0 49 0 = 0 := up2_s
  refine ⟨v, ⟨I1, ?_, a1⟩, I2, ?_, a2⟩
  · simp (disch := omega) only [bd_eq, pu_ap, if_true, if_false, not_true_eq_false, not_false_eq_true, eq_self, v_0 S, r_0_0 S, r_0_1 S, r_0_2 S, r_0_3 S, r_0_4 S, r_0_5 S, r_0_6 S, r_0_7 S, r_0_8 S, r_0_9 S, r_0_10 S, r_0_11 S, r_0_12 S, n_0_13 S, i_0_14 S, i_0_15 S, i_0_16 S, i_0_17 S, v_1 S, r_1_0 S, i_1_1 S, i_1_2 S, i_1_3 S, i_1_4 S, i_1_5 S, i_1_6 S, v_3 S, r_3_0 S, r_3_1 S, r_3_2 S, r_3_3 S, i_3_4 S, i_3_5 S, v_8 S, r_8_0 S, r_8_1 S, r_8_2 S, r_8_3 S, i_8_4 S, i_8_5 S, v_13 S, r_13_0 S, r_13_1 S, i_13_2 S, v_16 S, r_16_0 S, r_16_1 S, i_16_2 S, v_19 S, r_19_0 S, r_19_1 S, r_19_2 S, r_19_3 S, i_19_4 S, i_19_5 S, i_19_6 S, i_19_7 S, v_24 S, r_24_0 S, r_24_1 S, r_24_2 S, r_24_3 S, i_24_4 S, j_24_5 S, v_28 S, r_28_0 S, r_28_1 S, r_28_2 S, v_30 S, r_30_0 S, r_30_1 S, r_30_2 S, r_30_3 S, i_30_4 S, i_30_5 S, v_33 S, r_33_0 S, r_33_1 S, r_33_2 S, r_33_3 S, i_33_4 S, i_33_5 S, v_37 S, r_37_0 S, r_37_1 S, i_37_2 S, i_37_3 S, i_37_4 S, fc_sz HF, fc_ak HF, fc_fa HF, fc_te HF, fc_pr HF, fc_sy HF, l_4 S, l_5 S, l_6 S, l_7 S, e_v T, e_i4 T, e_i5 T, e_r0 T, e_r1 T, e_r2 T, e_r3 T, e_l1 T, e_l2 T, e_l3 T, sr_hg HA, sr_yr HA, sr_mo HA, sr_tk HA, sr_sa HA, c_taker T HA WA h8, c_sitter T HA WA h8, c_hallOf T HA WA h8, c_faceOn T HA WA h8, c_yearOf T HA WA h8, c_nearest S HF WF, c_never S HF h8, c_alike S HF, nn_le, nn_succ, bI_0, Int32.or_zero, Int32.add_zero, Int32.le_refl, f_X11_hold, cr_ok S (b := 1) (m := 2) rfl (by decide) h1, e1]
  · simp (disch := omega) only [bd_eq, pu_ap, if_true, if_false, not_true_eq_false, not_false_eq_true, eq_self, v_49 S, i_49_0 S, i_49_1 S, i_49_2 S, i_49_3 S, i_49_4 S, i_49_5 S, i_49_6 S, i_49_7 S, i_49_8 S, r_49_9 S, r_49_10 S, r_49_11 S, r_49_12 S, r_49_13 S, r_49_14 S, r_49_15 S, r_49_16 S, i_49_17 S, i_49_18 S, r_49_19 S, r_49_20 S, r_49_21 S, r_49_22 S, r_49_23 S, r_49_24 S, r_49_25 S, i_49_26 S, r_49_27 S, r_49_28 S, r_49_29 S, r_49_30 S, i_49_31 S, i_49_32 S, i_49_33 S, i_49_34 S, i_49_35 S, i_49_36 S, i_49_37 S, r_49_38 S, i_49_39 S, i_49_40 S, r_49_41 S, r_49_42 S, r_49_43 S, i_49_44 S, r_49_45 S, i_49_46 S, i_49_47 S, i_49_48 S, l_53_0 S, l_53_1 S, fm_sz MF, fm_ak MF, fm_fa MF, fm_te MF, fm_pr MF, fm_sy MF, l_55 S, g_65 S, l_66_0 S, l_66_1 S, l_66_2 S, o_l24 U, o_l25 U, o_l26 U, o_l27 U, rr_hg MA, rr_yr MA, rr_tn MA, rr_bu MA, m_pA U MA h40, m_pB U MA h40, m_pH U MA h40, m_pF U MA h40, m_pY U MA h40, m_faceOf S MF h8, m_looksOf S MF WF, m_alike S MF, m_has, ix0, ix8, ix16, o_l U, rr_mo MA, rr_tk MA, rr_sa MA, nn_le, nn_succ, bI_0, Int32.or_zero, Int32.add_zero, Int32.le_refl, f_X12_hold, f_X12_hold_b20, w_49_0 S, mb_ok (b := 1) (m := 2) rfl (by decide) h1, mb_0 S _ _ t0, show ((1 : Int32) = 0) = False from by decide, e2]
theorem g_faces (S : Sw w) (hr : Rm w) (HC : RC w I J D) (HM : RM I D) (W : WD D) (x1 x2 : Int32) : Call w I J 2 (f_X11_faces 0 x1 x2) (f_X12_faces 49 x1 x2) := by
  have HF := HC.1.1
  have h8 := W.1.1
  by_cases h1 : inP (sz (dF D)) x1
  rotate_left
  · refine Or.inr (Or.inl ⟨?_, fun J' => ⟨0, ?_⟩⟩)
    · simp (disch := omega) only [bd_eq, pu_ap, if_true, if_false, not_true_eq_false, not_false_eq_true, eq_self, v_0 S, r_0_0 S, r_0_1 S, r_0_2 S, r_0_3 S, r_0_4 S, r_0_5 S, r_0_6 S, r_0_7 S, r_0_8 S, r_0_9 S, r_0_10 S, r_0_11 S, r_0_12 S, n_0_13 S, i_0_14 S, i_0_15 S, i_0_16 S, i_0_17 S, v_1 S, r_1_0 S, i_1_1 S, i_1_2 S, i_1_3 S, i_1_4 S, i_1_5 S, i_1_6 S, v_3 S, r_3_0 S, r_3_1 S, r_3_2 S, r_3_3 S, i_3_4 S, i_3_5 S, v_8 S, r_8_0 S, r_8_1 S, r_8_2 S, r_8_3 S, i_8_4 S, i_8_5 S, v_13 S, r_13_0 S, r_13_1 S, i_13_2 S, v_16 S, r_16_0 S, r_16_1 S, i_16_2 S, v_19 S, r_19_0 S, r_19_1 S, r_19_2 S, r_19_3 S, i_19_4 S, i_19_5 S, i_19_6 S, i_19_7 S, v_24 S, r_24_0 S, r_24_1 S, r_24_2 S, r_24_3 S, i_24_4 S, j_24_5 S, v_28 S, r_28_0 S, r_28_1 S, r_28_2 S, v_30 S, r_30_0 S, r_30_1 S, r_30_2 S, r_30_3 S, i_30_4 S, i_30_5 S, v_33 S, r_33_0 S, r_33_1 S, r_33_2 S, r_33_3 S, i_33_4 S, i_33_5 S, v_37 S, r_37_0 S, r_37_1 S, i_37_2 S, i_37_3 S, i_37_4 S, f_X11_faces, cp_no S hr HF h8 h1]
    · have S1 := S
      have S := tw_Sw S 13
      have HMx : RM (up2 (up2 I 0 16 (I 0 16 + 1)) 49 0 0) D := (HM.ag W ((Ag.refl [0] I).up (by decide)) (by decide)).t0 W
      have MF := HMx.1.1
      have t0 : up2 (up2 I 0 16 (I 0 16 + 1)) 49 0 0 49 0 = 0 := up2_s
      simp (disch := omega) only [bd_eq, pu_ap, if_true, if_false, not_true_eq_false, not_false_eq_true, eq_self, v_49 S, i_49_0 S, i_49_1 S, i_49_2 S, i_49_3 S, i_49_4 S, i_49_5 S, i_49_6 S, i_49_7 S, i_49_8 S, r_49_9 S, r_49_10 S, r_49_11 S, r_49_12 S, r_49_13 S, r_49_14 S, r_49_15 S, r_49_16 S, i_49_17 S, i_49_18 S, r_49_19 S, r_49_20 S, r_49_21 S, r_49_22 S, r_49_23 S, r_49_24 S, r_49_25 S, i_49_26 S, r_49_27 S, r_49_28 S, r_49_29 S, r_49_30 S, i_49_31 S, i_49_32 S, i_49_33 S, i_49_34 S, i_49_35 S, i_49_36 S, i_49_37 S, r_49_38 S, i_49_39 S, i_49_40 S, r_49_41 S, r_49_42 S, r_49_43 S, i_49_44 S, r_49_45 S, i_49_46 S, i_49_47 S, i_49_48 S, l_53_0 S, l_53_1 S, f_X12_faces, f_X12_faces_b42, f_X12_faces_b19, w_49_0 S, mp_no S MF h8 h1, mb_0 S _ _ t0, mb_10 S 1 (by decide) t0, up2_a, show ((1 : Int32) = 0) = False from by decide]
  obtain ⟨k1, h1, rfl⟩ := h1
  by_cases h2 : inP 3 x2
  rotate_left
  · refine Or.inr (Or.inr ⟨?_, fun J' => ⟨0, ?_⟩⟩)
    · simp (disch := omega) only [bd_eq, pu_ap, if_true, if_false, not_true_eq_false, not_false_eq_true, eq_self, v_0 S, r_0_0 S, r_0_1 S, r_0_2 S, r_0_3 S, r_0_4 S, r_0_5 S, r_0_6 S, r_0_7 S, r_0_8 S, r_0_9 S, r_0_10 S, r_0_11 S, r_0_12 S, n_0_13 S, i_0_14 S, i_0_15 S, i_0_16 S, i_0_17 S, v_1 S, r_1_0 S, i_1_1 S, i_1_2 S, i_1_3 S, i_1_4 S, i_1_5 S, i_1_6 S, v_3 S, r_3_0 S, r_3_1 S, r_3_2 S, r_3_3 S, i_3_4 S, i_3_5 S, v_8 S, r_8_0 S, r_8_1 S, r_8_2 S, r_8_3 S, i_8_4 S, i_8_5 S, v_13 S, r_13_0 S, r_13_1 S, i_13_2 S, v_16 S, r_16_0 S, r_16_1 S, i_16_2 S, v_19 S, r_19_0 S, r_19_1 S, r_19_2 S, r_19_3 S, i_19_4 S, i_19_5 S, i_19_6 S, i_19_7 S, v_24 S, r_24_0 S, r_24_1 S, r_24_2 S, r_24_3 S, i_24_4 S, j_24_5 S, v_28 S, r_28_0 S, r_28_1 S, r_28_2 S, v_30 S, r_30_0 S, r_30_1 S, r_30_2 S, r_30_3 S, i_30_4 S, i_30_5 S, v_33 S, r_33_0 S, r_33_1 S, r_33_2 S, r_33_3 S, i_33_4 S, i_33_5 S, v_37 S, r_37_0 S, r_37_1 S, i_37_2 S, i_37_3 S, i_37_4 S, f_X11_faces, cp_ok S HF h8 h1, cr_no S hr (b := 2) (m := 3) rfl (by decide) h2]
    · have S1 := S
      have S := tw_Sw S 14
      have HMx : RM (up2 (up2 I 0 17 (I 0 17 + 1)) 49 0 0) D := (HM.ag W ((Ag.refl [0] I).up (by decide)) (by decide)).t0 W
      have MF := HMx.1.1
      have t0 : up2 (up2 I 0 17 (I 0 17 + 1)) 49 0 0 49 0 = 0 := up2_s
      simp (disch := omega) only [bd_eq, pu_ap, if_true, if_false, not_true_eq_false, not_false_eq_true, eq_self, v_49 S, i_49_0 S, i_49_1 S, i_49_2 S, i_49_3 S, i_49_4 S, i_49_5 S, i_49_6 S, i_49_7 S, i_49_8 S, r_49_9 S, r_49_10 S, r_49_11 S, r_49_12 S, r_49_13 S, r_49_14 S, r_49_15 S, r_49_16 S, i_49_17 S, i_49_18 S, r_49_19 S, r_49_20 S, r_49_21 S, r_49_22 S, r_49_23 S, r_49_24 S, r_49_25 S, i_49_26 S, r_49_27 S, r_49_28 S, r_49_29 S, r_49_30 S, i_49_31 S, i_49_32 S, i_49_33 S, i_49_34 S, i_49_35 S, i_49_36 S, i_49_37 S, r_49_38 S, i_49_39 S, i_49_40 S, r_49_41 S, r_49_42 S, r_49_43 S, i_49_44 S, r_49_45 S, i_49_46 S, i_49_47 S, i_49_48 S, l_53_0 S, l_53_1 S, f_X12_faces, f_X12_faces_b42, f_X12_faces_b19, w_49_0 S, mp_ok S MF h8 h1, mb_no (b := 2) (m := 3) rfl (by decide) h2, mb_0 S _ _ t0, mb_11 S 2 (by decide) t0, up2_a, show ((1 : Int32) = 0) = False from by decide]
  obtain ⟨k2, h2, rfl⟩ := h2
  refine Or.inl (Bod.call HC HM W ?_)
  clear HF HM HC
  intro I I' J J' HC HM
  have HMx := HM.t0 (v := 0) W
  obtain ⟨v, ⟨I1, e1, a1⟩, I2, e2, a2⟩ := b_faces S W h1 h2 I (up2 I' 49 0 0) J J' HC HMx up2_s
  obtain ⟨⟨HF, HA, HL, HW, HT, -⟩, -, -⟩ := HC
  obtain ⟨⟨MF, MA, ML, MW, MT, -⟩, -, -⟩ := HMx
  obtain ⟨WF, ⟨WA, -, WB, -⟩, -, WL, WW, -⟩ := W
  have h40 := WA.1
  have T := StS_43 S
  have U := RoS_497 S
  have t0 : up2 I' 49 0 0 49 0 = 0 := up2_s
  refine ⟨v, ⟨I1, ?_, a1⟩, I2, ?_, a2⟩
  · simp (disch := omega) only [bd_eq, pu_ap, if_true, if_false, not_true_eq_false, not_false_eq_true, eq_self, v_0 S, r_0_0 S, r_0_1 S, r_0_2 S, r_0_3 S, r_0_4 S, r_0_5 S, r_0_6 S, r_0_7 S, r_0_8 S, r_0_9 S, r_0_10 S, r_0_11 S, r_0_12 S, n_0_13 S, i_0_14 S, i_0_15 S, i_0_16 S, i_0_17 S, v_1 S, r_1_0 S, i_1_1 S, i_1_2 S, i_1_3 S, i_1_4 S, i_1_5 S, i_1_6 S, v_3 S, r_3_0 S, r_3_1 S, r_3_2 S, r_3_3 S, i_3_4 S, i_3_5 S, v_8 S, r_8_0 S, r_8_1 S, r_8_2 S, r_8_3 S, i_8_4 S, i_8_5 S, v_13 S, r_13_0 S, r_13_1 S, i_13_2 S, v_16 S, r_16_0 S, r_16_1 S, i_16_2 S, v_19 S, r_19_0 S, r_19_1 S, r_19_2 S, r_19_3 S, i_19_4 S, i_19_5 S, i_19_6 S, i_19_7 S, v_24 S, r_24_0 S, r_24_1 S, r_24_2 S, r_24_3 S, i_24_4 S, j_24_5 S, v_28 S, r_28_0 S, r_28_1 S, r_28_2 S, v_30 S, r_30_0 S, r_30_1 S, r_30_2 S, r_30_3 S, i_30_4 S, i_30_5 S, v_33 S, r_33_0 S, r_33_1 S, r_33_2 S, r_33_3 S, i_33_4 S, i_33_5 S, v_37 S, r_37_0 S, r_37_1 S, i_37_2 S, i_37_3 S, i_37_4 S, fc_sz HF, fc_ak HF, fc_fa HF, fc_te HF, fc_pr HF, fc_sy HF, l_4 S, l_5 S, l_6 S, l_7 S, e_v T, e_i4 T, e_i5 T, e_r0 T, e_r1 T, e_r2 T, e_r3 T, e_l1 T, e_l2 T, e_l3 T, sr_hg HA, sr_yr HA, sr_mo HA, sr_tk HA, sr_sa HA, c_taker T HA WA h8, c_sitter T HA WA h8, c_hallOf T HA WA h8, c_faceOn T HA WA h8, c_yearOf T HA WA h8, c_nearest S HF WF, c_never S HF h8, c_alike S HF, nn_le, nn_succ, bI_0, Int32.or_zero, Int32.add_zero, Int32.le_refl, f_X11_faces, cp_ok S HF h8 h1, cr_ok S (b := 2) (m := 3) rfl (by decide) h2, e1]
  · simp (disch := omega) only [bd_eq, pu_ap, if_true, if_false, not_true_eq_false, not_false_eq_true, eq_self, v_49 S, i_49_0 S, i_49_1 S, i_49_2 S, i_49_3 S, i_49_4 S, i_49_5 S, i_49_6 S, i_49_7 S, i_49_8 S, r_49_9 S, r_49_10 S, r_49_11 S, r_49_12 S, r_49_13 S, r_49_14 S, r_49_15 S, r_49_16 S, i_49_17 S, i_49_18 S, r_49_19 S, r_49_20 S, r_49_21 S, r_49_22 S, r_49_23 S, r_49_24 S, r_49_25 S, i_49_26 S, r_49_27 S, r_49_28 S, r_49_29 S, r_49_30 S, i_49_31 S, i_49_32 S, i_49_33 S, i_49_34 S, i_49_35 S, i_49_36 S, i_49_37 S, r_49_38 S, i_49_39 S, i_49_40 S, r_49_41 S, r_49_42 S, r_49_43 S, i_49_44 S, r_49_45 S, i_49_46 S, i_49_47 S, i_49_48 S, l_53_0 S, l_53_1 S, fm_sz MF, fm_ak MF, fm_fa MF, fm_te MF, fm_pr MF, fm_sy MF, l_55 S, g_65 S, l_66_0 S, l_66_1 S, l_66_2 S, o_l24 U, o_l25 U, o_l26 U, o_l27 U, rr_hg MA, rr_yr MA, rr_tn MA, rr_bu MA, m_pA U MA h40, m_pB U MA h40, m_pH U MA h40, m_pF U MA h40, m_pY U MA h40, m_faceOf S MF h8, m_looksOf S MF WF, m_alike S MF, m_has, ix0, ix8, ix16, o_l U, rr_mo MA, rr_tk MA, rr_sa MA, nn_le, nn_succ, bI_0, Int32.or_zero, Int32.add_zero, Int32.le_refl, f_X12_faces, f_X12_faces_b42, f_X12_faces_b19, w_49_0 S, mp_ok S MF h8 h1, mb_ok (b := 2) (m := 3) rfl (by decide) h2, mb_0 S _ _ t0, show ((1 : Int32) = 0) = False from by decide, e2]
end C95
