/-! PURE PART: calls by what they may throw, third -/
section CX3
variable {w : Wd} {I I' : Is} {J J' : Js} {F : Fo} {A : At} {L : Lw} {D : Dt} {k : Nat}
theorem a_shown (S : Sw w) (hr : Rm w) (HC : RC w I J D) (HM : RM I D) (W : WD D) (x1 x2 x3 : Int32) : CallN w I J (f_X11_shown 0 x1 x2 x3) (f_X12_shown 49 x1 x2 x3) := by
  have HF := HC.1.1
  have h8 := W.1.1
  by_cases h1 : inP (sz (dF D)) x1
  rotate_left
  · refine Or.inr (⟨?_, fun J' => ⟨0, ?_⟩⟩)
    · simp (disch := omega) only [bd_eq, pu_ap, if_true, if_false, not_true_eq_false, not_false_eq_true, eq_self, v_0 S, r_0_0 S, r_0_1 S, r_0_2 S, r_0_3 S, r_0_4 S, r_0_5 S, r_0_6 S, r_0_7 S, r_0_8 S, r_0_9 S, r_0_10 S, r_0_11 S, r_0_12 S, n_0_13 S, i_0_14 S, i_0_15 S, i_0_16 S, i_0_17 S, v_1 S, r_1_0 S, i_1_1 S, i_1_2 S, i_1_3 S, i_1_4 S, i_1_5 S, i_1_6 S, v_3 S, r_3_0 S, r_3_1 S, r_3_2 S, r_3_3 S, i_3_4 S, i_3_5 S, v_8 S, r_8_0 S, r_8_1 S, r_8_2 S, r_8_3 S, i_8_4 S, i_8_5 S, v_13 S, r_13_0 S, r_13_1 S, i_13_2 S, v_16 S, r_16_0 S, r_16_1 S, i_16_2 S, v_19 S, r_19_0 S, r_19_1 S, r_19_2 S, r_19_3 S, i_19_4 S, i_19_5 S, i_19_6 S, i_19_7 S, v_24 S, r_24_0 S, r_24_1 S, r_24_2 S, r_24_3 S, i_24_4 S, j_24_5 S, v_28 S, r_28_0 S, r_28_1 S, r_28_2 S, v_30 S, r_30_0 S, r_30_1 S, r_30_2 S, r_30_3 S, i_30_4 S, i_30_5 S, v_33 S, r_33_0 S, r_33_1 S, r_33_2 S, r_33_3 S, i_33_4 S, i_33_5 S, v_37 S, r_37_0 S, r_37_1 S, i_37_2 S, i_37_3 S, i_37_4 S, f_X11_shown, cp_no S hr HF h8 h1]
    · have S1 := S
      have S := tw_Sw S 13
      have HMx : RM (up2 (up2 I 0 16 (I 0 16 + 1)) 49 0 0) D := (HM.ag W ((Ag.refl [0] I).up (by decide)) (by decide)).t0 W
      have MF := HMx.1.1
      have t0 : up2 (up2 I 0 16 (I 0 16 + 1)) 49 0 0 49 0 = 0 := up2_s
      simp (disch := omega) only [bd_eq, pu_ap, if_true, if_false, not_true_eq_false, not_false_eq_true, eq_self, v_49 S, i_49_0 S, i_49_1 S, i_49_2 S, i_49_3 S, i_49_4 S, i_49_5 S, i_49_6 S, i_49_7 S, i_49_8 S, r_49_9 S, r_49_10 S, r_49_11 S, r_49_12 S, r_49_13 S, r_49_14 S, r_49_15 S, r_49_16 S, i_49_17 S, i_49_18 S, r_49_19 S, r_49_20 S, r_49_21 S, r_49_22 S, r_49_23 S, r_49_24 S, r_49_25 S, i_49_26 S, r_49_27 S, r_49_28 S, r_49_29 S, r_49_30 S, i_49_31 S, i_49_32 S, i_49_33 S, i_49_34 S, i_49_35 S, i_49_36 S, i_49_37 S, r_49_38 S, i_49_39 S, i_49_40 S, r_49_41 S, r_49_42 S, r_49_43 S, i_49_44 S, r_49_45 S, i_49_46 S, i_49_47 S, i_49_48 S, l_53_0 S, l_53_1 S, f_X12_shown, f_X12_shown_b34, f_X12_shown_b29, w_49_0 S, mp_no S MF h8 h1, mb_0 S _ _ t0, mb_10 S 1 (by decide) t0, up2_a, show ((1 : Int32) = 0) = False from by decide]
  obtain ⟨k1, h1, rfl⟩ := h1
  by_cases h2 : inP (sz (dF D)) x2
  rotate_left
  · refine Or.inr (⟨?_, fun J' => ⟨0, ?_⟩⟩)
    · simp (disch := omega) only [bd_eq, pu_ap, if_true, if_false, not_true_eq_false, not_false_eq_true, eq_self, v_0 S, r_0_0 S, r_0_1 S, r_0_2 S, r_0_3 S, r_0_4 S, r_0_5 S, r_0_6 S, r_0_7 S, r_0_8 S, r_0_9 S, r_0_10 S, r_0_11 S, r_0_12 S, n_0_13 S, i_0_14 S, i_0_15 S, i_0_16 S, i_0_17 S, v_1 S, r_1_0 S, i_1_1 S, i_1_2 S, i_1_3 S, i_1_4 S, i_1_5 S, i_1_6 S, v_3 S, r_3_0 S, r_3_1 S, r_3_2 S, r_3_3 S, i_3_4 S, i_3_5 S, v_8 S, r_8_0 S, r_8_1 S, r_8_2 S, r_8_3 S, i_8_4 S, i_8_5 S, v_13 S, r_13_0 S, r_13_1 S, i_13_2 S, v_16 S, r_16_0 S, r_16_1 S, i_16_2 S, v_19 S, r_19_0 S, r_19_1 S, r_19_2 S, r_19_3 S, i_19_4 S, i_19_5 S, i_19_6 S, i_19_7 S, v_24 S, r_24_0 S, r_24_1 S, r_24_2 S, r_24_3 S, i_24_4 S, j_24_5 S, v_28 S, r_28_0 S, r_28_1 S, r_28_2 S, v_30 S, r_30_0 S, r_30_1 S, r_30_2 S, r_30_3 S, i_30_4 S, i_30_5 S, v_33 S, r_33_0 S, r_33_1 S, r_33_2 S, r_33_3 S, i_33_4 S, i_33_5 S, v_37 S, r_37_0 S, r_37_1 S, i_37_2 S, i_37_3 S, i_37_4 S, f_X11_shown, cp_ok S HF h8 h1, cp_no S hr HF h8 h2]
    · have S1 := S
      have S := tw_Sw S 13
      have HMx : RM (up2 (up2 I 0 16 (I 0 16 + 1)) 49 0 0) D := (HM.ag W ((Ag.refl [0] I).up (by decide)) (by decide)).t0 W
      have MF := HMx.1.1
      have t0 : up2 (up2 I 0 16 (I 0 16 + 1)) 49 0 0 49 0 = 0 := up2_s
      simp (disch := omega) only [bd_eq, pu_ap, if_true, if_false, not_true_eq_false, not_false_eq_true, eq_self, v_49 S, i_49_0 S, i_49_1 S, i_49_2 S, i_49_3 S, i_49_4 S, i_49_5 S, i_49_6 S, i_49_7 S, i_49_8 S, r_49_9 S, r_49_10 S, r_49_11 S, r_49_12 S, r_49_13 S, r_49_14 S, r_49_15 S, r_49_16 S, i_49_17 S, i_49_18 S, r_49_19 S, r_49_20 S, r_49_21 S, r_49_22 S, r_49_23 S, r_49_24 S, r_49_25 S, i_49_26 S, r_49_27 S, r_49_28 S, r_49_29 S, r_49_30 S, i_49_31 S, i_49_32 S, i_49_33 S, i_49_34 S, i_49_35 S, i_49_36 S, i_49_37 S, r_49_38 S, i_49_39 S, i_49_40 S, r_49_41 S, r_49_42 S, r_49_43 S, i_49_44 S, r_49_45 S, i_49_46 S, i_49_47 S, i_49_48 S, l_53_0 S, l_53_1 S, f_X12_shown, f_X12_shown_b34, f_X12_shown_b29, w_49_0 S, mp_ok S MF h8 h1, mp_no S MF h8 h2, mb_0 S _ _ t0, mb_10 S 1 (by decide) t0, up2_a, show ((1 : Int32) = 0) = False from by decide]
  obtain ⟨k2, h2, rfl⟩ := h2
  by_cases h3 : inP 6 x3
  rotate_left
  · refine Or.inr (⟨?_, fun J' => ⟨0, ?_⟩⟩)
    · simp (disch := omega) only [bd_eq, pu_ap, if_true, if_false, not_true_eq_false, not_false_eq_true, eq_self, v_0 S, r_0_0 S, r_0_1 S, r_0_2 S, r_0_3 S, r_0_4 S, r_0_5 S, r_0_6 S, r_0_7 S, r_0_8 S, r_0_9 S, r_0_10 S, r_0_11 S, r_0_12 S, n_0_13 S, i_0_14 S, i_0_15 S, i_0_16 S, i_0_17 S, v_1 S, r_1_0 S, i_1_1 S, i_1_2 S, i_1_3 S, i_1_4 S, i_1_5 S, i_1_6 S, v_3 S, r_3_0 S, r_3_1 S, r_3_2 S, r_3_3 S, i_3_4 S, i_3_5 S, v_8 S, r_8_0 S, r_8_1 S, r_8_2 S, r_8_3 S, i_8_4 S, i_8_5 S, v_13 S, r_13_0 S, r_13_1 S, i_13_2 S, v_16 S, r_16_0 S, r_16_1 S, i_16_2 S, v_19 S, r_19_0 S, r_19_1 S, r_19_2 S, r_19_3 S, i_19_4 S, i_19_5 S, i_19_6 S, i_19_7 S, v_24 S, r_24_0 S, r_24_1 S, r_24_2 S, r_24_3 S, i_24_4 S, j_24_5 S, v_28 S, r_28_0 S, r_28_1 S, r_28_2 S, v_30 S, r_30_0 S, r_30_1 S, r_30_2 S, r_30_3 S, i_30_4 S, i_30_5 S, v_33 S, r_33_0 S, r_33_1 S, r_33_2 S, r_33_3 S, i_33_4 S, i_33_5 S, v_37 S, r_37_0 S, r_37_1 S, i_37_2 S, i_37_3 S, i_37_4 S, f_X11_shown, cp_ok S HF h8 h1, cp_ok S HF h8 h2, ch_no S hr h3]
    · have S1 := S
      have S := tw_Sw S 13
      have HMx : RM (up2 (up2 I 0 16 (I 0 16 + 1)) 49 0 0) D := (HM.ag W ((Ag.refl [0] I).up (by decide)) (by decide)).t0 W
      have MF := HMx.1.1
      have t0 : up2 (up2 I 0 16 (I 0 16 + 1)) 49 0 0 49 0 = 0 := up2_s
      simp (disch := omega) only [bd_eq, pu_ap, if_true, if_false, not_true_eq_false, not_false_eq_true, eq_self, v_49 S, i_49_0 S, i_49_1 S, i_49_2 S, i_49_3 S, i_49_4 S, i_49_5 S, i_49_6 S, i_49_7 S, i_49_8 S, r_49_9 S, r_49_10 S, r_49_11 S, r_49_12 S, r_49_13 S, r_49_14 S, r_49_15 S, r_49_16 S, i_49_17 S, i_49_18 S, r_49_19 S, r_49_20 S, r_49_21 S, r_49_22 S, r_49_23 S, r_49_24 S, r_49_25 S, i_49_26 S, r_49_27 S, r_49_28 S, r_49_29 S, r_49_30 S, i_49_31 S, i_49_32 S, i_49_33 S, i_49_34 S, i_49_35 S, i_49_36 S, i_49_37 S, r_49_38 S, i_49_39 S, i_49_40 S, r_49_41 S, r_49_42 S, r_49_43 S, i_49_44 S, r_49_45 S, i_49_46 S, i_49_47 S, i_49_48 S, l_53_0 S, l_53_1 S, f_X12_shown, f_X12_shown_b34, f_X12_shown_b29, w_49_0 S, mp_ok S MF h8 h1, mp_ok S MF h8 h2, mh_no h3, mb_0 S _ _ t0, mb_10 S 1 (by decide) t0, up2_a, show ((1 : Int32) = 0) = False from by decide]
  obtain ⟨k3, h3, rfl⟩ := h3
  refine Or.inl (Bod.call HC HM W ?_)
  clear HF HM HC
  intro I I' J J' HC HM
  have HMx := HM.t0 (v := 0) W
  obtain ⟨v, ⟨I1, e1, a1⟩, I2, e2, a2⟩ := b_shown S W h1 h2 (nn k3) I (up2 I' 49 0 0) J J' HC HMx up2_s
  obtain ⟨⟨HF, HA, HL, HW, HT, -⟩, -, -⟩ := HC
  obtain ⟨⟨MF, MA, ML, MW, MT, -⟩, -, -⟩ := HMx
  obtain ⟨WF, ⟨WA, -, WB, -⟩, -, WL, WW, -⟩ := W
  have h40 := WA.1
  have T := StS_43 S
  have U := RoS_497 S
  have t0 : up2 I' 49 0 0 49 0 = 0 := up2_s
  refine ⟨v, ⟨I1, ?_, a1⟩, I2, ?_, a2⟩
  · simp (disch := omega) only [bd_eq, pu_ap, if_true, if_false, not_true_eq_false, not_false_eq_true, eq_self, v_0 S, r_0_0 S, r_0_1 S, r_0_2 S, r_0_3 S, r_0_4 S, r_0_5 S, r_0_6 S, r_0_7 S, r_0_8 S, r_0_9 S, r_0_10 S, r_0_11 S, r_0_12 S, n_0_13 S, i_0_14 S, i_0_15 S, i_0_16 S, i_0_17 S, v_1 S, r_1_0 S, i_1_1 S, i_1_2 S, i_1_3 S, i_1_4 S, i_1_5 S, i_1_6 S, v_3 S, r_3_0 S, r_3_1 S, r_3_2 S, r_3_3 S, i_3_4 S, i_3_5 S, v_8 S, r_8_0 S, r_8_1 S, r_8_2 S, r_8_3 S, i_8_4 S, i_8_5 S, v_13 S, r_13_0 S, r_13_1 S, i_13_2 S, v_16 S, r_16_0 S, r_16_1 S, i_16_2 S, v_19 S, r_19_0 S, r_19_1 S, r_19_2 S, r_19_3 S, i_19_4 S, i_19_5 S, i_19_6 S, i_19_7 S, v_24 S, r_24_0 S, r_24_1 S, r_24_2 S, r_24_3 S, i_24_4 S, j_24_5 S, v_28 S, r_28_0 S, r_28_1 S, r_28_2 S, v_30 S, r_30_0 S, r_30_1 S, r_30_2 S, r_30_3 S, i_30_4 S, i_30_5 S, v_33 S, r_33_0 S, r_33_1 S, r_33_2 S, r_33_3 S, i_33_4 S, i_33_5 S, v_37 S, r_37_0 S, r_37_1 S, i_37_2 S, i_37_3 S, i_37_4 S, fc_sz HF, fc_ak HF, fc_fa HF, fc_te HF, fc_pr HF, fc_sy HF, l_4 S, l_5 S, l_6 S, l_7 S, e_v T, e_i4 T, e_i5 T, e_r0 T, e_r1 T, e_r2 T, e_r3 T, e_l1 T, e_l2 T, e_l3 T, sr_hg HA, sr_yr HA, sr_mo HA, sr_tk HA, sr_sa HA, c_taker T HA WA h8, c_sitter T HA WA h8, c_hallOf T HA WA h8, c_faceOn T HA WA h8, c_yearOf T HA WA h8, c_nearest S HF WF, c_never S HF h8, c_alike S HF, nn_le, nn_succ, bI_0, Int32.or_zero, Int32.add_zero, Int32.le_refl, f_X11_shown, cp_ok S HF h8 h1, cp_ok S HF h8 h2, ch_ok S h3, e1]
  · simp (disch := omega) only [bd_eq, pu_ap, if_true, if_false, not_true_eq_false, not_false_eq_true, eq_self, v_49 S, i_49_0 S, i_49_1 S, i_49_2 S, i_49_3 S, i_49_4 S, i_49_5 S, i_49_6 S, i_49_7 S, i_49_8 S, r_49_9 S, r_49_10 S, r_49_11 S, r_49_12 S, r_49_13 S, r_49_14 S, r_49_15 S, r_49_16 S, i_49_17 S, i_49_18 S, r_49_19 S, r_49_20 S, r_49_21 S, r_49_22 S, r_49_23 S, r_49_24 S, r_49_25 S, i_49_26 S, r_49_27 S, r_49_28 S, r_49_29 S, r_49_30 S, i_49_31 S, i_49_32 S, i_49_33 S, i_49_34 S, i_49_35 S, i_49_36 S, i_49_37 S, r_49_38 S, i_49_39 S, i_49_40 S, r_49_41 S, r_49_42 S, r_49_43 S, i_49_44 S, r_49_45 S, i_49_46 S, i_49_47 S, i_49_48 S, l_53_0 S, l_53_1 S, fm_sz MF, fm_ak MF, fm_fa MF, fm_te MF, fm_pr MF, fm_sy MF, l_55 S, g_65 S, l_66_0 S, l_66_1 S, l_66_2 S, o_l24 U, o_l25 U, o_l26 U, o_l27 U, rr_hg MA, rr_yr MA, rr_tn MA, rr_bu MA, m_pA U MA h40, m_pB U MA h40, m_pH U MA h40, m_pF U MA h40, m_pY U MA h40, m_faceOf S MF h8, m_looksOf S MF WF, m_alike S MF, m_has, ix0, ix8, ix16, o_l U, rr_mo MA, rr_tk MA, rr_sa MA, nn_le, nn_succ, bI_0, Int32.or_zero, Int32.add_zero, Int32.le_refl, f_X12_shown, f_X12_shown_b34, f_X12_shown_b29, w_49_0 S, mp_ok S MF h8 h1, mp_ok S MF h8 h2, mh_ok h3, mb_0 S _ _ t0, show ((1 : Int32) = 0) = False from by decide, e2]
theorem a_can (S : Sw w) (hr : Rm w) (HC : RC w I J D) (HM : RM I D) (W : WD D) (x1 : Int32) : CallN w I J (f_X11_can 0 x1) (f_X12_can 49 x1) := by
  have HF := HC.1.1
  have h8 := W.1.1
  by_cases h1 : inP (sz (dF D)) x1
  rotate_left
  · refine Or.inr (⟨?_, fun J' => ⟨0, ?_⟩⟩)
    · simp (disch := omega) only [bd_eq, pu_ap, if_true, if_false, not_true_eq_false, not_false_eq_true, eq_self, v_0 S, r_0_0 S, r_0_1 S, r_0_2 S, r_0_3 S, r_0_4 S, r_0_5 S, r_0_6 S, r_0_7 S, r_0_8 S, r_0_9 S, r_0_10 S, r_0_11 S, r_0_12 S, n_0_13 S, i_0_14 S, i_0_15 S, i_0_16 S, i_0_17 S, v_1 S, r_1_0 S, i_1_1 S, i_1_2 S, i_1_3 S, i_1_4 S, i_1_5 S, i_1_6 S, v_3 S, r_3_0 S, r_3_1 S, r_3_2 S, r_3_3 S, i_3_4 S, i_3_5 S, v_8 S, r_8_0 S, r_8_1 S, r_8_2 S, r_8_3 S, i_8_4 S, i_8_5 S, v_13 S, r_13_0 S, r_13_1 S, i_13_2 S, v_16 S, r_16_0 S, r_16_1 S, i_16_2 S, v_19 S, r_19_0 S, r_19_1 S, r_19_2 S, r_19_3 S, i_19_4 S, i_19_5 S, i_19_6 S, i_19_7 S, v_24 S, r_24_0 S, r_24_1 S, r_24_2 S, r_24_3 S, i_24_4 S, j_24_5 S, v_28 S, r_28_0 S, r_28_1 S, r_28_2 S, v_30 S, r_30_0 S, r_30_1 S, r_30_2 S, r_30_3 S, i_30_4 S, i_30_5 S, v_33 S, r_33_0 S, r_33_1 S, r_33_2 S, r_33_3 S, i_33_4 S, i_33_5 S, v_37 S, r_37_0 S, r_37_1 S, i_37_2 S, i_37_3 S, i_37_4 S, f_X11_can, cp_no S hr HF h8 h1]
    · have S1 := S
      have S := tw_Sw S 13
      have HMx : RM (up2 (up2 I 0 16 (I 0 16 + 1)) 49 0 0) D := (HM.ag W ((Ag.refl [0] I).up (by decide)) (by decide)).t0 W
      have MF := HMx.1.1
      have t0 : up2 (up2 I 0 16 (I 0 16 + 1)) 49 0 0 49 0 = 0 := up2_s
      simp (disch := omega) only [bd_eq, pu_ap, if_true, if_false, not_true_eq_false, not_false_eq_true, eq_self, v_49 S, i_49_0 S, i_49_1 S, i_49_2 S, i_49_3 S, i_49_4 S, i_49_5 S, i_49_6 S, i_49_7 S, i_49_8 S, r_49_9 S, r_49_10 S, r_49_11 S, r_49_12 S, r_49_13 S, r_49_14 S, r_49_15 S, r_49_16 S, i_49_17 S, i_49_18 S, r_49_19 S, r_49_20 S, r_49_21 S, r_49_22 S, r_49_23 S, r_49_24 S, r_49_25 S, i_49_26 S, r_49_27 S, r_49_28 S, r_49_29 S, r_49_30 S, i_49_31 S, i_49_32 S, i_49_33 S, i_49_34 S, i_49_35 S, i_49_36 S, i_49_37 S, r_49_38 S, i_49_39 S, i_49_40 S, r_49_41 S, r_49_42 S, r_49_43 S, i_49_44 S, r_49_45 S, i_49_46 S, i_49_47 S, i_49_48 S, l_53_0 S, l_53_1 S, f_X12_can, f_X12_can_b19, w_49_0 S, mp_no S MF h8 h1, mb_0 S _ _ t0, mb_10 S 1 (by decide) t0, up2_a, show ((1 : Int32) = 0) = False from by decide]
  obtain ⟨k1, h1, rfl⟩ := h1
  refine Or.inl (Bod.call HC HM W ?_)
  clear HF HM HC
  intro I I' J J' HC HM
  have HMx := HM.t0 (v := 0) W
  obtain ⟨v, ⟨I1, e1, a1⟩, I2, e2, a2⟩ := b_can S W h1 I (up2 I' 49 0 0) J J' HC HMx up2_s
  obtain ⟨⟨HF, HA, HL, HW, HT, -⟩, -, -⟩ := HC
  obtain ⟨⟨MF, MA, ML, MW, MT, -⟩, -, -⟩ := HMx
  obtain ⟨WF, ⟨WA, -, WB, -⟩, -, WL, WW, -⟩ := W
  have h40 := WA.1
  have T := StS_43 S
  have U := RoS_497 S
  have t0 : up2 I' 49 0 0 49 0 = 0 := up2_s
  refine ⟨v, ⟨I1, ?_, a1⟩, I2, ?_, a2⟩
  · simp (disch := omega) only [bd_eq, pu_ap, if_true, if_false, not_true_eq_false, not_false_eq_true, eq_self, v_0 S, r_0_0 S, r_0_1 S, r_0_2 S, r_0_3 S, r_0_4 S, r_0_5 S, r_0_6 S, r_0_7 S, r_0_8 S, r_0_9 S, r_0_10 S, r_0_11 S, r_0_12 S, n_0_13 S, i_0_14 S, i_0_15 S, i_0_16 S, i_0_17 S, v_1 S, r_1_0 S, i_1_1 S, i_1_2 S, i_1_3 S, i_1_4 S, i_1_5 S, i_1_6 S, v_3 S, r_3_0 S, r_3_1 S, r_3_2 S, r_3_3 S, i_3_4 S, i_3_5 S, v_8 S, r_8_0 S, r_8_1 S, r_8_2 S, r_8_3 S, i_8_4 S, i_8_5 S, v_13 S, r_13_0 S, r_13_1 S, i_13_2 S, v_16 S, r_16_0 S, r_16_1 S, i_16_2 S, v_19 S, r_19_0 S, r_19_1 S, r_19_2 S, r_19_3 S, i_19_4 S, i_19_5 S, i_19_6 S, i_19_7 S, v_24 S, r_24_0 S, r_24_1 S, r_24_2 S, r_24_3 S, i_24_4 S, j_24_5 S, v_28 S, r_28_0 S, r_28_1 S, r_28_2 S, v_30 S, r_30_0 S, r_30_1 S, r_30_2 S, r_30_3 S, i_30_4 S, i_30_5 S, v_33 S, r_33_0 S, r_33_1 S, r_33_2 S, r_33_3 S, i_33_4 S, i_33_5 S, v_37 S, r_37_0 S, r_37_1 S, i_37_2 S, i_37_3 S, i_37_4 S, fc_sz HF, fc_ak HF, fc_fa HF, fc_te HF, fc_pr HF, fc_sy HF, l_4 S, l_5 S, l_6 S, l_7 S, e_v T, e_i4 T, e_i5 T, e_r0 T, e_r1 T, e_r2 T, e_r3 T, e_l1 T, e_l2 T, e_l3 T, sr_hg HA, sr_yr HA, sr_mo HA, sr_tk HA, sr_sa HA, c_taker T HA WA h8, c_sitter T HA WA h8, c_hallOf T HA WA h8, c_faceOn T HA WA h8, c_yearOf T HA WA h8, c_nearest S HF WF, c_never S HF h8, c_alike S HF, nn_le, nn_succ, bI_0, Int32.or_zero, Int32.add_zero, Int32.le_refl, f_X11_can, cp_ok S HF h8 h1, e1]
  · simp (disch := omega) only [bd_eq, pu_ap, if_true, if_false, not_true_eq_false, not_false_eq_true, eq_self, v_49 S, i_49_0 S, i_49_1 S, i_49_2 S, i_49_3 S, i_49_4 S, i_49_5 S, i_49_6 S, i_49_7 S, i_49_8 S, r_49_9 S, r_49_10 S, r_49_11 S, r_49_12 S, r_49_13 S, r_49_14 S, r_49_15 S, r_49_16 S, i_49_17 S, i_49_18 S, r_49_19 S, r_49_20 S, r_49_21 S, r_49_22 S, r_49_23 S, r_49_24 S, r_49_25 S, i_49_26 S, r_49_27 S, r_49_28 S, r_49_29 S, r_49_30 S, i_49_31 S, i_49_32 S, i_49_33 S, i_49_34 S, i_49_35 S, i_49_36 S, i_49_37 S, r_49_38 S, i_49_39 S, i_49_40 S, r_49_41 S, r_49_42 S, r_49_43 S, i_49_44 S, r_49_45 S, i_49_46 S, i_49_47 S, i_49_48 S, l_53_0 S, l_53_1 S, fm_sz MF, fm_ak MF, fm_fa MF, fm_te MF, fm_pr MF, fm_sy MF, l_55 S, g_65 S, l_66_0 S, l_66_1 S, l_66_2 S, o_l24 U, o_l25 U, o_l26 U, o_l27 U, rr_hg MA, rr_yr MA, rr_tn MA, rr_bu MA, m_pA U MA h40, m_pB U MA h40, m_pH U MA h40, m_pF U MA h40, m_pY U MA h40, m_faceOf S MF h8, m_looksOf S MF WF, m_alike S MF, m_has, ix0, ix8, ix16, o_l U, rr_mo MA, rr_tk MA, rr_sa MA, nn_le, nn_succ, bI_0, Int32.or_zero, Int32.add_zero, Int32.le_refl, f_X12_can, f_X12_can_b19, w_49_0 S, mp_ok S MF h8 h1, mb_0 S _ _ t0, show ((1 : Int32) = 0) = False from by decide, e2]
theorem a_where (S : Sw w) (hr : Rm w) (HC : RC w I J D) (HM : RM I D) (W : WD D) (x1 : Int32) : CallN w I J (f_X11_where 0 x1) (f_X12_where 49 x1) := by
  have HF := HC.1.1
  have h8 := W.1.1
  by_cases h1 : inP (sz (dF D)) x1
  rotate_left
  · refine Or.inr (⟨?_, fun J' => ⟨0, ?_⟩⟩)
    · simp (disch := omega) only [bd_eq, pu_ap, if_true, if_false, not_true_eq_false, not_false_eq_true, eq_self, v_0 S, r_0_0 S, r_0_1 S, r_0_2 S, r_0_3 S, r_0_4 S, r_0_5 S, r_0_6 S, r_0_7 S, r_0_8 S, r_0_9 S, r_0_10 S, r_0_11 S, r_0_12 S, n_0_13 S, i_0_14 S, i_0_15 S, i_0_16 S, i_0_17 S, v_1 S, r_1_0 S, i_1_1 S, i_1_2 S, i_1_3 S, i_1_4 S, i_1_5 S, i_1_6 S, v_3 S, r_3_0 S, r_3_1 S, r_3_2 S, r_3_3 S, i_3_4 S, i_3_5 S, v_8 S, r_8_0 S, r_8_1 S, r_8_2 S, r_8_3 S, i_8_4 S, i_8_5 S, v_13 S, r_13_0 S, r_13_1 S, i_13_2 S, v_16 S, r_16_0 S, r_16_1 S, i_16_2 S, v_19 S, r_19_0 S, r_19_1 S, r_19_2 S, r_19_3 S, i_19_4 S, i_19_5 S, i_19_6 S, i_19_7 S, v_24 S, r_24_0 S, r_24_1 S, r_24_2 S, r_24_3 S, i_24_4 S, j_24_5 S, v_28 S, r_28_0 S, r_28_1 S, r_28_2 S, v_30 S, r_30_0 S, r_30_1 S, r_30_2 S, r_30_3 S, i_30_4 S, i_30_5 S, v_33 S, r_33_0 S, r_33_1 S, r_33_2 S, r_33_3 S, i_33_4 S, i_33_5 S, v_37 S, r_37_0 S, r_37_1 S, i_37_2 S, i_37_3 S, i_37_4 S, f_X11_where, cp_no S hr HF h8 h1]
    · have S1 := S
      have S := tw_Sw S 13
      have HMx : RM (up2 (up2 I 0 16 (I 0 16 + 1)) 49 0 0) D := (HM.ag W ((Ag.refl [0] I).up (by decide)) (by decide)).t0 W
      have MF := HMx.1.1
      have t0 : up2 (up2 I 0 16 (I 0 16 + 1)) 49 0 0 49 0 = 0 := up2_s
      simp (disch := omega) only [bd_eq, pu_ap, if_true, if_false, not_true_eq_false, not_false_eq_true, eq_self, v_49 S, i_49_0 S, i_49_1 S, i_49_2 S, i_49_3 S, i_49_4 S, i_49_5 S, i_49_6 S, i_49_7 S, i_49_8 S, r_49_9 S, r_49_10 S, r_49_11 S, r_49_12 S, r_49_13 S, r_49_14 S, r_49_15 S, r_49_16 S, i_49_17 S, i_49_18 S, r_49_19 S, r_49_20 S, r_49_21 S, r_49_22 S, r_49_23 S, r_49_24 S, r_49_25 S, i_49_26 S, r_49_27 S, r_49_28 S, r_49_29 S, r_49_30 S, i_49_31 S, i_49_32 S, i_49_33 S, i_49_34 S, i_49_35 S, i_49_36 S, i_49_37 S, r_49_38 S, i_49_39 S, i_49_40 S, r_49_41 S, r_49_42 S, r_49_43 S, i_49_44 S, r_49_45 S, i_49_46 S, i_49_47 S, i_49_48 S, l_53_0 S, l_53_1 S, f_X12_where, f_X12_where_b19, w_49_0 S, mp_no S MF h8 h1, mb_0 S _ _ t0, mb_10 S 1 (by decide) t0, up2_a, show ((1 : Int32) = 0) = False from by decide]
  obtain ⟨k1, h1, rfl⟩ := h1
  refine Or.inl (Bod.call HC HM W ?_)
  clear HF HM HC
  intro I I' J J' HC HM
  have HMx := HM.t0 (v := 0) W
  obtain ⟨v, ⟨I1, e1, a1⟩, I2, e2, a2⟩ := b_where S W h1 I (up2 I' 49 0 0) J J' HC HMx up2_s
  obtain ⟨⟨HF, HA, HL, HW, HT, -⟩, -, -⟩ := HC
  obtain ⟨⟨MF, MA, ML, MW, MT, -⟩, -, -⟩ := HMx
  obtain ⟨WF, ⟨WA, -, WB, -⟩, -, WL, WW, -⟩ := W
  have h40 := WA.1
  have T := StS_43 S
  have U := RoS_497 S
  have t0 : up2 I' 49 0 0 49 0 = 0 := up2_s
  refine ⟨v, ⟨I1, ?_, a1⟩, I2, ?_, a2⟩
  · simp (disch := omega) only [bd_eq, pu_ap, if_true, if_false, not_true_eq_false, not_false_eq_true, eq_self, v_0 S, r_0_0 S, r_0_1 S, r_0_2 S, r_0_3 S, r_0_4 S, r_0_5 S, r_0_6 S, r_0_7 S, r_0_8 S, r_0_9 S, r_0_10 S, r_0_11 S, r_0_12 S, n_0_13 S, i_0_14 S, i_0_15 S, i_0_16 S, i_0_17 S, v_1 S, r_1_0 S, i_1_1 S, i_1_2 S, i_1_3 S, i_1_4 S, i_1_5 S, i_1_6 S, v_3 S, r_3_0 S, r_3_1 S, r_3_2 S, r_3_3 S, i_3_4 S, i_3_5 S, v_8 S, r_8_0 S, r_8_1 S, r_8_2 S, r_8_3 S, i_8_4 S, i_8_5 S, v_13 S, r_13_0 S, r_13_1 S, i_13_2 S, v_16 S, r_16_0 S, r_16_1 S, i_16_2 S, v_19 S, r_19_0 S, r_19_1 S, r_19_2 S, r_19_3 S, i_19_4 S, i_19_5 S, i_19_6 S, i_19_7 S, v_24 S, r_24_0 S, r_24_1 S, r_24_2 S, r_24_3 S, i_24_4 S, j_24_5 S, v_28 S, r_28_0 S, r_28_1 S, r_28_2 S, v_30 S, r_30_0 S, r_30_1 S, r_30_2 S, r_30_3 S, i_30_4 S, i_30_5 S, v_33 S, r_33_0 S, r_33_1 S, r_33_2 S, r_33_3 S, i_33_4 S, i_33_5 S, v_37 S, r_37_0 S, r_37_1 S, i_37_2 S, i_37_3 S, i_37_4 S, fc_sz HF, fc_ak HF, fc_fa HF, fc_te HF, fc_pr HF, fc_sy HF, l_4 S, l_5 S, l_6 S, l_7 S, e_v T, e_i4 T, e_i5 T, e_r0 T, e_r1 T, e_r2 T, e_r3 T, e_l1 T, e_l2 T, e_l3 T, sr_hg HA, sr_yr HA, sr_mo HA, sr_tk HA, sr_sa HA, c_taker T HA WA h8, c_sitter T HA WA h8, c_hallOf T HA WA h8, c_faceOn T HA WA h8, c_yearOf T HA WA h8, c_nearest S HF WF, c_never S HF h8, c_alike S HF, nn_le, nn_succ, bI_0, Int32.or_zero, Int32.add_zero, Int32.le_refl, f_X11_where, cp_ok S HF h8 h1, e1]
  · simp (disch := omega) only [bd_eq, pu_ap, if_true, if_false, not_true_eq_false, not_false_eq_true, eq_self, v_49 S, i_49_0 S, i_49_1 S, i_49_2 S, i_49_3 S, i_49_4 S, i_49_5 S, i_49_6 S, i_49_7 S, i_49_8 S, r_49_9 S, r_49_10 S, r_49_11 S, r_49_12 S, r_49_13 S, r_49_14 S, r_49_15 S, r_49_16 S, i_49_17 S, i_49_18 S, r_49_19 S, r_49_20 S, r_49_21 S, r_49_22 S, r_49_23 S, r_49_24 S, r_49_25 S, i_49_26 S, r_49_27 S, r_49_28 S, r_49_29 S, r_49_30 S, i_49_31 S, i_49_32 S, i_49_33 S, i_49_34 S, i_49_35 S, i_49_36 S, i_49_37 S, r_49_38 S, i_49_39 S, i_49_40 S, r_49_41 S, r_49_42 S, r_49_43 S, i_49_44 S, r_49_45 S, i_49_46 S, i_49_47 S, i_49_48 S, l_53_0 S, l_53_1 S, fm_sz MF, fm_ak MF, fm_fa MF, fm_te MF, fm_pr MF, fm_sy MF, l_55 S, g_65 S, l_66_0 S, l_66_1 S, l_66_2 S, o_l24 U, o_l25 U, o_l26 U, o_l27 U, rr_hg MA, rr_yr MA, rr_tn MA, rr_bu MA, m_pA U MA h40, m_pB U MA h40, m_pH U MA h40, m_pF U MA h40, m_pY U MA h40, m_faceOf S MF h8, m_looksOf S MF WF, m_alike S MF, m_has, ix0, ix8, ix16, o_l U, rr_mo MA, rr_tk MA, rr_sa MA, nn_le, nn_succ, bI_0, Int32.or_zero, Int32.add_zero, Int32.le_refl, f_X12_where, f_X12_where_b19, w_49_0 S, mp_ok S MF h8 h1, mb_0 S _ _ t0, show ((1 : Int32) = 0) = False from by decide, e2]
theorem a_twins (S : Sw w) (hr : Rm w) (HC : RC w I J D) (HM : RM I D) (W : WD D) (x1 : Int32) : CallN w I J (f_X11_twins 0 x1) (f_X12_twins 49 x1) := by
  have HF := HC.1.1
  have h8 := W.1.1
  by_cases h1 : inP (sz (dF D)) x1
  rotate_left
  · refine Or.inr (⟨?_, fun J' => ⟨0, ?_⟩⟩)
    · simp (disch := omega) only [bd_eq, pu_ap, if_true, if_false, not_true_eq_false, not_false_eq_true, eq_self, v_0 S, r_0_0 S, r_0_1 S, r_0_2 S, r_0_3 S, r_0_4 S, r_0_5 S, r_0_6 S, r_0_7 S, r_0_8 S, r_0_9 S, r_0_10 S, r_0_11 S, r_0_12 S, n_0_13 S, i_0_14 S, i_0_15 S, i_0_16 S, i_0_17 S, v_1 S, r_1_0 S, i_1_1 S, i_1_2 S, i_1_3 S, i_1_4 S, i_1_5 S, i_1_6 S, v_3 S, r_3_0 S, r_3_1 S, r_3_2 S, r_3_3 S, i_3_4 S, i_3_5 S, v_8 S, r_8_0 S, r_8_1 S, r_8_2 S, r_8_3 S, i_8_4 S, i_8_5 S, v_13 S, r_13_0 S, r_13_1 S, i_13_2 S, v_16 S, r_16_0 S, r_16_1 S, i_16_2 S, v_19 S, r_19_0 S, r_19_1 S, r_19_2 S, r_19_3 S, i_19_4 S, i_19_5 S, i_19_6 S, i_19_7 S, v_24 S, r_24_0 S, r_24_1 S, r_24_2 S, r_24_3 S, i_24_4 S, j_24_5 S, v_28 S, r_28_0 S, r_28_1 S, r_28_2 S, v_30 S, r_30_0 S, r_30_1 S, r_30_2 S, r_30_3 S, i_30_4 S, i_30_5 S, v_33 S, r_33_0 S, r_33_1 S, r_33_2 S, r_33_3 S, i_33_4 S, i_33_5 S, v_37 S, r_37_0 S, r_37_1 S, i_37_2 S, i_37_3 S, i_37_4 S, f_X11_twins, cp_no S hr HF h8 h1]
    · have S1 := S
      have S := tw_Sw S 13
      have HMx : RM (up2 (up2 I 0 16 (I 0 16 + 1)) 49 0 0) D := (HM.ag W ((Ag.refl [0] I).up (by decide)) (by decide)).t0 W
      have MF := HMx.1.1
      have t0 : up2 (up2 I 0 16 (I 0 16 + 1)) 49 0 0 49 0 = 0 := up2_s
      simp (disch := omega) only [bd_eq, pu_ap, if_true, if_false, not_true_eq_false, not_false_eq_true, eq_self, v_49 S, i_49_0 S, i_49_1 S, i_49_2 S, i_49_3 S, i_49_4 S, i_49_5 S, i_49_6 S, i_49_7 S, i_49_8 S, r_49_9 S, r_49_10 S, r_49_11 S, r_49_12 S, r_49_13 S, r_49_14 S, r_49_15 S, r_49_16 S, i_49_17 S, i_49_18 S, r_49_19 S, r_49_20 S, r_49_21 S, r_49_22 S, r_49_23 S, r_49_24 S, r_49_25 S, i_49_26 S, r_49_27 S, r_49_28 S, r_49_29 S, r_49_30 S, i_49_31 S, i_49_32 S, i_49_33 S, i_49_34 S, i_49_35 S, i_49_36 S, i_49_37 S, r_49_38 S, i_49_39 S, i_49_40 S, r_49_41 S, r_49_42 S, r_49_43 S, i_49_44 S, r_49_45 S, i_49_46 S, i_49_47 S, i_49_48 S, l_53_0 S, l_53_1 S, f_X12_twins, f_X12_twins_b19, w_49_0 S, mp_no S MF h8 h1, mb_0 S _ _ t0, mb_10 S 1 (by decide) t0, up2_a, show ((1 : Int32) = 0) = False from by decide]
  obtain ⟨k1, h1, rfl⟩ := h1
  refine Or.inl (Bod.call HC HM W ?_)
  clear HF HM HC
  intro I I' J J' HC HM
  have HMx := HM.t0 (v := 0) W
  obtain ⟨v, ⟨I1, e1, a1⟩, I2, e2, a2⟩ := b_twins S W h1 I (up2 I' 49 0 0) J J' HC HMx up2_s
  obtain ⟨⟨HF, HA, HL, HW, HT, -⟩, -, -⟩ := HC
  obtain ⟨⟨MF, MA, ML, MW, MT, -⟩, -, -⟩ := HMx
  obtain ⟨WF, ⟨WA, -, WB, -⟩, -, WL, WW, -⟩ := W
  have h40 := WA.1
  have T := StS_43 S
  have U := RoS_497 S
  have t0 : up2 I' 49 0 0 49 0 = 0 := up2_s
  refine ⟨v, ⟨I1, ?_, a1⟩, I2, ?_, a2⟩
  · simp (disch := omega) only [bd_eq, pu_ap, if_true, if_false, not_true_eq_false, not_false_eq_true, eq_self, v_0 S, r_0_0 S, r_0_1 S, r_0_2 S, r_0_3 S, r_0_4 S, r_0_5 S, r_0_6 S, r_0_7 S, r_0_8 S, r_0_9 S, r_0_10 S, r_0_11 S, r_0_12 S, n_0_13 S, i_0_14 S, i_0_15 S, i_0_16 S, i_0_17 S, v_1 S, r_1_0 S, i_1_1 S, i_1_2 S, i_1_3 S, i_1_4 S, i_1_5 S, i_1_6 S, v_3 S, r_3_0 S, r_3_1 S, r_3_2 S, r_3_3 S, i_3_4 S, i_3_5 S, v_8 S, r_8_0 S, r_8_1 S, r_8_2 S, r_8_3 S, i_8_4 S, i_8_5 S, v_13 S, r_13_0 S, r_13_1 S, i_13_2 S, v_16 S, r_16_0 S, r_16_1 S, i_16_2 S, v_19 S, r_19_0 S, r_19_1 S, r_19_2 S, r_19_3 S, i_19_4 S, i_19_5 S, i_19_6 S, i_19_7 S, v_24 S, r_24_0 S, r_24_1 S, r_24_2 S, r_24_3 S, i_24_4 S, j_24_5 S, v_28 S, r_28_0 S, r_28_1 S, r_28_2 S, v_30 S, r_30_0 S, r_30_1 S, r_30_2 S, r_30_3 S, i_30_4 S, i_30_5 S, v_33 S, r_33_0 S, r_33_1 S, r_33_2 S, r_33_3 S, i_33_4 S, i_33_5 S, v_37 S, r_37_0 S, r_37_1 S, i_37_2 S, i_37_3 S, i_37_4 S, fc_sz HF, fc_ak HF, fc_fa HF, fc_te HF, fc_pr HF, fc_sy HF, l_4 S, l_5 S, l_6 S, l_7 S, e_v T, e_i4 T, e_i5 T, e_r0 T, e_r1 T, e_r2 T, e_r3 T, e_l1 T, e_l2 T, e_l3 T, sr_hg HA, sr_yr HA, sr_mo HA, sr_tk HA, sr_sa HA, c_taker T HA WA h8, c_sitter T HA WA h8, c_hallOf T HA WA h8, c_faceOn T HA WA h8, c_yearOf T HA WA h8, c_nearest S HF WF, c_never S HF h8, c_alike S HF, nn_le, nn_succ, bI_0, Int32.or_zero, Int32.add_zero, Int32.le_refl, f_X11_twins, cp_ok S HF h8 h1, e1]
  · simp (disch := omega) only [bd_eq, pu_ap, if_true, if_false, not_true_eq_false, not_false_eq_true, eq_self, v_49 S, i_49_0 S, i_49_1 S, i_49_2 S, i_49_3 S, i_49_4 S, i_49_5 S, i_49_6 S, i_49_7 S, i_49_8 S, r_49_9 S, r_49_10 S, r_49_11 S, r_49_12 S, r_49_13 S, r_49_14 S, r_49_15 S, r_49_16 S, i_49_17 S, i_49_18 S, r_49_19 S, r_49_20 S, r_49_21 S, r_49_22 S, r_49_23 S, r_49_24 S, r_49_25 S, i_49_26 S, r_49_27 S, r_49_28 S, r_49_29 S, r_49_30 S, i_49_31 S, i_49_32 S, i_49_33 S, i_49_34 S, i_49_35 S, i_49_36 S, i_49_37 S, r_49_38 S, i_49_39 S, i_49_40 S, r_49_41 S, r_49_42 S, r_49_43 S, i_49_44 S, r_49_45 S, i_49_46 S, i_49_47 S, i_49_48 S, l_53_0 S, l_53_1 S, fm_sz MF, fm_ak MF, fm_fa MF, fm_te MF, fm_pr MF, fm_sy MF, l_55 S, g_65 S, l_66_0 S, l_66_1 S, l_66_2 S, o_l24 U, o_l25 U, o_l26 U, o_l27 U, rr_hg MA, rr_yr MA, rr_tn MA, rr_bu MA, m_pA U MA h40, m_pB U MA h40, m_pH U MA h40, m_pF U MA h40, m_pY U MA h40, m_faceOf S MF h8, m_looksOf S MF WF, m_alike S MF, m_has, ix0, ix8, ix16, o_l U, rr_mo MA, rr_tk MA, rr_sa MA, nn_le, nn_succ, bI_0, Int32.or_zero, Int32.add_zero, Int32.le_refl, f_X12_twins, f_X12_twins_b19, w_49_0 S, mp_ok S MF h8 h1, mb_0 S _ _ t0, show ((1 : Int32) = 0) = False from by decide, e2]
theorem a_chain (S : Sw w) (hr : Rm w) (HC : RC w I J D) (HM : RM I D) (W : WD D) (x1 x2 : Int32) : CallN w I J (f_X11_chain 0 x1 x2) (f_X12_chain 49 x1 x2) := by
  have HF := HC.1.1
  have h8 := W.1.1
  by_cases h1 : inP (sz (dF D)) x1
  rotate_left
  · refine Or.inr (⟨?_, fun J' => ⟨0, ?_⟩⟩)
    · simp (disch := omega) only [bd_eq, pu_ap, if_true, if_false, not_true_eq_false, not_false_eq_true, eq_self, v_0 S, r_0_0 S, r_0_1 S, r_0_2 S, r_0_3 S, r_0_4 S, r_0_5 S, r_0_6 S, r_0_7 S, r_0_8 S, r_0_9 S, r_0_10 S, r_0_11 S, r_0_12 S, n_0_13 S, i_0_14 S, i_0_15 S, i_0_16 S, i_0_17 S, v_1 S, r_1_0 S, i_1_1 S, i_1_2 S, i_1_3 S, i_1_4 S, i_1_5 S, i_1_6 S, v_3 S, r_3_0 S, r_3_1 S, r_3_2 S, r_3_3 S, i_3_4 S, i_3_5 S, v_8 S, r_8_0 S, r_8_1 S, r_8_2 S, r_8_3 S, i_8_4 S, i_8_5 S, v_13 S, r_13_0 S, r_13_1 S, i_13_2 S, v_16 S, r_16_0 S, r_16_1 S, i_16_2 S, v_19 S, r_19_0 S, r_19_1 S, r_19_2 S, r_19_3 S, i_19_4 S, i_19_5 S, i_19_6 S, i_19_7 S, v_24 S, r_24_0 S, r_24_1 S, r_24_2 S, r_24_3 S, i_24_4 S, j_24_5 S, v_28 S, r_28_0 S, r_28_1 S, r_28_2 S, v_30 S, r_30_0 S, r_30_1 S, r_30_2 S, r_30_3 S, i_30_4 S, i_30_5 S, v_33 S, r_33_0 S, r_33_1 S, r_33_2 S, r_33_3 S, i_33_4 S, i_33_5 S, v_37 S, r_37_0 S, r_37_1 S, i_37_2 S, i_37_3 S, i_37_4 S, f_X11_chain, cp_no S hr HF h8 h1]
    · have S1 := S
      have S := tw_Sw S 13
      have HMx : RM (up2 (up2 I 0 16 (I 0 16 + 1)) 49 0 0) D := (HM.ag W ((Ag.refl [0] I).up (by decide)) (by decide)).t0 W
      have MF := HMx.1.1
      have t0 : up2 (up2 I 0 16 (I 0 16 + 1)) 49 0 0 49 0 = 0 := up2_s
      simp (disch := omega) only [bd_eq, pu_ap, if_true, if_false, not_true_eq_false, not_false_eq_true, eq_self, v_49 S, i_49_0 S, i_49_1 S, i_49_2 S, i_49_3 S, i_49_4 S, i_49_5 S, i_49_6 S, i_49_7 S, i_49_8 S, r_49_9 S, r_49_10 S, r_49_11 S, r_49_12 S, r_49_13 S, r_49_14 S, r_49_15 S, r_49_16 S, i_49_17 S, i_49_18 S, r_49_19 S, r_49_20 S, r_49_21 S, r_49_22 S, r_49_23 S, r_49_24 S, r_49_25 S, i_49_26 S, r_49_27 S, r_49_28 S, r_49_29 S, r_49_30 S, i_49_31 S, i_49_32 S, i_49_33 S, i_49_34 S, i_49_35 S, i_49_36 S, i_49_37 S, r_49_38 S, i_49_39 S, i_49_40 S, r_49_41 S, r_49_42 S, r_49_43 S, i_49_44 S, r_49_45 S, i_49_46 S, i_49_47 S, i_49_48 S, l_53_0 S, l_53_1 S, f_X12_chain, f_X12_chain_b27, f_X12_chain_b22, w_49_0 S, mp_no S MF h8 h1, mb_0 S _ _ t0, mb_10 S 1 (by decide) t0, up2_a, show ((1 : Int32) = 0) = False from by decide]
  obtain ⟨k1, h1, rfl⟩ := h1
  by_cases h2 : inP (sz (dF D)) x2
  rotate_left
  · refine Or.inr (⟨?_, fun J' => ⟨0, ?_⟩⟩)
    · simp (disch := omega) only [bd_eq, pu_ap, if_true, if_false, not_true_eq_false, not_false_eq_true, eq_self, v_0 S, r_0_0 S, r_0_1 S, r_0_2 S, r_0_3 S, r_0_4 S, r_0_5 S, r_0_6 S, r_0_7 S, r_0_8 S, r_0_9 S, r_0_10 S, r_0_11 S, r_0_12 S, n_0_13 S, i_0_14 S, i_0_15 S, i_0_16 S, i_0_17 S, v_1 S, r_1_0 S, i_1_1 S, i_1_2 S, i_1_3 S, i_1_4 S, i_1_5 S, i_1_6 S, v_3 S, r_3_0 S, r_3_1 S, r_3_2 S, r_3_3 S, i_3_4 S, i_3_5 S, v_8 S, r_8_0 S, r_8_1 S, r_8_2 S, r_8_3 S, i_8_4 S, i_8_5 S, v_13 S, r_13_0 S, r_13_1 S, i_13_2 S, v_16 S, r_16_0 S, r_16_1 S, i_16_2 S, v_19 S, r_19_0 S, r_19_1 S, r_19_2 S, r_19_3 S, i_19_4 S, i_19_5 S, i_19_6 S, i_19_7 S, v_24 S, r_24_0 S, r_24_1 S, r_24_2 S, r_24_3 S, i_24_4 S, j_24_5 S, v_28 S, r_28_0 S, r_28_1 S, r_28_2 S, v_30 S, r_30_0 S, r_30_1 S, r_30_2 S, r_30_3 S, i_30_4 S, i_30_5 S, v_33 S, r_33_0 S, r_33_1 S, r_33_2 S, r_33_3 S, i_33_4 S, i_33_5 S, v_37 S, r_37_0 S, r_37_1 S, i_37_2 S, i_37_3 S, i_37_4 S, f_X11_chain, cp_ok S HF h8 h1, cp_no S hr HF h8 h2]
    · have S1 := S
      have S := tw_Sw S 13
      have HMx : RM (up2 (up2 I 0 16 (I 0 16 + 1)) 49 0 0) D := (HM.ag W ((Ag.refl [0] I).up (by decide)) (by decide)).t0 W
      have MF := HMx.1.1
      have t0 : up2 (up2 I 0 16 (I 0 16 + 1)) 49 0 0 49 0 = 0 := up2_s
      simp (disch := omega) only [bd_eq, pu_ap, if_true, if_false, not_true_eq_false, not_false_eq_true, eq_self, v_49 S, i_49_0 S, i_49_1 S, i_49_2 S, i_49_3 S, i_49_4 S, i_49_5 S, i_49_6 S, i_49_7 S, i_49_8 S, r_49_9 S, r_49_10 S, r_49_11 S, r_49_12 S, r_49_13 S, r_49_14 S, r_49_15 S, r_49_16 S, i_49_17 S, i_49_18 S, r_49_19 S, r_49_20 S, r_49_21 S, r_49_22 S, r_49_23 S, r_49_24 S, r_49_25 S, i_49_26 S, r_49_27 S, r_49_28 S, r_49_29 S, r_49_30 S, i_49_31 S, i_49_32 S, i_49_33 S, i_49_34 S, i_49_35 S, i_49_36 S, i_49_37 S, r_49_38 S, i_49_39 S, i_49_40 S, r_49_41 S, r_49_42 S, r_49_43 S, i_49_44 S, r_49_45 S, i_49_46 S, i_49_47 S, i_49_48 S, l_53_0 S, l_53_1 S, f_X12_chain, f_X12_chain_b27, f_X12_chain_b22, w_49_0 S, mp_ok S MF h8 h1, mp_no S MF h8 h2, mb_0 S _ _ t0, mb_10 S 1 (by decide) t0, up2_a, show ((1 : Int32) = 0) = False from by decide]
  obtain ⟨k2, h2, rfl⟩ := h2
  refine Or.inl (Bod.call HC HM W ?_)
  clear HF HM HC
  intro I I' J J' HC HM
  have HMx := HM.t0 (v := 0) W
  obtain ⟨v, I1, I2, e1, e3, a1, e2, e4, a2⟩ := b_chain S W h1 h2 I (up2 I' 49 0 0) J J' HC HMx up2_s
  obtain ⟨⟨HF, HA, HL, HW, HT, -⟩, -, -⟩ := HC
  obtain ⟨⟨MF, MA, ML, MW, MT, -⟩, -, -⟩ := HMx
  obtain ⟨WF, ⟨WA, -, WB, -⟩, -, WL, WW, -⟩ := W
  have h40 := WA.1
  have T := StS_43 S
  have U := RoS_497 S
  have t0 : up2 I' 49 0 0 49 0 = 0 := up2_s
  refine ⟨v, ⟨I1, ?_, a1⟩, I2, ?_, a2⟩
  · simp (disch := omega) only [bd_eq, pu_ap, if_true, if_false, not_true_eq_false, not_false_eq_true, eq_self, v_0 S, r_0_0 S, r_0_1 S, r_0_2 S, r_0_3 S, r_0_4 S, r_0_5 S, r_0_6 S, r_0_7 S, r_0_8 S, r_0_9 S, r_0_10 S, r_0_11 S, r_0_12 S, n_0_13 S, i_0_14 S, i_0_15 S, i_0_16 S, i_0_17 S, v_1 S, r_1_0 S, i_1_1 S, i_1_2 S, i_1_3 S, i_1_4 S, i_1_5 S, i_1_6 S, v_3 S, r_3_0 S, r_3_1 S, r_3_2 S, r_3_3 S, i_3_4 S, i_3_5 S, v_8 S, r_8_0 S, r_8_1 S, r_8_2 S, r_8_3 S, i_8_4 S, i_8_5 S, v_13 S, r_13_0 S, r_13_1 S, i_13_2 S, v_16 S, r_16_0 S, r_16_1 S, i_16_2 S, v_19 S, r_19_0 S, r_19_1 S, r_19_2 S, r_19_3 S, i_19_4 S, i_19_5 S, i_19_6 S, i_19_7 S, v_24 S, r_24_0 S, r_24_1 S, r_24_2 S, r_24_3 S, i_24_4 S, j_24_5 S, v_28 S, r_28_0 S, r_28_1 S, r_28_2 S, v_30 S, r_30_0 S, r_30_1 S, r_30_2 S, r_30_3 S, i_30_4 S, i_30_5 S, v_33 S, r_33_0 S, r_33_1 S, r_33_2 S, r_33_3 S, i_33_4 S, i_33_5 S, v_37 S, r_37_0 S, r_37_1 S, i_37_2 S, i_37_3 S, i_37_4 S, fc_sz HF, fc_ak HF, fc_fa HF, fc_te HF, fc_pr HF, fc_sy HF, l_4 S, l_5 S, l_6 S, l_7 S, e_v T, e_i4 T, e_i5 T, e_r0 T, e_r1 T, e_r2 T, e_r3 T, e_l1 T, e_l2 T, e_l3 T, sr_hg HA, sr_yr HA, sr_mo HA, sr_tk HA, sr_sa HA, c_taker T HA WA h8, c_sitter T HA WA h8, c_hallOf T HA WA h8, c_faceOn T HA WA h8, c_yearOf T HA WA h8, c_nearest S HF WF, c_never S HF h8, c_alike S HF, nn_le, nn_succ, bI_0, Int32.or_zero, Int32.add_zero, Int32.le_refl, f_X11_chain, cp_ok S HF h8 h1, cp_ok S HF h8 h2, e1, e3]
  · simp (disch := omega) only [bd_eq, pu_ap, if_true, if_false, not_true_eq_false, not_false_eq_true, eq_self, v_49 S, i_49_0 S, i_49_1 S, i_49_2 S, i_49_3 S, i_49_4 S, i_49_5 S, i_49_6 S, i_49_7 S, i_49_8 S, r_49_9 S, r_49_10 S, r_49_11 S, r_49_12 S, r_49_13 S, r_49_14 S, r_49_15 S, r_49_16 S, i_49_17 S, i_49_18 S, r_49_19 S, r_49_20 S, r_49_21 S, r_49_22 S, r_49_23 S, r_49_24 S, r_49_25 S, i_49_26 S, r_49_27 S, r_49_28 S, r_49_29 S, r_49_30 S, i_49_31 S, i_49_32 S, i_49_33 S, i_49_34 S, i_49_35 S, i_49_36 S, i_49_37 S, r_49_38 S, i_49_39 S, i_49_40 S, r_49_41 S, r_49_42 S, r_49_43 S, i_49_44 S, r_49_45 S, i_49_46 S, i_49_47 S, i_49_48 S, l_53_0 S, l_53_1 S, fm_sz MF, fm_ak MF, fm_fa MF, fm_te MF, fm_pr MF, fm_sy MF, l_55 S, g_65 S, l_66_0 S, l_66_1 S, l_66_2 S, o_l24 U, o_l25 U, o_l26 U, o_l27 U, rr_hg MA, rr_yr MA, rr_tn MA, rr_bu MA, m_pA U MA h40, m_pB U MA h40, m_pH U MA h40, m_pF U MA h40, m_pY U MA h40, m_faceOf S MF h8, m_looksOf S MF WF, m_alike S MF, m_has, ix0, ix8, ix16, o_l U, rr_mo MA, rr_tk MA, rr_sa MA, nn_le, nn_succ, bI_0, Int32.or_zero, Int32.add_zero, Int32.le_refl, f_X12_chain, f_X12_chain_b27, f_X12_chain_b22, w_49_0 S, mp_ok S MF h8 h1, mp_ok S MF h8 h2, mb_0 S _ _ t0, show ((1 : Int32) = 0) = False from by decide, e2, e4]
theorem a_moodFor (S : Sw w) (hr : Rm w) (HC : RC w I J D) (HM : RM I D) (W : WD D) (x1 x2 : Int32) : CallN w I J (f_X11_moodFor 0 x1 x2) (f_X12_moodFor 49 x1 x2) := by
  have HF := HC.1.1
  have h8 := W.1.1
  by_cases h1 : inP (sz (dF D)) x1
  rotate_left
  · refine Or.inr (⟨?_, fun J' => ⟨0, ?_⟩⟩)
    · simp (disch := omega) only [bd_eq, pu_ap, if_true, if_false, not_true_eq_false, not_false_eq_true, eq_self, v_0 S, r_0_0 S, r_0_1 S, r_0_2 S, r_0_3 S, r_0_4 S, r_0_5 S, r_0_6 S, r_0_7 S, r_0_8 S, r_0_9 S, r_0_10 S, r_0_11 S, r_0_12 S, n_0_13 S, i_0_14 S, i_0_15 S, i_0_16 S, i_0_17 S, v_1 S, r_1_0 S, i_1_1 S, i_1_2 S, i_1_3 S, i_1_4 S, i_1_5 S, i_1_6 S, v_3 S, r_3_0 S, r_3_1 S, r_3_2 S, r_3_3 S, i_3_4 S, i_3_5 S, v_8 S, r_8_0 S, r_8_1 S, r_8_2 S, r_8_3 S, i_8_4 S, i_8_5 S, v_13 S, r_13_0 S, r_13_1 S, i_13_2 S, v_16 S, r_16_0 S, r_16_1 S, i_16_2 S, v_19 S, r_19_0 S, r_19_1 S, r_19_2 S, r_19_3 S, i_19_4 S, i_19_5 S, i_19_6 S, i_19_7 S, v_24 S, r_24_0 S, r_24_1 S, r_24_2 S, r_24_3 S, i_24_4 S, j_24_5 S, v_28 S, r_28_0 S, r_28_1 S, r_28_2 S, v_30 S, r_30_0 S, r_30_1 S, r_30_2 S, r_30_3 S, i_30_4 S, i_30_5 S, v_33 S, r_33_0 S, r_33_1 S, r_33_2 S, r_33_3 S, i_33_4 S, i_33_5 S, v_37 S, r_37_0 S, r_37_1 S, i_37_2 S, i_37_3 S, i_37_4 S, f_X11_moodFor, cp_no S hr HF h8 h1]
    · have S1 := S
      have S := tw_Sw S 13
      have HMx : RM (up2 (up2 I 0 16 (I 0 16 + 1)) 49 0 0) D := (HM.ag W ((Ag.refl [0] I).up (by decide)) (by decide)).t0 W
      have MF := HMx.1.1
      have t0 : up2 (up2 I 0 16 (I 0 16 + 1)) 49 0 0 49 0 = 0 := up2_s
      simp (disch := omega) only [bd_eq, pu_ap, if_true, if_false, not_true_eq_false, not_false_eq_true, eq_self, v_49 S, i_49_0 S, i_49_1 S, i_49_2 S, i_49_3 S, i_49_4 S, i_49_5 S, i_49_6 S, i_49_7 S, i_49_8 S, r_49_9 S, r_49_10 S, r_49_11 S, r_49_12 S, r_49_13 S, r_49_14 S, r_49_15 S, r_49_16 S, i_49_17 S, i_49_18 S, r_49_19 S, r_49_20 S, r_49_21 S, r_49_22 S, r_49_23 S, r_49_24 S, r_49_25 S, i_49_26 S, r_49_27 S, r_49_28 S, r_49_29 S, r_49_30 S, i_49_31 S, i_49_32 S, i_49_33 S, i_49_34 S, i_49_35 S, i_49_36 S, i_49_37 S, r_49_38 S, i_49_39 S, i_49_40 S, r_49_41 S, r_49_42 S, r_49_43 S, i_49_44 S, r_49_45 S, i_49_46 S, i_49_47 S, i_49_48 S, l_53_0 S, l_53_1 S, f_X12_moodFor, f_X12_moodFor_b27, f_X12_moodFor_b22, w_49_0 S, mp_no S MF h8 h1, mb_0 S _ _ t0, mb_10 S 1 (by decide) t0, up2_a, show ((1 : Int32) = 0) = False from by decide]
  obtain ⟨k1, h1, rfl⟩ := h1
  by_cases h2 : inP (sz (dF D)) x2
  rotate_left
  · refine Or.inr (⟨?_, fun J' => ⟨0, ?_⟩⟩)
    · simp (disch := omega) only [bd_eq, pu_ap, if_true, if_false, not_true_eq_false, not_false_eq_true, eq_self, v_0 S, r_0_0 S, r_0_1 S, r_0_2 S, r_0_3 S, r_0_4 S, r_0_5 S, r_0_6 S, r_0_7 S, r_0_8 S, r_0_9 S, r_0_10 S, r_0_11 S, r_0_12 S, n_0_13 S, i_0_14 S, i_0_15 S, i_0_16 S, i_0_17 S, v_1 S, r_1_0 S, i_1_1 S, i_1_2 S, i_1_3 S, i_1_4 S, i_1_5 S, i_1_6 S, v_3 S, r_3_0 S, r_3_1 S, r_3_2 S, r_3_3 S, i_3_4 S, i_3_5 S, v_8 S, r_8_0 S, r_8_1 S, r_8_2 S, r_8_3 S, i_8_4 S, i_8_5 S, v_13 S, r_13_0 S, r_13_1 S, i_13_2 S, v_16 S, r_16_0 S, r_16_1 S, i_16_2 S, v_19 S, r_19_0 S, r_19_1 S, r_19_2 S, r_19_3 S, i_19_4 S, i_19_5 S, i_19_6 S, i_19_7 S, v_24 S, r_24_0 S, r_24_1 S, r_24_2 S, r_24_3 S, i_24_4 S, j_24_5 S, v_28 S, r_28_0 S, r_28_1 S, r_28_2 S, v_30 S, r_30_0 S, r_30_1 S, r_30_2 S, r_30_3 S, i_30_4 S, i_30_5 S, v_33 S, r_33_0 S, r_33_1 S, r_33_2 S, r_33_3 S, i_33_4 S, i_33_5 S, v_37 S, r_37_0 S, r_37_1 S, i_37_2 S, i_37_3 S, i_37_4 S, f_X11_moodFor, cp_ok S HF h8 h1, cp_no S hr HF h8 h2]
    · have S1 := S
      have S := tw_Sw S 13
      have HMx : RM (up2 (up2 I 0 16 (I 0 16 + 1)) 49 0 0) D := (HM.ag W ((Ag.refl [0] I).up (by decide)) (by decide)).t0 W
      have MF := HMx.1.1
      have t0 : up2 (up2 I 0 16 (I 0 16 + 1)) 49 0 0 49 0 = 0 := up2_s
      simp (disch := omega) only [bd_eq, pu_ap, if_true, if_false, not_true_eq_false, not_false_eq_true, eq_self, v_49 S, i_49_0 S, i_49_1 S, i_49_2 S, i_49_3 S, i_49_4 S, i_49_5 S, i_49_6 S, i_49_7 S, i_49_8 S, r_49_9 S, r_49_10 S, r_49_11 S, r_49_12 S, r_49_13 S, r_49_14 S, r_49_15 S, r_49_16 S, i_49_17 S, i_49_18 S, r_49_19 S, r_49_20 S, r_49_21 S, r_49_22 S, r_49_23 S, r_49_24 S, r_49_25 S, i_49_26 S, r_49_27 S, r_49_28 S, r_49_29 S, r_49_30 S, i_49_31 S, i_49_32 S, i_49_33 S, i_49_34 S, i_49_35 S, i_49_36 S, i_49_37 S, r_49_38 S, i_49_39 S, i_49_40 S, r_49_41 S, r_49_42 S, r_49_43 S, i_49_44 S, r_49_45 S, i_49_46 S, i_49_47 S, i_49_48 S, l_53_0 S, l_53_1 S, f_X12_moodFor, f_X12_moodFor_b27, f_X12_moodFor_b22, w_49_0 S, mp_ok S MF h8 h1, mp_no S MF h8 h2, mb_0 S _ _ t0, mb_10 S 1 (by decide) t0, up2_a, show ((1 : Int32) = 0) = False from by decide]
  obtain ⟨k2, h2, rfl⟩ := h2
  refine Or.inl (Bod.call HC HM W ?_)
  clear HF HM HC
  intro I I' J J' HC HM
  have HMx := HM.t0 (v := 0) W
  obtain ⟨v, ⟨I1, e1, a1⟩, I2, e2, a2⟩ := b_moodFor S W h1 h2 I (up2 I' 49 0 0) J J' HC HMx up2_s
  obtain ⟨⟨HF, HA, HL, HW, HT, -⟩, -, -⟩ := HC
  obtain ⟨⟨MF, MA, ML, MW, MT, -⟩, -, -⟩ := HMx
  obtain ⟨WF, ⟨WA, -, WB, -⟩, -, WL, WW, -⟩ := W
  have h40 := WA.1
  have T := StS_43 S
  have U := RoS_497 S
  have t0 : up2 I' 49 0 0 49 0 = 0 := up2_s
  refine ⟨v, ⟨I1, ?_, a1⟩, I2, ?_, a2⟩
  · simp (disch := omega) only [bd_eq, pu_ap, if_true, if_false, not_true_eq_false, not_false_eq_true, eq_self, v_0 S, r_0_0 S, r_0_1 S, r_0_2 S, r_0_3 S, r_0_4 S, r_0_5 S, r_0_6 S, r_0_7 S, r_0_8 S, r_0_9 S, r_0_10 S, r_0_11 S, r_0_12 S, n_0_13 S, i_0_14 S, i_0_15 S, i_0_16 S, i_0_17 S, v_1 S, r_1_0 S, i_1_1 S, i_1_2 S, i_1_3 S, i_1_4 S, i_1_5 S, i_1_6 S, v_3 S, r_3_0 S, r_3_1 S, r_3_2 S, r_3_3 S, i_3_4 S, i_3_5 S, v_8 S, r_8_0 S, r_8_1 S, r_8_2 S, r_8_3 S, i_8_4 S, i_8_5 S, v_13 S, r_13_0 S, r_13_1 S, i_13_2 S, v_16 S, r_16_0 S, r_16_1 S, i_16_2 S, v_19 S, r_19_0 S, r_19_1 S, r_19_2 S, r_19_3 S, i_19_4 S, i_19_5 S, i_19_6 S, i_19_7 S, v_24 S, r_24_0 S, r_24_1 S, r_24_2 S, r_24_3 S, i_24_4 S, j_24_5 S, v_28 S, r_28_0 S, r_28_1 S, r_28_2 S, v_30 S, r_30_0 S, r_30_1 S, r_30_2 S, r_30_3 S, i_30_4 S, i_30_5 S, v_33 S, r_33_0 S, r_33_1 S, r_33_2 S, r_33_3 S, i_33_4 S, i_33_5 S, v_37 S, r_37_0 S, r_37_1 S, i_37_2 S, i_37_3 S, i_37_4 S, fc_sz HF, fc_ak HF, fc_fa HF, fc_te HF, fc_pr HF, fc_sy HF, l_4 S, l_5 S, l_6 S, l_7 S, e_v T, e_i4 T, e_i5 T, e_r0 T, e_r1 T, e_r2 T, e_r3 T, e_l1 T, e_l2 T, e_l3 T, sr_hg HA, sr_yr HA, sr_mo HA, sr_tk HA, sr_sa HA, c_taker T HA WA h8, c_sitter T HA WA h8, c_hallOf T HA WA h8, c_faceOn T HA WA h8, c_yearOf T HA WA h8, c_nearest S HF WF, c_never S HF h8, c_alike S HF, nn_le, nn_succ, bI_0, Int32.or_zero, Int32.add_zero, Int32.le_refl, f_X11_moodFor, cp_ok S HF h8 h1, cp_ok S HF h8 h2, e1]
  · simp (disch := omega) only [bd_eq, pu_ap, if_true, if_false, not_true_eq_false, not_false_eq_true, eq_self, v_49 S, i_49_0 S, i_49_1 S, i_49_2 S, i_49_3 S, i_49_4 S, i_49_5 S, i_49_6 S, i_49_7 S, i_49_8 S, r_49_9 S, r_49_10 S, r_49_11 S, r_49_12 S, r_49_13 S, r_49_14 S, r_49_15 S, r_49_16 S, i_49_17 S, i_49_18 S, r_49_19 S, r_49_20 S, r_49_21 S, r_49_22 S, r_49_23 S, r_49_24 S, r_49_25 S, i_49_26 S, r_49_27 S, r_49_28 S, r_49_29 S, r_49_30 S, i_49_31 S, i_49_32 S, i_49_33 S, i_49_34 S, i_49_35 S, i_49_36 S, i_49_37 S, r_49_38 S, i_49_39 S, i_49_40 S, r_49_41 S, r_49_42 S, r_49_43 S, i_49_44 S, r_49_45 S, i_49_46 S, i_49_47 S, i_49_48 S, l_53_0 S, l_53_1 S, fm_sz MF, fm_ak MF, fm_fa MF, fm_te MF, fm_pr MF, fm_sy MF, l_55 S, g_65 S, l_66_0 S, l_66_1 S, l_66_2 S, o_l24 U, o_l25 U, o_l26 U, o_l27 U, rr_hg MA, rr_yr MA, rr_tn MA, rr_bu MA, m_pA U MA h40, m_pB U MA h40, m_pH U MA h40, m_pF U MA h40, m_pY U MA h40, m_faceOf S MF h8, m_looksOf S MF WF, m_alike S MF, m_has, ix0, ix8, ix16, o_l U, rr_mo MA, rr_tk MA, rr_sa MA, nn_le, nn_succ, bI_0, Int32.or_zero, Int32.add_zero, Int32.le_refl, f_X12_moodFor, f_X12_moodFor_b27, f_X12_moodFor_b22, w_49_0 S, mp_ok S MF h8 h1, mp_ok S MF h8 h2, mb_0 S _ _ t0, show ((1 : Int32) = 0) = False from by decide]
    simp (disch := omega) only [bd_eq, pu_ap, if_true, if_false, not_true_eq_false, not_false_eq_true, eq_self, v_49 S, i_49_0 S, i_49_1 S, i_49_2 S, i_49_3 S, i_49_4 S, i_49_5 S, i_49_6 S, i_49_7 S, i_49_8 S, r_49_9 S, r_49_10 S, r_49_11 S, r_49_12 S, r_49_13 S, r_49_14 S, r_49_15 S, r_49_16 S, i_49_17 S, i_49_18 S, r_49_19 S, r_49_20 S, r_49_21 S, r_49_22 S, r_49_23 S, r_49_24 S, r_49_25 S, i_49_26 S, r_49_27 S, r_49_28 S, r_49_29 S, r_49_30 S, i_49_31 S, i_49_32 S, i_49_33 S, i_49_34 S, i_49_35 S, i_49_36 S, i_49_37 S, r_49_38 S, i_49_39 S, i_49_40 S, r_49_41 S, r_49_42 S, r_49_43 S, i_49_44 S, r_49_45 S, i_49_46 S, i_49_47 S, i_49_48 S, l_53_0 S, l_53_1 S, fm_sz MF, fm_ak MF, fm_fa MF, fm_te MF, fm_pr MF, fm_sy MF, l_55 S, g_65 S, l_66_0 S, l_66_1 S, l_66_2 S, o_l24 U, o_l25 U, o_l26 U, o_l27 U, rr_hg MA, rr_yr MA, rr_tn MA, rr_bu MA, m_pA U MA h40, m_pB U MA h40, m_pH U MA h40, m_pF U MA h40, m_pY U MA h40, m_faceOf S MF h8, m_looksOf S MF WF, m_alike S MF, m_has, ix0, ix8, ix16, o_l U, rr_mo MA, rr_tk MA, rr_sa MA, nn_le, nn_succ, bI_0, Int32.or_zero, Int32.add_zero, Int32.le_refl] at e2
    exact e2
theorem a_lost (S : Sw w) (hr : Rm w) (HC : RC w I J D) (HM : RM I D) (W : WD D) (x1 : Int32) : CallN w I J (f_X11_lost 0 x1) (f_X12_lost 49 x1) := by
  have HF := HC.1.1
  have h8 := W.1.1
  by_cases h1 : inP 6 x1
  rotate_left
  · refine Or.inr (⟨?_, fun J' => ⟨0, ?_⟩⟩)
    · simp (disch := omega) only [bd_eq, pu_ap, if_true, if_false, not_true_eq_false, not_false_eq_true, eq_self, v_0 S, r_0_0 S, r_0_1 S, r_0_2 S, r_0_3 S, r_0_4 S, r_0_5 S, r_0_6 S, r_0_7 S, r_0_8 S, r_0_9 S, r_0_10 S, r_0_11 S, r_0_12 S, n_0_13 S, i_0_14 S, i_0_15 S, i_0_16 S, i_0_17 S, v_1 S, r_1_0 S, i_1_1 S, i_1_2 S, i_1_3 S, i_1_4 S, i_1_5 S, i_1_6 S, v_3 S, r_3_0 S, r_3_1 S, r_3_2 S, r_3_3 S, i_3_4 S, i_3_5 S, v_8 S, r_8_0 S, r_8_1 S, r_8_2 S, r_8_3 S, i_8_4 S, i_8_5 S, v_13 S, r_13_0 S, r_13_1 S, i_13_2 S, v_16 S, r_16_0 S, r_16_1 S, i_16_2 S, v_19 S, r_19_0 S, r_19_1 S, r_19_2 S, r_19_3 S, i_19_4 S, i_19_5 S, i_19_6 S, i_19_7 S, v_24 S, r_24_0 S, r_24_1 S, r_24_2 S, r_24_3 S, i_24_4 S, j_24_5 S, v_28 S, r_28_0 S, r_28_1 S, r_28_2 S, v_30 S, r_30_0 S, r_30_1 S, r_30_2 S, r_30_3 S, i_30_4 S, i_30_5 S, v_33 S, r_33_0 S, r_33_1 S, r_33_2 S, r_33_3 S, i_33_4 S, i_33_5 S, v_37 S, r_37_0 S, r_37_1 S, i_37_2 S, i_37_3 S, i_37_4 S, f_X11_lost, ch_no S hr h1]
    · have S1 := S
      have S := tw_Sw S 13
      have HMx : RM (up2 (up2 I 0 16 (I 0 16 + 1)) 49 0 0) D := (HM.ag W ((Ag.refl [0] I).up (by decide)) (by decide)).t0 W
      have MF := HMx.1.1
      have t0 : up2 (up2 I 0 16 (I 0 16 + 1)) 49 0 0 49 0 = 0 := up2_s
      simp (disch := omega) only [bd_eq, pu_ap, if_true, if_false, not_true_eq_false, not_false_eq_true, eq_self, v_49 S, i_49_0 S, i_49_1 S, i_49_2 S, i_49_3 S, i_49_4 S, i_49_5 S, i_49_6 S, i_49_7 S, i_49_8 S, r_49_9 S, r_49_10 S, r_49_11 S, r_49_12 S, r_49_13 S, r_49_14 S, r_49_15 S, r_49_16 S, i_49_17 S, i_49_18 S, r_49_19 S, r_49_20 S, r_49_21 S, r_49_22 S, r_49_23 S, r_49_24 S, r_49_25 S, i_49_26 S, r_49_27 S, r_49_28 S, r_49_29 S, r_49_30 S, i_49_31 S, i_49_32 S, i_49_33 S, i_49_34 S, i_49_35 S, i_49_36 S, i_49_37 S, r_49_38 S, i_49_39 S, i_49_40 S, r_49_41 S, r_49_42 S, r_49_43 S, i_49_44 S, r_49_45 S, i_49_46 S, i_49_47 S, i_49_48 S, l_53_0 S, l_53_1 S, f_X12_lost, f_X12_lost_b18, w_49_0 S, mh_no h1, mb_0 S _ _ t0, mb_10 S 1 (by decide) t0, up2_a, show ((1 : Int32) = 0) = False from by decide]
  obtain ⟨k1, h1, rfl⟩ := h1
  refine Or.inl (Bod.call HC HM W ?_)
  clear HF HM HC
  intro I I' J J' HC HM
  have HMx := HM.t0 (v := 0) W
  obtain ⟨v, I2, I3, ⟨e1, e3⟩, e2, e4, ⟨e5, e6⟩, a2⟩ := b_lost S W h1 I (up2 I' 49 0 0) J J' HC HMx up2_s
  obtain ⟨⟨HF, HA, HL, HW, HT, -⟩, -, -⟩ := HC
  obtain ⟨⟨MF, MA, ML, MW, MT, -⟩, -, -⟩ := HMx
  obtain ⟨WF, ⟨WA, -, WB, -⟩, -, WL, WW, -⟩ := W
  have h40 := WA.1
  have T := StS_43 S
  have U := RoS_497 S
  have t0 : up2 I' 49 0 0 49 0 = 0 := up2_s
  refine ⟨hadP (dF D) (dA D) (-1) &&& (hadP (dF D) (dA D) (nn k1) ^^^ (-1)), ⟨I, ?_, Ag.refl _ _⟩, I2, ?_, a2⟩
  · simp (disch := omega) only [bd_eq, pu_ap, if_true, if_false, not_true_eq_false, not_false_eq_true, eq_self, v_0 S, r_0_0 S, r_0_1 S, r_0_2 S, r_0_3 S, r_0_4 S, r_0_5 S, r_0_6 S, r_0_7 S, r_0_8 S, r_0_9 S, r_0_10 S, r_0_11 S, r_0_12 S, n_0_13 S, i_0_14 S, i_0_15 S, i_0_16 S, i_0_17 S, v_1 S, r_1_0 S, i_1_1 S, i_1_2 S, i_1_3 S, i_1_4 S, i_1_5 S, i_1_6 S, v_3 S, r_3_0 S, r_3_1 S, r_3_2 S, r_3_3 S, i_3_4 S, i_3_5 S, v_8 S, r_8_0 S, r_8_1 S, r_8_2 S, r_8_3 S, i_8_4 S, i_8_5 S, v_13 S, r_13_0 S, r_13_1 S, i_13_2 S, v_16 S, r_16_0 S, r_16_1 S, i_16_2 S, v_19 S, r_19_0 S, r_19_1 S, r_19_2 S, r_19_3 S, i_19_4 S, i_19_5 S, i_19_6 S, i_19_7 S, v_24 S, r_24_0 S, r_24_1 S, r_24_2 S, r_24_3 S, i_24_4 S, j_24_5 S, v_28 S, r_28_0 S, r_28_1 S, r_28_2 S, v_30 S, r_30_0 S, r_30_1 S, r_30_2 S, r_30_3 S, i_30_4 S, i_30_5 S, v_33 S, r_33_0 S, r_33_1 S, r_33_2 S, r_33_3 S, i_33_4 S, i_33_5 S, v_37 S, r_37_0 S, r_37_1 S, i_37_2 S, i_37_3 S, i_37_4 S, fc_sz HF, fc_ak HF, fc_fa HF, fc_te HF, fc_pr HF, fc_sy HF, l_4 S, l_5 S, l_6 S, l_7 S, e_v T, e_i4 T, e_i5 T, e_r0 T, e_r1 T, e_r2 T, e_r3 T, e_l1 T, e_l2 T, e_l3 T, sr_hg HA, sr_yr HA, sr_mo HA, sr_tk HA, sr_sa HA, c_taker T HA WA h8, c_sitter T HA WA h8, c_hallOf T HA WA h8, c_faceOn T HA WA h8, c_yearOf T HA WA h8, c_nearest S HF WF, c_never S HF h8, c_alike S HF, nn_le, nn_succ, bI_0, Int32.or_zero, Int32.add_zero, Int32.le_refl, f_X11_lost, ch_ok S h1, e1, e3]
  · simp (disch := omega) only [bd_eq, pu_ap, if_true, if_false, not_true_eq_false, not_false_eq_true, eq_self, v_49 S, i_49_0 S, i_49_1 S, i_49_2 S, i_49_3 S, i_49_4 S, i_49_5 S, i_49_6 S, i_49_7 S, i_49_8 S, r_49_9 S, r_49_10 S, r_49_11 S, r_49_12 S, r_49_13 S, r_49_14 S, r_49_15 S, r_49_16 S, i_49_17 S, i_49_18 S, r_49_19 S, r_49_20 S, r_49_21 S, r_49_22 S, r_49_23 S, r_49_24 S, r_49_25 S, i_49_26 S, r_49_27 S, r_49_28 S, r_49_29 S, r_49_30 S, i_49_31 S, i_49_32 S, i_49_33 S, i_49_34 S, i_49_35 S, i_49_36 S, i_49_37 S, r_49_38 S, i_49_39 S, i_49_40 S, r_49_41 S, r_49_42 S, r_49_43 S, i_49_44 S, r_49_45 S, i_49_46 S, i_49_47 S, i_49_48 S, l_53_0 S, l_53_1 S, fm_sz MF, fm_ak MF, fm_fa MF, fm_te MF, fm_pr MF, fm_sy MF, l_55 S, g_65 S, l_66_0 S, l_66_1 S, l_66_2 S, o_l24 U, o_l25 U, o_l26 U, o_l27 U, rr_hg MA, rr_yr MA, rr_tn MA, rr_bu MA, m_pA U MA h40, m_pB U MA h40, m_pH U MA h40, m_pF U MA h40, m_pY U MA h40, m_faceOf S MF h8, m_looksOf S MF WF, m_alike S MF, m_has, ix0, ix8, ix16, o_l U, rr_mo MA, rr_tk MA, rr_sa MA, nn_le, nn_succ, bI_0, Int32.or_zero, Int32.add_zero, Int32.le_refl, f_X12_lost, f_X12_lost_b18, w_49_0 S, mh_ok h1, mb_0 S _ _ t0, show ((1 : Int32) = 0) = False from by decide, e2, e4, e5, e6]
theorem a_mistaken (S : Sw w) (hr : Rm w) (HC : RC w I J D) (HM : RM I D) (W : WD D) : CallG w I J (f_X11_mistaken 0) (f_X12_mistaken 49) := by
  have HF := HC.1.1
  have h8 := W.1.1
  refine (Bod.call HC HM W ?_)
  clear HF HM HC
  intro I I' J J' HC HM
  have HMx := HM.t0 (v := 0) W
  obtain ⟨v, ⟨I1, e1, a1⟩, I2, e2, a2⟩ := b_mistaken S W I (up2 I' 49 0 0) J J' HC HMx up2_s
  obtain ⟨⟨HF, HA, HL, HW, HT, -⟩, -, -⟩ := HC
  obtain ⟨⟨MF, MA, ML, MW, MT, -⟩, -, -⟩ := HMx
  obtain ⟨WF, ⟨WA, -, WB, -⟩, -, WL, WW, -⟩ := W
  have h40 := WA.1
  have T := StS_43 S
  have U := RoS_497 S
  have t0 : up2 I' 49 0 0 49 0 = 0 := up2_s
  refine ⟨v, ⟨I1, ?_, a1⟩, I2, ?_, a2⟩
  · simp (disch := omega) only [bd_eq, pu_ap, if_true, if_false, not_true_eq_false, not_false_eq_true, eq_self, v_0 S, r_0_0 S, r_0_1 S, r_0_2 S, r_0_3 S, r_0_4 S, r_0_5 S, r_0_6 S, r_0_7 S, r_0_8 S, r_0_9 S, r_0_10 S, r_0_11 S, r_0_12 S, n_0_13 S, i_0_14 S, i_0_15 S, i_0_16 S, i_0_17 S, v_1 S, r_1_0 S, i_1_1 S, i_1_2 S, i_1_3 S, i_1_4 S, i_1_5 S, i_1_6 S, v_3 S, r_3_0 S, r_3_1 S, r_3_2 S, r_3_3 S, i_3_4 S, i_3_5 S, v_8 S, r_8_0 S, r_8_1 S, r_8_2 S, r_8_3 S, i_8_4 S, i_8_5 S, v_13 S, r_13_0 S, r_13_1 S, i_13_2 S, v_16 S, r_16_0 S, r_16_1 S, i_16_2 S, v_19 S, r_19_0 S, r_19_1 S, r_19_2 S, r_19_3 S, i_19_4 S, i_19_5 S, i_19_6 S, i_19_7 S, v_24 S, r_24_0 S, r_24_1 S, r_24_2 S, r_24_3 S, i_24_4 S, j_24_5 S, v_28 S, r_28_0 S, r_28_1 S, r_28_2 S, v_30 S, r_30_0 S, r_30_1 S, r_30_2 S, r_30_3 S, i_30_4 S, i_30_5 S, v_33 S, r_33_0 S, r_33_1 S, r_33_2 S, r_33_3 S, i_33_4 S, i_33_5 S, v_37 S, r_37_0 S, r_37_1 S, i_37_2 S, i_37_3 S, i_37_4 S, fc_sz HF, fc_ak HF, fc_fa HF, fc_te HF, fc_pr HF, fc_sy HF, l_4 S, l_5 S, l_6 S, l_7 S, e_v T, e_i4 T, e_i5 T, e_r0 T, e_r1 T, e_r2 T, e_r3 T, e_l1 T, e_l2 T, e_l3 T, sr_hg HA, sr_yr HA, sr_mo HA, sr_tk HA, sr_sa HA, c_taker T HA WA h8, c_sitter T HA WA h8, c_hallOf T HA WA h8, c_faceOn T HA WA h8, c_yearOf T HA WA h8, c_nearest S HF WF, c_never S HF h8, c_alike S HF, nn_le, nn_succ, bI_0, Int32.or_zero, Int32.add_zero, Int32.le_refl, f_X11_mistaken, e1]
  · simp (disch := omega) only [bd_eq, pu_ap, if_true, if_false, not_true_eq_false, not_false_eq_true, eq_self, v_49 S, i_49_0 S, i_49_1 S, i_49_2 S, i_49_3 S, i_49_4 S, i_49_5 S, i_49_6 S, i_49_7 S, i_49_8 S, r_49_9 S, r_49_10 S, r_49_11 S, r_49_12 S, r_49_13 S, r_49_14 S, r_49_15 S, r_49_16 S, i_49_17 S, i_49_18 S, r_49_19 S, r_49_20 S, r_49_21 S, r_49_22 S, r_49_23 S, r_49_24 S, r_49_25 S, i_49_26 S, r_49_27 S, r_49_28 S, r_49_29 S, r_49_30 S, i_49_31 S, i_49_32 S, i_49_33 S, i_49_34 S, i_49_35 S, i_49_36 S, i_49_37 S, r_49_38 S, i_49_39 S, i_49_40 S, r_49_41 S, r_49_42 S, r_49_43 S, i_49_44 S, r_49_45 S, i_49_46 S, i_49_47 S, i_49_48 S, l_53_0 S, l_53_1 S, fm_sz MF, fm_ak MF, fm_fa MF, fm_te MF, fm_pr MF, fm_sy MF, l_55 S, g_65 S, l_66_0 S, l_66_1 S, l_66_2 S, o_l24 U, o_l25 U, o_l26 U, o_l27 U, rr_hg MA, rr_yr MA, rr_tn MA, rr_bu MA, m_pA U MA h40, m_pB U MA h40, m_pH U MA h40, m_pF U MA h40, m_pY U MA h40, m_faceOf S MF h8, m_looksOf S MF WF, m_alike S MF, m_has, ix0, ix8, ix16, o_l U, rr_mo MA, rr_tk MA, rr_sa MA, nn_le, nn_succ, bI_0, Int32.or_zero, Int32.add_zero, Int32.le_refl, f_X12_mistaken, w_49_0 S, mb_0 S _ _ t0, show ((1 : Int32) = 0) = False from by decide, e2]
theorem a_unseen (S : Sw w) (hr : Rm w) (HC : RC w I J D) (HM : RM I D) (W : WD D) : CallG w I J (f_X11_unseen 0) (f_X12_unseen 49) := by
  have HF := HC.1.1
  have h8 := W.1.1
  refine (Bod.call HC HM W ?_)
  clear HF HM HC
  intro I I' J J' HC HM
  have HMx := HM.t0 (v := 0) W
  obtain ⟨v, ⟨I1, e1, a1⟩, I2, e2, a2⟩ := b_unseen S W I (up2 I' 49 0 0) J J' HC HMx up2_s
  obtain ⟨⟨HF, HA, HL, HW, HT, -⟩, -, -⟩ := HC
  obtain ⟨⟨MF, MA, ML, MW, MT, -⟩, -, -⟩ := HMx
  obtain ⟨WF, ⟨WA, -, WB, -⟩, -, WL, WW, -⟩ := W
  have h40 := WA.1
  have T := StS_43 S
  have U := RoS_497 S
  have t0 : up2 I' 49 0 0 49 0 = 0 := up2_s
  refine ⟨v, ⟨I1, ?_, a1⟩, I2, ?_, a2⟩
  · simp (disch := omega) only [bd_eq, pu_ap, if_true, if_false, not_true_eq_false, not_false_eq_true, eq_self, v_0 S, r_0_0 S, r_0_1 S, r_0_2 S, r_0_3 S, r_0_4 S, r_0_5 S, r_0_6 S, r_0_7 S, r_0_8 S, r_0_9 S, r_0_10 S, r_0_11 S, r_0_12 S, n_0_13 S, i_0_14 S, i_0_15 S, i_0_16 S, i_0_17 S, v_1 S, r_1_0 S, i_1_1 S, i_1_2 S, i_1_3 S, i_1_4 S, i_1_5 S, i_1_6 S, v_3 S, r_3_0 S, r_3_1 S, r_3_2 S, r_3_3 S, i_3_4 S, i_3_5 S, v_8 S, r_8_0 S, r_8_1 S, r_8_2 S, r_8_3 S, i_8_4 S, i_8_5 S, v_13 S, r_13_0 S, r_13_1 S, i_13_2 S, v_16 S, r_16_0 S, r_16_1 S, i_16_2 S, v_19 S, r_19_0 S, r_19_1 S, r_19_2 S, r_19_3 S, i_19_4 S, i_19_5 S, i_19_6 S, i_19_7 S, v_24 S, r_24_0 S, r_24_1 S, r_24_2 S, r_24_3 S, i_24_4 S, j_24_5 S, v_28 S, r_28_0 S, r_28_1 S, r_28_2 S, v_30 S, r_30_0 S, r_30_1 S, r_30_2 S, r_30_3 S, i_30_4 S, i_30_5 S, v_33 S, r_33_0 S, r_33_1 S, r_33_2 S, r_33_3 S, i_33_4 S, i_33_5 S, v_37 S, r_37_0 S, r_37_1 S, i_37_2 S, i_37_3 S, i_37_4 S, fc_sz HF, fc_ak HF, fc_fa HF, fc_te HF, fc_pr HF, fc_sy HF, l_4 S, l_5 S, l_6 S, l_7 S, e_v T, e_i4 T, e_i5 T, e_r0 T, e_r1 T, e_r2 T, e_r3 T, e_l1 T, e_l2 T, e_l3 T, sr_hg HA, sr_yr HA, sr_mo HA, sr_tk HA, sr_sa HA, c_taker T HA WA h8, c_sitter T HA WA h8, c_hallOf T HA WA h8, c_faceOn T HA WA h8, c_yearOf T HA WA h8, c_nearest S HF WF, c_never S HF h8, c_alike S HF, nn_le, nn_succ, bI_0, Int32.or_zero, Int32.add_zero, Int32.le_refl, f_X11_unseen, e1]
  · simp (disch := omega) only [bd_eq, pu_ap, if_true, if_false, not_true_eq_false, not_false_eq_true, eq_self, v_49 S, i_49_0 S, i_49_1 S, i_49_2 S, i_49_3 S, i_49_4 S, i_49_5 S, i_49_6 S, i_49_7 S, i_49_8 S, r_49_9 S, r_49_10 S, r_49_11 S, r_49_12 S, r_49_13 S, r_49_14 S, r_49_15 S, r_49_16 S, i_49_17 S, i_49_18 S, r_49_19 S, r_49_20 S, r_49_21 S, r_49_22 S, r_49_23 S, r_49_24 S, r_49_25 S, i_49_26 S, r_49_27 S, r_49_28 S, r_49_29 S, r_49_30 S, i_49_31 S, i_49_32 S, i_49_33 S, i_49_34 S, i_49_35 S, i_49_36 S, i_49_37 S, r_49_38 S, i_49_39 S, i_49_40 S, r_49_41 S, r_49_42 S, r_49_43 S, i_49_44 S, r_49_45 S, i_49_46 S, i_49_47 S, i_49_48 S, l_53_0 S, l_53_1 S, fm_sz MF, fm_ak MF, fm_fa MF, fm_te MF, fm_pr MF, fm_sy MF, l_55 S, g_65 S, l_66_0 S, l_66_1 S, l_66_2 S, o_l24 U, o_l25 U, o_l26 U, o_l27 U, rr_hg MA, rr_yr MA, rr_tn MA, rr_bu MA, m_pA U MA h40, m_pB U MA h40, m_pH U MA h40, m_pF U MA h40, m_pY U MA h40, m_faceOf S MF h8, m_looksOf S MF WF, m_alike S MF, m_has, ix0, ix8, ix16, o_l U, rr_mo MA, rr_tk MA, rr_sa MA, nn_le, nn_succ, bI_0, Int32.or_zero, Int32.add_zero, Int32.le_refl, f_X12_unseen, w_49_0 S, mb_0 S _ _ t0, show ((1 : Int32) = 0) = False from by decide, e2]
theorem a_had (S : Sw w) (hr : Rm w) (HC : RC w I J D) (HM : RM I D) (W : WD D) : CallG w I J (f_X11_had 0) (f_X12_had 49) := by
  have HF := HC.1.1
  have h8 := W.1.1
  refine (Bod.call HC HM W ?_)
  clear HF HM HC
  intro I I' J J' HC HM
  have HMx := HM.t0 (v := 0) W
  have dNc := HC.1.2.2.2.2.2.2.2.2
  have dNm := HMx.1.2.2.2.2.2.2.2.2
  have dPc := HC.1.2.2.2.2.2.2.2.1
  have dPm := HMx.1.2.2.2.2.2.2.2.1
  have dEc := HC.2
  have dEm := HMx.2
  have dHc := HC.1.2.2.2.2.2.1
  have dHm := HMx.1.2.2.2.2.2.1
  have dMc := HC.1.2.2.2.2.2.2.1.1
  have dMm := HMx.1.2.2.2.2.2.2.1.1
  obtain ⟨⟨HF, HA, HL, HW, HT, -⟩, -, -⟩ := HC
  obtain ⟨⟨MF, MA, ML, MW, MT, -⟩, -, -⟩ := HMx
  obtain ⟨WF, ⟨WA, -, WB, -⟩, -, WL, WW, -⟩ := W
  have h40 := WA.1
  have T := StS_43 S
  have U := RoS_497 S
  have t0 : up2 I' 49 0 0 49 0 = 0 := up2_s
  refine QQ.mk (hadP (dF D) (dA D) (-1)) ?_ ?_
  · simp (disch := omega) only [bd_eq, pu_ap, if_true, if_false, not_true_eq_false, not_false_eq_true, eq_self, v_0 S, r_0_0 S, r_0_1 S, r_0_2 S, r_0_3 S, r_0_4 S, r_0_5 S, r_0_6 S, r_0_7 S, r_0_8 S, r_0_9 S, r_0_10 S, r_0_11 S, r_0_12 S, n_0_13 S, i_0_14 S, i_0_15 S, i_0_16 S, i_0_17 S, v_1 S, r_1_0 S, i_1_1 S, i_1_2 S, i_1_3 S, i_1_4 S, i_1_5 S, i_1_6 S, v_3 S, r_3_0 S, r_3_1 S, r_3_2 S, r_3_3 S, i_3_4 S, i_3_5 S, v_8 S, r_8_0 S, r_8_1 S, r_8_2 S, r_8_3 S, i_8_4 S, i_8_5 S, v_13 S, r_13_0 S, r_13_1 S, i_13_2 S, v_16 S, r_16_0 S, r_16_1 S, i_16_2 S, v_19 S, r_19_0 S, r_19_1 S, r_19_2 S, r_19_3 S, i_19_4 S, i_19_5 S, i_19_6 S, i_19_7 S, v_24 S, r_24_0 S, r_24_1 S, r_24_2 S, r_24_3 S, i_24_4 S, j_24_5 S, v_28 S, r_28_0 S, r_28_1 S, r_28_2 S, v_30 S, r_30_0 S, r_30_1 S, r_30_2 S, r_30_3 S, i_30_4 S, i_30_5 S, v_33 S, r_33_0 S, r_33_1 S, r_33_2 S, r_33_3 S, i_33_4 S, i_33_5 S, v_37 S, r_37_0 S, r_37_1 S, i_37_2 S, i_37_3 S, i_37_4 S, fc_sz HF, fc_ak HF, fc_fa HF, fc_te HF, fc_pr HF, fc_sy HF, l_4 S, l_5 S, l_6 S, l_7 S, e_v T, e_i4 T, e_i5 T, e_r0 T, e_r1 T, e_r2 T, e_r3 T, e_l1 T, e_l2 T, e_l3 T, sr_hg HA, sr_yr HA, sr_mo HA, sr_tk HA, sr_sa HA, c_taker T HA WA h8, c_sitter T HA WA h8, c_hallOf T HA WA h8, c_faceOn T HA WA h8, c_yearOf T HA WA h8, c_nearest S HF WF, c_never S HF h8, c_alike S HF, nn_le, nn_succ, bI_0, Int32.or_zero, Int32.add_zero, Int32.le_refl, f_X11_had, c_hadBits S HF h8 T HA WA]
  · simp (disch := omega) only [bd_eq, pu_ap, if_true, if_false, not_true_eq_false, not_false_eq_true, eq_self, v_49 S, i_49_0 S, i_49_1 S, i_49_2 S, i_49_3 S, i_49_4 S, i_49_5 S, i_49_6 S, i_49_7 S, i_49_8 S, r_49_9 S, r_49_10 S, r_49_11 S, r_49_12 S, r_49_13 S, r_49_14 S, r_49_15 S, r_49_16 S, i_49_17 S, i_49_18 S, r_49_19 S, r_49_20 S, r_49_21 S, r_49_22 S, r_49_23 S, r_49_24 S, r_49_25 S, i_49_26 S, r_49_27 S, r_49_28 S, r_49_29 S, r_49_30 S, i_49_31 S, i_49_32 S, i_49_33 S, i_49_34 S, i_49_35 S, i_49_36 S, i_49_37 S, r_49_38 S, i_49_39 S, i_49_40 S, r_49_41 S, r_49_42 S, r_49_43 S, i_49_44 S, r_49_45 S, i_49_46 S, i_49_47 S, i_49_48 S, l_53_0 S, l_53_1 S, fm_sz MF, fm_ak MF, fm_fa MF, fm_te MF, fm_pr MF, fm_sy MF, l_55 S, g_65 S, l_66_0 S, l_66_1 S, l_66_2 S, o_l24 U, o_l25 U, o_l26 U, o_l27 U, rr_hg MA, rr_yr MA, rr_tn MA, rr_bu MA, m_pA U MA h40, m_pB U MA h40, m_pH U MA h40, m_pF U MA h40, m_pY U MA h40, m_faceOf S MF h8, m_looksOf S MF WF, m_alike S MF, m_has, ix0, ix8, ix16, o_l U, rr_mo MA, rr_tk MA, rr_sa MA, nn_le, nn_succ, bI_0, Int32.or_zero, Int32.add_zero, Int32.le_refl, f_X12_had, w_49_0 S, mb_0 S _ _ t0, show ((1 : Int32) = 0) = False from by decide, m_hadBy S MF WF U MA WA]
theorem a_fault (S : Sw w) (hr : Rm w) (HC : RC w I J D) (HM : RM I D) (W : WD D) : CallG w I J (f_X11_fault 0) (f_X12_fault 49) := by
  have HF := HC.1.1
  have h8 := W.1.1
  refine (Bod.call HC HM W ?_)
  clear HF HM HC
  intro I I' J J' HC HM
  have HMx := HM.t0 (v := 0) W
  have dNc := HC.1.2.2.2.2.2.2.2.2
  have dNm := HMx.1.2.2.2.2.2.2.2.2
  have dPc := HC.1.2.2.2.2.2.2.2.1
  have dPm := HMx.1.2.2.2.2.2.2.2.1
  have dEc := HC.2
  have dEm := HMx.2
  have dHc := HC.1.2.2.2.2.2.1
  have dHm := HMx.1.2.2.2.2.2.1
  have dMc := HC.1.2.2.2.2.2.2.1.1
  have dMm := HMx.1.2.2.2.2.2.2.1.1
  obtain ⟨⟨HF, HA, HL, HW, HT, -⟩, -, -⟩ := HC
  obtain ⟨⟨MF, MA, ML, MW, MT, -⟩, -, -⟩ := HMx
  obtain ⟨WF, ⟨WA, -, WB, -⟩, -, WL, WW, -⟩ := W
  have h40 := WA.1
  have T := StS_43 S
  have U := RoS_497 S
  have t0 : up2 I' 49 0 0 49 0 = 0 := up2_s
  refine QQ.mk (dP D) ?_ ?_
  · simp (disch := omega) only [bd_eq, pu_ap, if_true, if_false, not_true_eq_false, not_false_eq_true, eq_self, v_0 S, r_0_0 S, r_0_1 S, r_0_2 S, r_0_3 S, r_0_4 S, r_0_5 S, r_0_6 S, r_0_7 S, r_0_8 S, r_0_9 S, r_0_10 S, r_0_11 S, r_0_12 S, n_0_13 S, i_0_14 S, i_0_15 S, i_0_16 S, i_0_17 S, v_1 S, r_1_0 S, i_1_1 S, i_1_2 S, i_1_3 S, i_1_4 S, i_1_5 S, i_1_6 S, v_3 S, r_3_0 S, r_3_1 S, r_3_2 S, r_3_3 S, i_3_4 S, i_3_5 S, v_8 S, r_8_0 S, r_8_1 S, r_8_2 S, r_8_3 S, i_8_4 S, i_8_5 S, v_13 S, r_13_0 S, r_13_1 S, i_13_2 S, v_16 S, r_16_0 S, r_16_1 S, i_16_2 S, v_19 S, r_19_0 S, r_19_1 S, r_19_2 S, r_19_3 S, i_19_4 S, i_19_5 S, i_19_6 S, i_19_7 S, v_24 S, r_24_0 S, r_24_1 S, r_24_2 S, r_24_3 S, i_24_4 S, j_24_5 S, v_28 S, r_28_0 S, r_28_1 S, r_28_2 S, v_30 S, r_30_0 S, r_30_1 S, r_30_2 S, r_30_3 S, i_30_4 S, i_30_5 S, v_33 S, r_33_0 S, r_33_1 S, r_33_2 S, r_33_3 S, i_33_4 S, i_33_5 S, v_37 S, r_37_0 S, r_37_1 S, i_37_2 S, i_37_3 S, i_37_4 S, fc_sz HF, fc_ak HF, fc_fa HF, fc_te HF, fc_pr HF, fc_sy HF, l_4 S, l_5 S, l_6 S, l_7 S, e_v T, e_i4 T, e_i5 T, e_r0 T, e_r1 T, e_r2 T, e_r3 T, e_l1 T, e_l2 T, e_l3 T, sr_hg HA, sr_yr HA, sr_mo HA, sr_tk HA, sr_sa HA, c_taker T HA WA h8, c_sitter T HA WA h8, c_hallOf T HA WA h8, c_faceOn T HA WA h8, c_yearOf T HA WA h8, c_nearest S HF WF, c_never S HF h8, c_alike S HF, nn_le, nn_succ, bI_0, Int32.or_zero, Int32.add_zero, Int32.le_refl, f_X11_fault, dPc]
  · simp (disch := omega) only [bd_eq, pu_ap, if_true, if_false, not_true_eq_false, not_false_eq_true, eq_self, v_49 S, i_49_0 S, i_49_1 S, i_49_2 S, i_49_3 S, i_49_4 S, i_49_5 S, i_49_6 S, i_49_7 S, i_49_8 S, r_49_9 S, r_49_10 S, r_49_11 S, r_49_12 S, r_49_13 S, r_49_14 S, r_49_15 S, r_49_16 S, i_49_17 S, i_49_18 S, r_49_19 S, r_49_20 S, r_49_21 S, r_49_22 S, r_49_23 S, r_49_24 S, r_49_25 S, i_49_26 S, r_49_27 S, r_49_28 S, r_49_29 S, r_49_30 S, i_49_31 S, i_49_32 S, i_49_33 S, i_49_34 S, i_49_35 S, i_49_36 S, i_49_37 S, r_49_38 S, i_49_39 S, i_49_40 S, r_49_41 S, r_49_42 S, r_49_43 S, i_49_44 S, r_49_45 S, i_49_46 S, i_49_47 S, i_49_48 S, l_53_0 S, l_53_1 S, fm_sz MF, fm_ak MF, fm_fa MF, fm_te MF, fm_pr MF, fm_sy MF, l_55 S, g_65 S, l_66_0 S, l_66_1 S, l_66_2 S, o_l24 U, o_l25 U, o_l26 U, o_l27 U, rr_hg MA, rr_yr MA, rr_tn MA, rr_bu MA, m_pA U MA h40, m_pB U MA h40, m_pH U MA h40, m_pF U MA h40, m_pY U MA h40, m_faceOf S MF h8, m_looksOf S MF WF, m_alike S MF, m_has, ix0, ix8, ix16, o_l U, rr_mo MA, rr_tk MA, rr_sa MA, nn_le, nn_succ, bI_0, Int32.or_zero, Int32.add_zero, Int32.le_refl, f_X12_fault, w_49_0 S, mb_0 S _ _ t0, show ((1 : Int32) = 0) = False from by decide, dPm]
theorem a_status (S : Sw w) (hr : Rm w) (HC : RC w I J D) (HM : RM I D) (W : WD D) (x1 : Int32) : CallG w I J (f_X11_status 0 x1) (f_X12_status 49 x1) := by
  have HF := HC.1.1
  have h8 := W.1.1
  refine (Bod.call HC HM W ?_)
  clear HF HM HC
  intro I I' J J' HC HM
  have HMx := HM.t0 (v := 0) W
  have dNc := HC.1.2.2.2.2.2.2.2.2
  have dNm := HMx.1.2.2.2.2.2.2.2.2
  have dPc := HC.1.2.2.2.2.2.2.2.1
  have dPm := HMx.1.2.2.2.2.2.2.2.1
  have dEc := HC.2
  have dEm := HMx.2
  have dHc := HC.1.2.2.2.2.2.1
  have dHm := HMx.1.2.2.2.2.2.1
  have dMc := HC.1.2.2.2.2.2.2.1.1
  have dMm := HMx.1.2.2.2.2.2.2.1.1
  obtain ⟨⟨HF, HA, HL, HW, HT, -⟩, -, -⟩ := HC
  obtain ⟨⟨MF, MA, ML, MW, MT, -⟩, -, -⟩ := HMx
  obtain ⟨WF, ⟨WA, -, WB, -⟩, -, WL, WW, -⟩ := W
  have h40 := WA.1
  have T := StS_43 S
  have U := RoS_497 S
  have t0 : up2 I' 49 0 0 49 0 = 0 := up2_s
  by_cases c0 : x1 = 0
  · subst c0
    refine QQ.mk (dE D) ?_ ?_
    · simp (disch := omega) only [bd_eq, pu_ap, if_true, if_false, not_true_eq_false, not_false_eq_true, eq_self, v_0 S, r_0_0 S, r_0_1 S, r_0_2 S, r_0_3 S, r_0_4 S, r_0_5 S, r_0_6 S, r_0_7 S, r_0_8 S, r_0_9 S, r_0_10 S, r_0_11 S, r_0_12 S, n_0_13 S, i_0_14 S, i_0_15 S, i_0_16 S, i_0_17 S, v_1 S, r_1_0 S, i_1_1 S, i_1_2 S, i_1_3 S, i_1_4 S, i_1_5 S, i_1_6 S, v_3 S, r_3_0 S, r_3_1 S, r_3_2 S, r_3_3 S, i_3_4 S, i_3_5 S, v_8 S, r_8_0 S, r_8_1 S, r_8_2 S, r_8_3 S, i_8_4 S, i_8_5 S, v_13 S, r_13_0 S, r_13_1 S, i_13_2 S, v_16 S, r_16_0 S, r_16_1 S, i_16_2 S, v_19 S, r_19_0 S, r_19_1 S, r_19_2 S, r_19_3 S, i_19_4 S, i_19_5 S, i_19_6 S, i_19_7 S, v_24 S, r_24_0 S, r_24_1 S, r_24_2 S, r_24_3 S, i_24_4 S, j_24_5 S, v_28 S, r_28_0 S, r_28_1 S, r_28_2 S, v_30 S, r_30_0 S, r_30_1 S, r_30_2 S, r_30_3 S, i_30_4 S, i_30_5 S, v_33 S, r_33_0 S, r_33_1 S, r_33_2 S, r_33_3 S, i_33_4 S, i_33_5 S, v_37 S, r_37_0 S, r_37_1 S, i_37_2 S, i_37_3 S, i_37_4 S, fc_sz HF, fc_ak HF, fc_fa HF, fc_te HF, fc_pr HF, fc_sy HF, l_4 S, l_5 S, l_6 S, l_7 S, e_v T, e_i4 T, e_i5 T, e_r0 T, e_r1 T, e_r2 T, e_r3 T, e_l1 T, e_l2 T, e_l3 T, sr_hg HA, sr_yr HA, sr_mo HA, sr_tk HA, sr_sa HA, c_taker T HA WA h8, c_sitter T HA WA h8, c_hallOf T HA WA h8, c_faceOn T HA WA h8, c_yearOf T HA WA h8, c_nearest S HF WF, c_never S HF h8, c_alike S HF, nn_le, nn_succ, bI_0, Int32.or_zero, Int32.add_zero, Int32.le_refl, f_X11_status, dEc.1]
    · simp (disch := omega) only [bd_eq, pu_ap, if_true, if_false, not_true_eq_false, not_false_eq_true, eq_self, v_49 S, i_49_0 S, i_49_1 S, i_49_2 S, i_49_3 S, i_49_4 S, i_49_5 S, i_49_6 S, i_49_7 S, i_49_8 S, r_49_9 S, r_49_10 S, r_49_11 S, r_49_12 S, r_49_13 S, r_49_14 S, r_49_15 S, r_49_16 S, i_49_17 S, i_49_18 S, r_49_19 S, r_49_20 S, r_49_21 S, r_49_22 S, r_49_23 S, r_49_24 S, r_49_25 S, i_49_26 S, r_49_27 S, r_49_28 S, r_49_29 S, r_49_30 S, i_49_31 S, i_49_32 S, i_49_33 S, i_49_34 S, i_49_35 S, i_49_36 S, i_49_37 S, r_49_38 S, i_49_39 S, i_49_40 S, r_49_41 S, r_49_42 S, r_49_43 S, i_49_44 S, r_49_45 S, i_49_46 S, i_49_47 S, i_49_48 S, l_53_0 S, l_53_1 S, fm_sz MF, fm_ak MF, fm_fa MF, fm_te MF, fm_pr MF, fm_sy MF, l_55 S, g_65 S, l_66_0 S, l_66_1 S, l_66_2 S, o_l24 U, o_l25 U, o_l26 U, o_l27 U, rr_hg MA, rr_yr MA, rr_tn MA, rr_bu MA, m_pA U MA h40, m_pB U MA h40, m_pH U MA h40, m_pF U MA h40, m_pY U MA h40, m_faceOf S MF h8, m_looksOf S MF WF, m_alike S MF, m_has, ix0, ix8, ix16, o_l U, rr_mo MA, rr_tk MA, rr_sa MA, nn_le, nn_succ, bI_0, Int32.or_zero, Int32.add_zero, Int32.le_refl, f_X12_status, w_49_0 S, mb_0 S _ _ t0, show ((1 : Int32) = 0) = False from by decide, mb_ok (b := 1) (m := 2) (k := 0) rfl (by decide) (by decide), show f_X12_in 0 0 1 = f_X12_in (nn 0) 0 1 from rfl, l_51_0 S, dEm.1]
  · by_cases c1 : x1 = 1
    · subst c1
      refine QQ.mk (dG D) ?_ ?_
      · simp (disch := omega) only [bd_eq, pu_ap, if_true, if_false, not_true_eq_false, not_false_eq_true, eq_self, v_0 S, r_0_0 S, r_0_1 S, r_0_2 S, r_0_3 S, r_0_4 S, r_0_5 S, r_0_6 S, r_0_7 S, r_0_8 S, r_0_9 S, r_0_10 S, r_0_11 S, r_0_12 S, n_0_13 S, i_0_14 S, i_0_15 S, i_0_16 S, i_0_17 S, v_1 S, r_1_0 S, i_1_1 S, i_1_2 S, i_1_3 S, i_1_4 S, i_1_5 S, i_1_6 S, v_3 S, r_3_0 S, r_3_1 S, r_3_2 S, r_3_3 S, i_3_4 S, i_3_5 S, v_8 S, r_8_0 S, r_8_1 S, r_8_2 S, r_8_3 S, i_8_4 S, i_8_5 S, v_13 S, r_13_0 S, r_13_1 S, i_13_2 S, v_16 S, r_16_0 S, r_16_1 S, i_16_2 S, v_19 S, r_19_0 S, r_19_1 S, r_19_2 S, r_19_3 S, i_19_4 S, i_19_5 S, i_19_6 S, i_19_7 S, v_24 S, r_24_0 S, r_24_1 S, r_24_2 S, r_24_3 S, i_24_4 S, j_24_5 S, v_28 S, r_28_0 S, r_28_1 S, r_28_2 S, v_30 S, r_30_0 S, r_30_1 S, r_30_2 S, r_30_3 S, i_30_4 S, i_30_5 S, v_33 S, r_33_0 S, r_33_1 S, r_33_2 S, r_33_3 S, i_33_4 S, i_33_5 S, v_37 S, r_37_0 S, r_37_1 S, i_37_2 S, i_37_3 S, i_37_4 S, fc_sz HF, fc_ak HF, fc_fa HF, fc_te HF, fc_pr HF, fc_sy HF, l_4 S, l_5 S, l_6 S, l_7 S, e_v T, e_i4 T, e_i5 T, e_r0 T, e_r1 T, e_r2 T, e_r3 T, e_l1 T, e_l2 T, e_l3 T, sr_hg HA, sr_yr HA, sr_mo HA, sr_tk HA, sr_sa HA, c_taker T HA WA h8, c_sitter T HA WA h8, c_hallOf T HA WA h8, c_faceOn T HA WA h8, c_yearOf T HA WA h8, c_nearest S HF WF, c_never S HF h8, c_alike S HF, nn_le, nn_succ, bI_0, Int32.or_zero, Int32.add_zero, Int32.le_refl, f_X11_status, dEc.2, show ((1 : Int32) = 0) = False from by decide]
      · simp (disch := omega) only [bd_eq, pu_ap, if_true, if_false, not_true_eq_false, not_false_eq_true, eq_self, v_49 S, i_49_0 S, i_49_1 S, i_49_2 S, i_49_3 S, i_49_4 S, i_49_5 S, i_49_6 S, i_49_7 S, i_49_8 S, r_49_9 S, r_49_10 S, r_49_11 S, r_49_12 S, r_49_13 S, r_49_14 S, r_49_15 S, r_49_16 S, i_49_17 S, i_49_18 S, r_49_19 S, r_49_20 S, r_49_21 S, r_49_22 S, r_49_23 S, r_49_24 S, r_49_25 S, i_49_26 S, r_49_27 S, r_49_28 S, r_49_29 S, r_49_30 S, i_49_31 S, i_49_32 S, i_49_33 S, i_49_34 S, i_49_35 S, i_49_36 S, i_49_37 S, r_49_38 S, i_49_39 S, i_49_40 S, r_49_41 S, r_49_42 S, r_49_43 S, i_49_44 S, r_49_45 S, i_49_46 S, i_49_47 S, i_49_48 S, l_53_0 S, l_53_1 S, fm_sz MF, fm_ak MF, fm_fa MF, fm_te MF, fm_pr MF, fm_sy MF, l_55 S, g_65 S, l_66_0 S, l_66_1 S, l_66_2 S, o_l24 U, o_l25 U, o_l26 U, o_l27 U, rr_hg MA, rr_yr MA, rr_tn MA, rr_bu MA, m_pA U MA h40, m_pB U MA h40, m_pH U MA h40, m_pF U MA h40, m_pY U MA h40, m_faceOf S MF h8, m_looksOf S MF WF, m_alike S MF, m_has, ix0, ix8, ix16, o_l U, rr_mo MA, rr_tk MA, rr_sa MA, nn_le, nn_succ, bI_0, Int32.or_zero, Int32.add_zero, Int32.le_refl, f_X12_status, w_49_0 S, mb_0 S _ _ t0, show ((1 : Int32) = 0) = False from by decide, mb_ok (b := 1) (m := 2) (k := 1) rfl (by decide) (by decide), show f_X12_in 1 0 1 = f_X12_in (nn 1) 0 1 from rfl, l_51_1 S, dEm.2]
    · have hn : ¬ inP 2 x1 := by
        rintro ⟨k, hk, rfl⟩
        rcases (show k = 0 ∨ k = 1 by omega) with h | h <;> subst h
        · exact c0 rfl
        · exact c1 rfl
      refine QQ.mk (-1) ?_ ?_
      · simp (disch := omega) only [bd_eq, pu_ap, if_true, if_false, not_true_eq_false, not_false_eq_true, eq_self, v_0 S, r_0_0 S, r_0_1 S, r_0_2 S, r_0_3 S, r_0_4 S, r_0_5 S, r_0_6 S, r_0_7 S, r_0_8 S, r_0_9 S, r_0_10 S, r_0_11 S, r_0_12 S, n_0_13 S, i_0_14 S, i_0_15 S, i_0_16 S, i_0_17 S, v_1 S, r_1_0 S, i_1_1 S, i_1_2 S, i_1_3 S, i_1_4 S, i_1_5 S, i_1_6 S, v_3 S, r_3_0 S, r_3_1 S, r_3_2 S, r_3_3 S, i_3_4 S, i_3_5 S, v_8 S, r_8_0 S, r_8_1 S, r_8_2 S, r_8_3 S, i_8_4 S, i_8_5 S, v_13 S, r_13_0 S, r_13_1 S, i_13_2 S, v_16 S, r_16_0 S, r_16_1 S, i_16_2 S, v_19 S, r_19_0 S, r_19_1 S, r_19_2 S, r_19_3 S, i_19_4 S, i_19_5 S, i_19_6 S, i_19_7 S, v_24 S, r_24_0 S, r_24_1 S, r_24_2 S, r_24_3 S, i_24_4 S, j_24_5 S, v_28 S, r_28_0 S, r_28_1 S, r_28_2 S, v_30 S, r_30_0 S, r_30_1 S, r_30_2 S, r_30_3 S, i_30_4 S, i_30_5 S, v_33 S, r_33_0 S, r_33_1 S, r_33_2 S, r_33_3 S, i_33_4 S, i_33_5 S, v_37 S, r_37_0 S, r_37_1 S, i_37_2 S, i_37_3 S, i_37_4 S, fc_sz HF, fc_ak HF, fc_fa HF, fc_te HF, fc_pr HF, fc_sy HF, l_4 S, l_5 S, l_6 S, l_7 S, e_v T, e_i4 T, e_i5 T, e_r0 T, e_r1 T, e_r2 T, e_r3 T, e_l1 T, e_l2 T, e_l3 T, sr_hg HA, sr_yr HA, sr_mo HA, sr_tk HA, sr_sa HA, c_taker T HA WA h8, c_sitter T HA WA h8, c_hallOf T HA WA h8, c_faceOn T HA WA h8, c_yearOf T HA WA h8, c_nearest S HF WF, c_never S HF h8, c_alike S HF, nn_le, nn_succ, bI_0, Int32.or_zero, Int32.add_zero, Int32.le_refl, f_X11_status, c0, c1]
      · simp (disch := omega) only [bd_eq, pu_ap, if_true, if_false, not_true_eq_false, not_false_eq_true, eq_self, v_49 S, i_49_0 S, i_49_1 S, i_49_2 S, i_49_3 S, i_49_4 S, i_49_5 S, i_49_6 S, i_49_7 S, i_49_8 S, r_49_9 S, r_49_10 S, r_49_11 S, r_49_12 S, r_49_13 S, r_49_14 S, r_49_15 S, r_49_16 S, i_49_17 S, i_49_18 S, r_49_19 S, r_49_20 S, r_49_21 S, r_49_22 S, r_49_23 S, r_49_24 S, r_49_25 S, i_49_26 S, r_49_27 S, r_49_28 S, r_49_29 S, r_49_30 S, i_49_31 S, i_49_32 S, i_49_33 S, i_49_34 S, i_49_35 S, i_49_36 S, i_49_37 S, r_49_38 S, i_49_39 S, i_49_40 S, r_49_41 S, r_49_42 S, r_49_43 S, i_49_44 S, r_49_45 S, i_49_46 S, i_49_47 S, i_49_48 S, l_53_0 S, l_53_1 S, fm_sz MF, fm_ak MF, fm_fa MF, fm_te MF, fm_pr MF, fm_sy MF, l_55 S, g_65 S, l_66_0 S, l_66_1 S, l_66_2 S, o_l24 U, o_l25 U, o_l26 U, o_l27 U, rr_hg MA, rr_yr MA, rr_tn MA, rr_bu MA, m_pA U MA h40, m_pB U MA h40, m_pH U MA h40, m_pF U MA h40, m_pY U MA h40, m_faceOf S MF h8, m_looksOf S MF WF, m_alike S MF, m_has, ix0, ix8, ix16, o_l U, rr_mo MA, rr_tk MA, rr_sa MA, nn_le, nn_succ, bI_0, Int32.or_zero, Int32.add_zero, Int32.le_refl, f_X12_status, w_49_0 S, mb_0 S _ _ t0, show ((1 : Int32) = 0) = False from by decide, mb_no (b := 1) (m := 2) rfl (by decide) hn]
theorem a_count (S : Sw w) (hr : Rm w) (HC : RC w I J D) (HM : RM I D) (W : WD D) (x1 : Int32) : CallG w I J (f_X11_count 0 x1) (f_X12_count 49 x1) := by
  have HF := HC.1.1
  have h8 := W.1.1
  refine (Bod.call HC HM W ?_)
  clear HF HM HC
  intro I I' J J' HC HM
  have HMx := HM.t0 (v := 0) W
  have dNc := HC.1.2.2.2.2.2.2.2.2
  have dNm := HMx.1.2.2.2.2.2.2.2.2
  have dPc := HC.1.2.2.2.2.2.2.2.1
  have dPm := HMx.1.2.2.2.2.2.2.2.1
  have dEc := HC.2
  have dEm := HMx.2
  have dHc := HC.1.2.2.2.2.2.1
  have dHm := HMx.1.2.2.2.2.2.1
  have dMc := HC.1.2.2.2.2.2.2.1.1
  have dMm := HMx.1.2.2.2.2.2.2.1.1
  obtain ⟨⟨HF, HA, HL, HW, HT, -⟩, -, -⟩ := HC
  obtain ⟨⟨MF, MA, ML, MW, MT, -⟩, -, -⟩ := HMx
  obtain ⟨WF, ⟨WA, -, WB, -⟩, -, WL, WW, -⟩ := W
  have h40 := WA.1
  have T := StS_43 S
  have U := RoS_497 S
  have t0 : up2 I' 49 0 0 49 0 = 0 := up2_s
  have hT1 := HT.1
  have mT1 := MT.1
  by_cases c0 : x1 = 0
  · subst c0
    refine QQ.mk (nn (dM D).length) ?_ ?_
    · simp (disch := omega) only [bd_eq, pu_ap, if_true, if_false, not_true_eq_false, not_false_eq_true, eq_self, v_0 S, r_0_0 S, r_0_1 S, r_0_2 S, r_0_3 S, r_0_4 S, r_0_5 S, r_0_6 S, r_0_7 S, r_0_8 S, r_0_9 S, r_0_10 S, r_0_11 S, r_0_12 S, n_0_13 S, i_0_14 S, i_0_15 S, i_0_16 S, i_0_17 S, v_1 S, r_1_0 S, i_1_1 S, i_1_2 S, i_1_3 S, i_1_4 S, i_1_5 S, i_1_6 S, v_3 S, r_3_0 S, r_3_1 S, r_3_2 S, r_3_3 S, i_3_4 S, i_3_5 S, v_8 S, r_8_0 S, r_8_1 S, r_8_2 S, r_8_3 S, i_8_4 S, i_8_5 S, v_13 S, r_13_0 S, r_13_1 S, i_13_2 S, v_16 S, r_16_0 S, r_16_1 S, i_16_2 S, v_19 S, r_19_0 S, r_19_1 S, r_19_2 S, r_19_3 S, i_19_4 S, i_19_5 S, i_19_6 S, i_19_7 S, v_24 S, r_24_0 S, r_24_1 S, r_24_2 S, r_24_3 S, i_24_4 S, j_24_5 S, v_28 S, r_28_0 S, r_28_1 S, r_28_2 S, v_30 S, r_30_0 S, r_30_1 S, r_30_2 S, r_30_3 S, i_30_4 S, i_30_5 S, v_33 S, r_33_0 S, r_33_1 S, r_33_2 S, r_33_3 S, i_33_4 S, i_33_5 S, v_37 S, r_37_0 S, r_37_1 S, i_37_2 S, i_37_3 S, i_37_4 S, fc_sz HF, fc_ak HF, fc_fa HF, fc_te HF, fc_pr HF, fc_sy HF, l_4 S, l_5 S, l_6 S, l_7 S, e_v T, e_i4 T, e_i5 T, e_r0 T, e_r1 T, e_r2 T, e_r3 T, e_l1 T, e_l2 T, e_l3 T, sr_hg HA, sr_yr HA, sr_mo HA, sr_tk HA, sr_sa HA, c_taker T HA WA h8, c_sitter T HA WA h8, c_hallOf T HA WA h8, c_faceOn T HA WA h8, c_yearOf T HA WA h8, c_nearest S HF WF, c_never S HF h8, c_alike S HF, nn_le, nn_succ, bI_0, Int32.or_zero, Int32.add_zero, Int32.le_refl, f_X11_count, sw_at (x := 0) (lo := 0) 0 (by decide), List.getElem?_cons_succ, List.getElem?_cons_zero, List.getElem?_nil, Option.getD_some, Option.getD_none, dMc]
    · simp (disch := omega) only [bd_eq, pu_ap, if_true, if_false, not_true_eq_false, not_false_eq_true, eq_self, v_49 S, i_49_0 S, i_49_1 S, i_49_2 S, i_49_3 S, i_49_4 S, i_49_5 S, i_49_6 S, i_49_7 S, i_49_8 S, r_49_9 S, r_49_10 S, r_49_11 S, r_49_12 S, r_49_13 S, r_49_14 S, r_49_15 S, r_49_16 S, i_49_17 S, i_49_18 S, r_49_19 S, r_49_20 S, r_49_21 S, r_49_22 S, r_49_23 S, r_49_24 S, r_49_25 S, i_49_26 S, r_49_27 S, r_49_28 S, r_49_29 S, r_49_30 S, i_49_31 S, i_49_32 S, i_49_33 S, i_49_34 S, i_49_35 S, i_49_36 S, i_49_37 S, r_49_38 S, i_49_39 S, i_49_40 S, r_49_41 S, r_49_42 S, r_49_43 S, i_49_44 S, r_49_45 S, i_49_46 S, i_49_47 S, i_49_48 S, l_53_0 S, l_53_1 S, fm_sz MF, fm_ak MF, fm_fa MF, fm_te MF, fm_pr MF, fm_sy MF, l_55 S, g_65 S, l_66_0 S, l_66_1 S, l_66_2 S, o_l24 U, o_l25 U, o_l26 U, o_l27 U, rr_hg MA, rr_yr MA, rr_tn MA, rr_bu MA, m_pA U MA h40, m_pB U MA h40, m_pH U MA h40, m_pF U MA h40, m_pY U MA h40, m_faceOf S MF h8, m_looksOf S MF WF, m_alike S MF, m_has, ix0, ix8, ix16, o_l U, rr_mo MA, rr_tk MA, rr_sa MA, nn_le, nn_succ, bI_0, Int32.or_zero, Int32.add_zero, Int32.le_refl, f_X12_count, w_49_0 S, mb_0 S _ _ t0, show ((1 : Int32) = 0) = False from by decide, dMm]
  · by_cases c1 : x1 = 1
    · subst c1
      refine QQ.mk (nn (dT D)) ?_ ?_
      · simp (disch := omega) only [bd_eq, pu_ap, if_true, if_false, not_true_eq_false, not_false_eq_true, eq_self, v_0 S, r_0_0 S, r_0_1 S, r_0_2 S, r_0_3 S, r_0_4 S, r_0_5 S, r_0_6 S, r_0_7 S, r_0_8 S, r_0_9 S, r_0_10 S, r_0_11 S, r_0_12 S, n_0_13 S, i_0_14 S, i_0_15 S, i_0_16 S, i_0_17 S, v_1 S, r_1_0 S, i_1_1 S, i_1_2 S, i_1_3 S, i_1_4 S, i_1_5 S, i_1_6 S, v_3 S, r_3_0 S, r_3_1 S, r_3_2 S, r_3_3 S, i_3_4 S, i_3_5 S, v_8 S, r_8_0 S, r_8_1 S, r_8_2 S, r_8_3 S, i_8_4 S, i_8_5 S, v_13 S, r_13_0 S, r_13_1 S, i_13_2 S, v_16 S, r_16_0 S, r_16_1 S, i_16_2 S, v_19 S, r_19_0 S, r_19_1 S, r_19_2 S, r_19_3 S, i_19_4 S, i_19_5 S, i_19_6 S, i_19_7 S, v_24 S, r_24_0 S, r_24_1 S, r_24_2 S, r_24_3 S, i_24_4 S, j_24_5 S, v_28 S, r_28_0 S, r_28_1 S, r_28_2 S, v_30 S, r_30_0 S, r_30_1 S, r_30_2 S, r_30_3 S, i_30_4 S, i_30_5 S, v_33 S, r_33_0 S, r_33_1 S, r_33_2 S, r_33_3 S, i_33_4 S, i_33_5 S, v_37 S, r_37_0 S, r_37_1 S, i_37_2 S, i_37_3 S, i_37_4 S, fc_sz HF, fc_ak HF, fc_fa HF, fc_te HF, fc_pr HF, fc_sy HF, l_4 S, l_5 S, l_6 S, l_7 S, e_v T, e_i4 T, e_i5 T, e_r0 T, e_r1 T, e_r2 T, e_r3 T, e_l1 T, e_l2 T, e_l3 T, sr_hg HA, sr_yr HA, sr_mo HA, sr_tk HA, sr_sa HA, c_taker T HA WA h8, c_sitter T HA WA h8, c_hallOf T HA WA h8, c_faceOn T HA WA h8, c_yearOf T HA WA h8, c_nearest S HF WF, c_never S HF h8, c_alike S HF, nn_le, nn_succ, bI_0, Int32.or_zero, Int32.add_zero, Int32.le_refl, f_X11_count, sw_at (x := 1) (lo := 0) 1 (by decide), List.getElem?_cons_succ, List.getElem?_cons_zero, List.getElem?_nil, Option.getD_some, Option.getD_none, hT1]
      · simp (disch := omega) only [bd_eq, pu_ap, if_true, if_false, not_true_eq_false, not_false_eq_true, eq_self, v_49 S, i_49_0 S, i_49_1 S, i_49_2 S, i_49_3 S, i_49_4 S, i_49_5 S, i_49_6 S, i_49_7 S, i_49_8 S, r_49_9 S, r_49_10 S, r_49_11 S, r_49_12 S, r_49_13 S, r_49_14 S, r_49_15 S, r_49_16 S, i_49_17 S, i_49_18 S, r_49_19 S, r_49_20 S, r_49_21 S, r_49_22 S, r_49_23 S, r_49_24 S, r_49_25 S, i_49_26 S, r_49_27 S, r_49_28 S, r_49_29 S, r_49_30 S, i_49_31 S, i_49_32 S, i_49_33 S, i_49_34 S, i_49_35 S, i_49_36 S, i_49_37 S, r_49_38 S, i_49_39 S, i_49_40 S, r_49_41 S, r_49_42 S, r_49_43 S, i_49_44 S, r_49_45 S, i_49_46 S, i_49_47 S, i_49_48 S, l_53_0 S, l_53_1 S, fm_sz MF, fm_ak MF, fm_fa MF, fm_te MF, fm_pr MF, fm_sy MF, l_55 S, g_65 S, l_66_0 S, l_66_1 S, l_66_2 S, o_l24 U, o_l25 U, o_l26 U, o_l27 U, rr_hg MA, rr_yr MA, rr_tn MA, rr_bu MA, m_pA U MA h40, m_pB U MA h40, m_pH U MA h40, m_pF U MA h40, m_pY U MA h40, m_faceOf S MF h8, m_looksOf S MF WF, m_alike S MF, m_has, ix0, ix8, ix16, o_l U, rr_mo MA, rr_tk MA, rr_sa MA, nn_le, nn_succ, bI_0, Int32.or_zero, Int32.add_zero, Int32.le_refl, f_X12_count, w_49_0 S, mb_0 S _ _ t0, show ((1 : Int32) = 0) = False from by decide, mT1]
    · by_cases c2 : x1 = 2
      · subst c2
        refine QQ.mk (nn (dH D).length) ?_ ?_
        · simp (disch := omega) only [bd_eq, pu_ap, if_true, if_false, not_true_eq_false, not_false_eq_true, eq_self, v_0 S, r_0_0 S, r_0_1 S, r_0_2 S, r_0_3 S, r_0_4 S, r_0_5 S, r_0_6 S, r_0_7 S, r_0_8 S, r_0_9 S, r_0_10 S, r_0_11 S, r_0_12 S, n_0_13 S, i_0_14 S, i_0_15 S, i_0_16 S, i_0_17 S, v_1 S, r_1_0 S, i_1_1 S, i_1_2 S, i_1_3 S, i_1_4 S, i_1_5 S, i_1_6 S, v_3 S, r_3_0 S, r_3_1 S, r_3_2 S, r_3_3 S, i_3_4 S, i_3_5 S, v_8 S, r_8_0 S, r_8_1 S, r_8_2 S, r_8_3 S, i_8_4 S, i_8_5 S, v_13 S, r_13_0 S, r_13_1 S, i_13_2 S, v_16 S, r_16_0 S, r_16_1 S, i_16_2 S, v_19 S, r_19_0 S, r_19_1 S, r_19_2 S, r_19_3 S, i_19_4 S, i_19_5 S, i_19_6 S, i_19_7 S, v_24 S, r_24_0 S, r_24_1 S, r_24_2 S, r_24_3 S, i_24_4 S, j_24_5 S, v_28 S, r_28_0 S, r_28_1 S, r_28_2 S, v_30 S, r_30_0 S, r_30_1 S, r_30_2 S, r_30_3 S, i_30_4 S, i_30_5 S, v_33 S, r_33_0 S, r_33_1 S, r_33_2 S, r_33_3 S, i_33_4 S, i_33_5 S, v_37 S, r_37_0 S, r_37_1 S, i_37_2 S, i_37_3 S, i_37_4 S, fc_sz HF, fc_ak HF, fc_fa HF, fc_te HF, fc_pr HF, fc_sy HF, l_4 S, l_5 S, l_6 S, l_7 S, e_v T, e_i4 T, e_i5 T, e_r0 T, e_r1 T, e_r2 T, e_r3 T, e_l1 T, e_l2 T, e_l3 T, sr_hg HA, sr_yr HA, sr_mo HA, sr_tk HA, sr_sa HA, c_taker T HA WA h8, c_sitter T HA WA h8, c_hallOf T HA WA h8, c_faceOn T HA WA h8, c_yearOf T HA WA h8, c_nearest S HF WF, c_never S HF h8, c_alike S HF, nn_le, nn_succ, bI_0, Int32.or_zero, Int32.add_zero, Int32.le_refl, f_X11_count, sw_at (x := 2) (lo := 0) 2 (by decide), List.getElem?_cons_succ, List.getElem?_cons_zero, List.getElem?_nil, Option.getD_some, Option.getD_none, c_works S dHc]
        · simp (disch := omega) only [bd_eq, pu_ap, if_true, if_false, not_true_eq_false, not_false_eq_true, eq_self, v_49 S, i_49_0 S, i_49_1 S, i_49_2 S, i_49_3 S, i_49_4 S, i_49_5 S, i_49_6 S, i_49_7 S, i_49_8 S, r_49_9 S, r_49_10 S, r_49_11 S, r_49_12 S, r_49_13 S, r_49_14 S, r_49_15 S, r_49_16 S, i_49_17 S, i_49_18 S, r_49_19 S, r_49_20 S, r_49_21 S, r_49_22 S, r_49_23 S, r_49_24 S, r_49_25 S, i_49_26 S, r_49_27 S, r_49_28 S, r_49_29 S, r_49_30 S, i_49_31 S, i_49_32 S, i_49_33 S, i_49_34 S, i_49_35 S, i_49_36 S, i_49_37 S, r_49_38 S, i_49_39 S, i_49_40 S, r_49_41 S, r_49_42 S, r_49_43 S, i_49_44 S, r_49_45 S, i_49_46 S, i_49_47 S, i_49_48 S, l_53_0 S, l_53_1 S, fm_sz MF, fm_ak MF, fm_fa MF, fm_te MF, fm_pr MF, fm_sy MF, l_55 S, g_65 S, l_66_0 S, l_66_1 S, l_66_2 S, o_l24 U, o_l25 U, o_l26 U, o_l27 U, rr_hg MA, rr_yr MA, rr_tn MA, rr_bu MA, m_pA U MA h40, m_pB U MA h40, m_pH U MA h40, m_pF U MA h40, m_pY U MA h40, m_faceOf S MF h8, m_looksOf S MF WF, m_alike S MF, m_has, ix0, ix8, ix16, o_l U, rr_mo MA, rr_tk MA, rr_sa MA, nn_le, nn_succ, bI_0, Int32.or_zero, Int32.add_zero, Int32.le_refl, f_X12_count, w_49_0 S, mb_0 S _ _ t0, show ((1 : Int32) = 0) = False from by decide, dHm.1, show ((2 : Int32) = 0) = False from by decide, show ((2 : Int32) = 1) = False from by decide]
      · refine QQ.mk (-1) ?_ ?_
        · simp (disch := omega) only [bd_eq, pu_ap, if_true, if_false, not_true_eq_false, not_false_eq_true, eq_self, v_0 S, r_0_0 S, r_0_1 S, r_0_2 S, r_0_3 S, r_0_4 S, r_0_5 S, r_0_6 S, r_0_7 S, r_0_8 S, r_0_9 S, r_0_10 S, r_0_11 S, r_0_12 S, n_0_13 S, i_0_14 S, i_0_15 S, i_0_16 S, i_0_17 S, v_1 S, r_1_0 S, i_1_1 S, i_1_2 S, i_1_3 S, i_1_4 S, i_1_5 S, i_1_6 S, v_3 S, r_3_0 S, r_3_1 S, r_3_2 S, r_3_3 S, i_3_4 S, i_3_5 S, v_8 S, r_8_0 S, r_8_1 S, r_8_2 S, r_8_3 S, i_8_4 S, i_8_5 S, v_13 S, r_13_0 S, r_13_1 S, i_13_2 S, v_16 S, r_16_0 S, r_16_1 S, i_16_2 S, v_19 S, r_19_0 S, r_19_1 S, r_19_2 S, r_19_3 S, i_19_4 S, i_19_5 S, i_19_6 S, i_19_7 S, v_24 S, r_24_0 S, r_24_1 S, r_24_2 S, r_24_3 S, i_24_4 S, j_24_5 S, v_28 S, r_28_0 S, r_28_1 S, r_28_2 S, v_30 S, r_30_0 S, r_30_1 S, r_30_2 S, r_30_3 S, i_30_4 S, i_30_5 S, v_33 S, r_33_0 S, r_33_1 S, r_33_2 S, r_33_3 S, i_33_4 S, i_33_5 S, v_37 S, r_37_0 S, r_37_1 S, i_37_2 S, i_37_3 S, i_37_4 S, fc_sz HF, fc_ak HF, fc_fa HF, fc_te HF, fc_pr HF, fc_sy HF, l_4 S, l_5 S, l_6 S, l_7 S, e_v T, e_i4 T, e_i5 T, e_r0 T, e_r1 T, e_r2 T, e_r3 T, e_l1 T, e_l2 T, e_l3 T, sr_hg HA, sr_yr HA, sr_mo HA, sr_tk HA, sr_sa HA, c_taker T HA WA h8, c_sitter T HA WA h8, c_hallOf T HA WA h8, c_faceOn T HA WA h8, c_yearOf T HA WA h8, c_nearest S HF WF, c_never S HF h8, c_alike S HF, nn_le, nn_succ, bI_0, Int32.or_zero, Int32.add_zero, Int32.le_refl, f_X11_count, sw3 c0 c1 c2]
        · simp (disch := omega) only [bd_eq, pu_ap, if_true, if_false, not_true_eq_false, not_false_eq_true, eq_self, v_49 S, i_49_0 S, i_49_1 S, i_49_2 S, i_49_3 S, i_49_4 S, i_49_5 S, i_49_6 S, i_49_7 S, i_49_8 S, r_49_9 S, r_49_10 S, r_49_11 S, r_49_12 S, r_49_13 S, r_49_14 S, r_49_15 S, r_49_16 S, i_49_17 S, i_49_18 S, r_49_19 S, r_49_20 S, r_49_21 S, r_49_22 S, r_49_23 S, r_49_24 S, r_49_25 S, i_49_26 S, r_49_27 S, r_49_28 S, r_49_29 S, r_49_30 S, i_49_31 S, i_49_32 S, i_49_33 S, i_49_34 S, i_49_35 S, i_49_36 S, i_49_37 S, r_49_38 S, i_49_39 S, i_49_40 S, r_49_41 S, r_49_42 S, r_49_43 S, i_49_44 S, r_49_45 S, i_49_46 S, i_49_47 S, i_49_48 S, l_53_0 S, l_53_1 S, fm_sz MF, fm_ak MF, fm_fa MF, fm_te MF, fm_pr MF, fm_sy MF, l_55 S, g_65 S, l_66_0 S, l_66_1 S, l_66_2 S, o_l24 U, o_l25 U, o_l26 U, o_l27 U, rr_hg MA, rr_yr MA, rr_tn MA, rr_bu MA, m_pA U MA h40, m_pB U MA h40, m_pH U MA h40, m_pF U MA h40, m_pY U MA h40, m_faceOf S MF h8, m_looksOf S MF WF, m_alike S MF, m_has, ix0, ix8, ix16, o_l U, rr_mo MA, rr_tk MA, rr_sa MA, nn_le, nn_succ, bI_0, Int32.or_zero, Int32.add_zero, Int32.le_refl, f_X12_count, w_49_0 S, mb_0 S _ _ t0, show ((1 : Int32) = 0) = False from by decide, c0, c1, c2]
theorem a_paper (S : Sw w) (hr : Rm w) (HC : RC w I J D) (HM : RM I D) (W : WD D) (x1 : Int32) : CallN w I J (f_X11_paper 0 x1) (f_X12_paper 49 x1) := by
  have HF := HC.1.1
  have h8 := W.1.1
  by_cases h1 : inP (sz (dF D)) x1
  rotate_left
  · refine Or.inr (⟨?_, fun J' => ⟨0, ?_⟩⟩)
    · rw [f_X11_paper, bd_er ((v_0 S).trans (cp_no S hr HF h8 h1))]
    · have S1 := tw_Sw S 13
      have HMx : RM (up2 (up2 I 0 16 (I 0 16 + 1)) 49 0 0) D := (HM.ag W ((Ag.refl [0] I).up (by decide)) (by decide)).t0 W
      have MF := HMx.1.1
      have t0 : up2 (up2 I 0 16 (I 0 16 + 1)) 49 0 0 49 0 = 0 := up2_s
      have e := mb_10 (J := J') S1 1 (by decide) t0
      rw [up2_a (by decide), up2_a (by decide)] at e
      rw [f_X12_paper, bd_st (w_49_0 S1), bd_st ((v_49 S1).trans (mp_no S1 MF h8 h1)), if_pos rfl, f_X12_paper_b19, bd_st ((v_49 S1).trans e), if_neg (by decide)]
      rfl
  obtain ⟨k1, h1, rfl⟩ := h1
  refine Or.inl ?_
  obtain ⟨I1, e1, a1, c1, p1, h⟩ := b_pap S HC HM W
  have l34 := l_34 (I := I1) (J := J) (k := k1) S (by omega)
  rw [p1 k1 h1] at l34
  refine ⟨ohI (LXc (maF (dF D) (dA D)) (sz (dF D)) 0 (Fr0 (dA D)) k1), I1, ?_, a1, fun J' => ?_⟩
  · rw [f_X11_paper, bd_st ((v_0 S).trans (cp_ok S HF h8 h1)), bd_st (r_0_9 S), bd_st (r_0_11 S), bd_st ((v_33 S).trans e1), bd_st (r_0_9 S), bd_st (r_33_1 S), bd_st l34]
    rfl
  · obtain ⟨I2, e2, a2, c2, p2⟩ := h J'
    have HM1 : RM (up2 I1 49 0 0) D := (HM.ag W a1 (fun a ha => (KC_sg a ha).2)).t0 W
    have t0 : up2 I1 49 0 0 49 0 = 0 := up2_s
    have l := l_523 (I := I2) (J := J') (k := k1) S (by omega)
    rw [p2 k1 h1] at l
    refine ⟨I2, ?_, a2⟩
    rw [f_X12_paper, bd_st (w_49_0 S), bd_st ((v_49 S).trans (mp_ok S HM1.1.1 h8 h1)), if_neg (by decide), f_X12_paper_b19, bd_st ((v_49 S).trans (mb_0 S 1 0 t0)), if_pos rfl, bd_st ((v_49 S).trans e2), bd_st (r_49_43 S), bd_st l]
    rfl
end CX3
