/-! PURE PART: queries that use scratch cells, both sides in step -/
theorem RC.kc {w : Wd} {I I1 : Is} {J : Js} {D : Dt} (H : RC w I J D) (h : Ag KC I I1) : RC w I1 J D := H.ag h (fun a ha => (KC_sg a ha).1) rfl
theorem loopS {α β : Type} {w : Wd} {I I' : Is} {J J' : Js} {D : Dt} (HC : RC w I J D) (HM : RM I' D) (W : WD D) (H0 : I' 49 0 = 0) (B : Nat → Nat → α → Is → Rs) (B' : Nat → Nat → β → Is → Rs) (e : Nat) (P : Nat → α → β → Is → Is → Prop)
    (hs : ∀ N i x y I1 I2, i < e → P i x y I1 I2 → Ag KC I I1 → AgM I' I2 → RC w I1 J D → RM I2 D → I2 49 0 = 0 → (∃ x' y' I3 I4, B (N + 1) i x I1 = B N (i + 1) x' I3 ∧ B' (N + 1) i y I2 = B' N (i + 1) y' I4 ∧ Ag KC I1 I3 ∧ AgM I2 I4 ∧ P (i + 1) x' y' I3 I4) ∨ QQ w I1 J I2 J' (B (N + 1) i x I1) (B' (N + 1) i y I2))
    (he : ∀ N x y I1 I2, P e x y I1 I2 → Ag KC I I1 → AgM I' I2 → RC w I1 J D → RM I2 D → I2 49 0 = 0 → QQ w I1 J I2 J' (B (N + 1) e x I1) (B' (N + 1) e y I2)) (x0 : α) (y0 : β) (h0 : P 0 x0 y0 I I') (he' : e < 10000) : QQ w I J I' J' (B NF 0 x0 I) (B' NF 0 y0 I') := by
  have lift : ∀ I1 I2 r r', Ag KC I I1 → AgM I' I2 → QQ w I1 J I2 J' r r' → QQ w I J I' J' r r' := by
    intro I1 I2 r r' a1 a2 ⟨v, ⟨I3, e1, a3⟩, I4, e2, a4⟩
    exact ⟨v, ⟨I3, e1, a1.trans a3⟩, I4, e2, a2.trans a4⟩
  refine loop2 (fun N i (z : α × Is) => B N i z.1 z.2) (fun N i (z : β × Is) => B' N i z.1 z.2) e (fun i x y => Ag KC I x.2 ∧ AgM I' y.2 ∧ P i x.1 y.1 x.2 y.2) (QQ w I J I' J') ?_ ?_ e 0 (x0, I) (y0, I') NF (by omega) (NF_gt he') ⟨Ag.refl _ _, AgM.refl _, h0⟩
  · intro N i x y hi ⟨a1, a2, hP⟩
    have h00 : y.2 49 0 = 0 := (a2.2 0 (by decide)).trans H0
    rcases hs N i x.1 y.1 x.2 y.2 hi hP a1 a2 (HC.kc a1) (HM.agm W a2) h00 with ⟨x', y', I3, I4, e1, e2, a3, a4, h⟩ | h
    · exact Or.inl ⟨(x', I3), (y', I4), e1, e2, a1.trans a3, a2.trans a4, h⟩
    · exact Or.inr (lift _ _ _ _ a1 a2 h)
  · intro N x y ⟨a1, a2, hP⟩
    have h00 : y.2 49 0 = 0 := (a2.2 0 (by decide)).trans H0
    exact lift _ _ _ _ a1 a2 (he N x.1 y.1 x.2 y.2 hP a1 a2 (HC.kc a1) (HM.agm W a2) h00)
theorem ag_kc {I I1 : Is} (h : Ag [15, 29] I I1) : Ag KC I I1 := h.mono (by decide)
theorem ag_km {I I1 : Is} (h : Ag [414, 415] I I1) : AgM I I1 := AgM.of h (by decide) (by decide)
section Q2
variable {w : Wd} {D : Dt}
theorem b_shown (S : Sw w) (W : WD D) {a b : Nat} (ha : a < sz (dF D)) (hb : b < sz (dF D)) (h : Int32) : Bod w D (f_X6_faceBy 28 43 (nn a) (nn b) h (nn (mo (dA D) a))) (f_X12_shownBy 49 497 (nn a) (nn b) h) := by
  intro I I' J J' HC HM H0
  have HCs := HC
  have HMs := HM
  obtain ⟨⟨HF, HA, HL, HW, HT, -⟩, -, -⟩ := HC
  obtain ⟨⟨MF, MA, ML, MW, MT, -⟩, -, -⟩ := HM
  have Ws := W
  obtain ⟨WF, ⟨WA, -, WB, -⟩, -, WL, WW, -⟩ := W
  have h8 := WF.1
  have h40 := WA.1
  have T := StS_43 S
  have U := RoS_497 S
  obtain ⟨I1, e1, a1⟩ := c_faceBy (J := J) S HF h8 T (by decide) HA HL WL ha hb h (nn (mo (dA D) a))
  obtain ⟨I2, e2, a2⟩ := m_shownBy (J := J') S MF h8 U (by decide) MA ML WL ha hb h
  exact ⟨_, ⟨I1, e1, ag_kc a1⟩, I2, e2, ag_km a2⟩
theorem b_can (S : Sw w) (W : WD D) {b : Nat} (hb : b < sz (dF D)) : Bod w D (f_X6_takersOf 28 43 (nn b)) (f_X12_canOf 49 (nn b)) := by
  intro I I' J J' HC HM H0
  have HCs := HC
  have HMs := HM
  obtain ⟨⟨HF, HA, HL, HW, HT, -⟩, -, -⟩ := HC
  obtain ⟨⟨MF, MA, ML, MW, MT, -⟩, -, -⟩ := HM
  have Ws := W
  obtain ⟨WF, ⟨WA, -, WB, -⟩, -, WL, WW, -⟩ := W
  have h8 := WF.1
  have h40 := WA.1
  have T := StS_43 S
  have U := RoS_497 S
  obtain ⟨I1, e1, a1⟩ := c_takersOf (J := J) S HF h8 T (by decide) HA HL WL hb
  obtain ⟨I2, e2, a2⟩ := m_canOf (J := J') S MF WF MA ML WL hb
  exact ⟨_, ⟨I1, e1, ag_kc a1⟩, I2, e2, ag_km a2⟩
theorem b_who (S : Sw w) (W : WD D) {b : Nat} (s : Int32) (hb : b < sz (dF D)) : Bod w D (f_X11_who_b17 NF 0 s (nn b) 0 0) (f_X12_who_b55 NF 49 s (nn b) 0 0) := by
  intro I I' J J' HC HM H0
  have HCs := HC
  have HMs := HM
  obtain ⟨⟨HF, HA, HL, HW, HT, -⟩, -, -⟩ := HC
  obtain ⟨⟨MF, MA, ML, MW, MT, -⟩, -, -⟩ := HM
  have Ws := W
  obtain ⟨WF, ⟨WA, -, WB, -⟩, -, WL, WW, -⟩ := W
  have h8 := WF.1
  have h40 := WA.1
  have T := StS_43 S
  have U := RoS_497 S
  refine loopS HCs HMs Ws H0 (fun N i x I => f_X11_who_b17 N 0 s (nn b) x (nn i) (st w I J)) (fun N i x I => f_X12_who_b55 N 49 s (nn b) x (nn i) (st w I J')) (sz (dF D)) (fun _ x y _ _ => x = y) ?_ ?_ 0 0 rfl (by omega)
  · intro N i x y I1 I2 hi hxy a1 a2 HC HM _
    subst hxy
    obtain ⟨⟨HF, HA, HL, HW, HT, -⟩, -, -⟩ := HC
    obtain ⟨⟨MF, MA, ML, MW, MT, -⟩, -, -⟩ := HM
    have hn : ¬ sz (dF D) ≤ i := by omega
    left
    by_cases hv : nev (dF D) i (nn b)
    · refine ⟨x, _, I1, I2, ?_, ?_, Ag.refl _ _, AgM.refl _, rfl⟩
      · simp (disch := omega) only [bd_eq, pu_ap, if_true, if_false, not_true_eq_false, not_false_eq_true, eq_self, v_0 S, r_0_0 S, r_0_1 S, r_0_2 S, r_0_3 S, r_0_4 S, r_0_5 S, r_0_6 S, r_0_7 S, r_0_8 S, r_0_9 S, r_0_10 S, r_0_11 S, r_0_12 S, n_0_13 S, i_0_14 S, i_0_15 S, i_0_16 S, i_0_17 S, v_1 S, r_1_0 S, i_1_1 S, i_1_2 S, i_1_3 S, i_1_4 S, i_1_5 S, i_1_6 S, v_3 S, r_3_0 S, r_3_1 S, r_3_2 S, r_3_3 S, i_3_4 S, i_3_5 S, v_8 S, r_8_0 S, r_8_1 S, r_8_2 S, r_8_3 S, i_8_4 S, i_8_5 S, v_13 S, r_13_0 S, r_13_1 S, i_13_2 S, v_16 S, r_16_0 S, r_16_1 S, i_16_2 S, v_19 S, r_19_0 S, r_19_1 S, r_19_2 S, r_19_3 S, i_19_4 S, i_19_5 S, i_19_6 S, i_19_7 S, v_24 S, r_24_0 S, r_24_1 S, r_24_2 S, r_24_3 S, i_24_4 S, j_24_5 S, v_28 S, r_28_0 S, r_28_1 S, r_28_2 S, v_30 S, r_30_0 S, r_30_1 S, r_30_2 S, r_30_3 S, i_30_4 S, i_30_5 S, v_33 S, r_33_0 S, r_33_1 S, r_33_2 S, r_33_3 S, i_33_4 S, i_33_5 S, v_37 S, r_37_0 S, r_37_1 S, i_37_2 S, i_37_3 S, i_37_4 S, fc_sz HF, fc_ak HF, fc_fa HF, fc_te HF, fc_pr HF, fc_sy HF, l_4 S, l_5 S, l_6 S, l_7 S, e_v T, e_i4 T, e_i5 T, e_r0 T, e_r1 T, e_r2 T, e_r3 T, e_l1 T, e_l2 T, e_l3 T, sr_hg HA, sr_yr HA, sr_mo HA, sr_tk HA, sr_sa HA, c_taker T HA WA h8, c_sitter T HA WA h8, c_hallOf T HA WA h8, c_faceOn T HA WA h8, c_yearOf T HA WA h8, c_nearest S HF WF, c_never S HF h8, c_alike S HF, nn_le, nn_succ, bI_0, Int32.or_zero, Int32.add_zero, Int32.le_refl, f_X11_who_b17, f_X11_who_b78, hn, eq_true hv]
      · simp (disch := omega) only [bd_eq, pu_ap, if_true, if_false, not_true_eq_false, not_false_eq_true, eq_self, v_49 S, i_49_0 S, i_49_1 S, i_49_2 S, i_49_3 S, i_49_4 S, i_49_5 S, i_49_6 S, i_49_7 S, i_49_8 S, r_49_9 S, r_49_10 S, r_49_11 S, r_49_12 S, r_49_13 S, r_49_14 S, r_49_15 S, r_49_16 S, i_49_17 S, i_49_18 S, r_49_19 S, r_49_20 S, r_49_21 S, r_49_22 S, r_49_23 S, r_49_24 S, r_49_25 S, i_49_26 S, r_49_27 S, r_49_28 S, r_49_29 S, r_49_30 S, i_49_31 S, i_49_32 S, i_49_33 S, i_49_34 S, i_49_35 S, i_49_36 S, i_49_37 S, r_49_38 S, i_49_39 S, i_49_40 S, r_49_41 S, r_49_42 S, r_49_43 S, i_49_44 S, r_49_45 S, i_49_46 S, i_49_47 S, i_49_48 S, l_53_0 S, l_53_1 S, fm_sz MF, fm_ak MF, fm_fa MF, fm_te MF, fm_pr MF, fm_sy MF, l_55 S, g_65 S, l_66_0 S, l_66_1 S, l_66_2 S, o_l24 U, o_l25 U, o_l26 U, o_l27 U, rr_hg MA, rr_yr MA, rr_tn MA, rr_bu MA, m_pA U MA h40, m_pB U MA h40, m_pH U MA h40, m_pF U MA h40, m_pY U MA h40, m_faceOf S MF h8, m_looksOf S MF WF, m_alike S MF, m_has, ix0, ix8, ix16, o_l U, rr_mo MA, rr_tk MA, rr_sa MA, nn_le, nn_succ, bI_0, Int32.or_zero, Int32.add_zero, Int32.le_refl, f_X12_who_b55, f_X12_who_b104, f_X12_who_b105, hn, eq_true hv]
    · obtain ⟨I3, e3, a3⟩ := c_faceBy (J := J) S HF h8 T (by decide) HA HL WL hi hb 0 (nn (mo (dA D) i))
      obtain ⟨I4, e4, a4⟩ := m_shownBy (J := J') S MF h8 U (by decide) MA ML WL hi hb 0
      by_cases hc : faceB (dF D) (dL D) (dA D) i b 0 (nn (mo (dA D) i)) = s
      · refine ⟨x ||| ((1 : Int32) <<< (nn i &&& 31)), _, I3, I4, ?_, ?_, ag_kc a3, ag_km a4, rfl⟩
        · simp (disch := omega) only [bd_eq, pu_ap, if_true, if_false, not_true_eq_false, not_false_eq_true, eq_self, v_0 S, r_0_0 S, r_0_1 S, r_0_2 S, r_0_3 S, r_0_4 S, r_0_5 S, r_0_6 S, r_0_7 S, r_0_8 S, r_0_9 S, r_0_10 S, r_0_11 S, r_0_12 S, n_0_13 S, i_0_14 S, i_0_15 S, i_0_16 S, i_0_17 S, v_1 S, r_1_0 S, i_1_1 S, i_1_2 S, i_1_3 S, i_1_4 S, i_1_5 S, i_1_6 S, v_3 S, r_3_0 S, r_3_1 S, r_3_2 S, r_3_3 S, i_3_4 S, i_3_5 S, v_8 S, r_8_0 S, r_8_1 S, r_8_2 S, r_8_3 S, i_8_4 S, i_8_5 S, v_13 S, r_13_0 S, r_13_1 S, i_13_2 S, v_16 S, r_16_0 S, r_16_1 S, i_16_2 S, v_19 S, r_19_0 S, r_19_1 S, r_19_2 S, r_19_3 S, i_19_4 S, i_19_5 S, i_19_6 S, i_19_7 S, v_24 S, r_24_0 S, r_24_1 S, r_24_2 S, r_24_3 S, i_24_4 S, j_24_5 S, v_28 S, r_28_0 S, r_28_1 S, r_28_2 S, v_30 S, r_30_0 S, r_30_1 S, r_30_2 S, r_30_3 S, i_30_4 S, i_30_5 S, v_33 S, r_33_0 S, r_33_1 S, r_33_2 S, r_33_3 S, i_33_4 S, i_33_5 S, v_37 S, r_37_0 S, r_37_1 S, i_37_2 S, i_37_3 S, i_37_4 S, fc_sz HF, fc_ak HF, fc_fa HF, fc_te HF, fc_pr HF, fc_sy HF, l_4 S, l_5 S, l_6 S, l_7 S, e_v T, e_i4 T, e_i5 T, e_r0 T, e_r1 T, e_r2 T, e_r3 T, e_l1 T, e_l2 T, e_l3 T, sr_hg HA, sr_yr HA, sr_mo HA, sr_tk HA, sr_sa HA, c_taker T HA WA h8, c_sitter T HA WA h8, c_hallOf T HA WA h8, c_faceOn T HA WA h8, c_yearOf T HA WA h8, c_nearest S HF WF, c_never S HF h8, c_alike S HF, nn_le, nn_succ, bI_0, Int32.or_zero, Int32.add_zero, Int32.le_refl, f_X11_who_b17, f_X11_who_b78, hn, eq_false hv, e3, hc]
        · simp (disch := omega) only [bd_eq, pu_ap, if_true, if_false, not_true_eq_false, not_false_eq_true, eq_self, v_49 S, i_49_0 S, i_49_1 S, i_49_2 S, i_49_3 S, i_49_4 S, i_49_5 S, i_49_6 S, i_49_7 S, i_49_8 S, r_49_9 S, r_49_10 S, r_49_11 S, r_49_12 S, r_49_13 S, r_49_14 S, r_49_15 S, r_49_16 S, i_49_17 S, i_49_18 S, r_49_19 S, r_49_20 S, r_49_21 S, r_49_22 S, r_49_23 S, r_49_24 S, r_49_25 S, i_49_26 S, r_49_27 S, r_49_28 S, r_49_29 S, r_49_30 S, i_49_31 S, i_49_32 S, i_49_33 S, i_49_34 S, i_49_35 S, i_49_36 S, i_49_37 S, r_49_38 S, i_49_39 S, i_49_40 S, r_49_41 S, r_49_42 S, r_49_43 S, i_49_44 S, r_49_45 S, i_49_46 S, i_49_47 S, i_49_48 S, l_53_0 S, l_53_1 S, fm_sz MF, fm_ak MF, fm_fa MF, fm_te MF, fm_pr MF, fm_sy MF, l_55 S, g_65 S, l_66_0 S, l_66_1 S, l_66_2 S, o_l24 U, o_l25 U, o_l26 U, o_l27 U, rr_hg MA, rr_yr MA, rr_tn MA, rr_bu MA, m_pA U MA h40, m_pB U MA h40, m_pH U MA h40, m_pF U MA h40, m_pY U MA h40, m_faceOf S MF h8, m_looksOf S MF WF, m_alike S MF, m_has, ix0, ix8, ix16, o_l U, rr_mo MA, rr_tk MA, rr_sa MA, nn_le, nn_succ, bI_0, Int32.or_zero, Int32.add_zero, Int32.le_refl, f_X12_who_b55, f_X12_who_b104, f_X12_who_b105, hn, eq_false hv, e4, hc]
      · refine ⟨x, _, I3, I4, ?_, ?_, ag_kc a3, ag_km a4, rfl⟩
        · simp (disch := omega) only [bd_eq, pu_ap, if_true, if_false, not_true_eq_false, not_false_eq_true, eq_self, v_0 S, r_0_0 S, r_0_1 S, r_0_2 S, r_0_3 S, r_0_4 S, r_0_5 S, r_0_6 S, r_0_7 S, r_0_8 S, r_0_9 S, r_0_10 S, r_0_11 S, r_0_12 S, n_0_13 S, i_0_14 S, i_0_15 S, i_0_16 S, i_0_17 S, v_1 S, r_1_0 S, i_1_1 S, i_1_2 S, i_1_3 S, i_1_4 S, i_1_5 S, i_1_6 S, v_3 S, r_3_0 S, r_3_1 S, r_3_2 S, r_3_3 S, i_3_4 S, i_3_5 S, v_8 S, r_8_0 S, r_8_1 S, r_8_2 S, r_8_3 S, i_8_4 S, i_8_5 S, v_13 S, r_13_0 S, r_13_1 S, i_13_2 S, v_16 S, r_16_0 S, r_16_1 S, i_16_2 S, v_19 S, r_19_0 S, r_19_1 S, r_19_2 S, r_19_3 S, i_19_4 S, i_19_5 S, i_19_6 S, i_19_7 S, v_24 S, r_24_0 S, r_24_1 S, r_24_2 S, r_24_3 S, i_24_4 S, j_24_5 S, v_28 S, r_28_0 S, r_28_1 S, r_28_2 S, v_30 S, r_30_0 S, r_30_1 S, r_30_2 S, r_30_3 S, i_30_4 S, i_30_5 S, v_33 S, r_33_0 S, r_33_1 S, r_33_2 S, r_33_3 S, i_33_4 S, i_33_5 S, v_37 S, r_37_0 S, r_37_1 S, i_37_2 S, i_37_3 S, i_37_4 S, fc_sz HF, fc_ak HF, fc_fa HF, fc_te HF, fc_pr HF, fc_sy HF, l_4 S, l_5 S, l_6 S, l_7 S, e_v T, e_i4 T, e_i5 T, e_r0 T, e_r1 T, e_r2 T, e_r3 T, e_l1 T, e_l2 T, e_l3 T, sr_hg HA, sr_yr HA, sr_mo HA, sr_tk HA, sr_sa HA, c_taker T HA WA h8, c_sitter T HA WA h8, c_hallOf T HA WA h8, c_faceOn T HA WA h8, c_yearOf T HA WA h8, c_nearest S HF WF, c_never S HF h8, c_alike S HF, nn_le, nn_succ, bI_0, Int32.or_zero, Int32.add_zero, Int32.le_refl, f_X11_who_b17, f_X11_who_b78, hn, eq_false hv, e3, hc]
        · simp (disch := omega) only [bd_eq, pu_ap, if_true, if_false, not_true_eq_false, not_false_eq_true, eq_self, v_49 S, i_49_0 S, i_49_1 S, i_49_2 S, i_49_3 S, i_49_4 S, i_49_5 S, i_49_6 S, i_49_7 S, i_49_8 S, r_49_9 S, r_49_10 S, r_49_11 S, r_49_12 S, r_49_13 S, r_49_14 S, r_49_15 S, r_49_16 S, i_49_17 S, i_49_18 S, r_49_19 S, r_49_20 S, r_49_21 S, r_49_22 S, r_49_23 S, r_49_24 S, r_49_25 S, i_49_26 S, r_49_27 S, r_49_28 S, r_49_29 S, r_49_30 S, i_49_31 S, i_49_32 S, i_49_33 S, i_49_34 S, i_49_35 S, i_49_36 S, i_49_37 S, r_49_38 S, i_49_39 S, i_49_40 S, r_49_41 S, r_49_42 S, r_49_43 S, i_49_44 S, r_49_45 S, i_49_46 S, i_49_47 S, i_49_48 S, l_53_0 S, l_53_1 S, fm_sz MF, fm_ak MF, fm_fa MF, fm_te MF, fm_pr MF, fm_sy MF, l_55 S, g_65 S, l_66_0 S, l_66_1 S, l_66_2 S, o_l24 U, o_l25 U, o_l26 U, o_l27 U, rr_hg MA, rr_yr MA, rr_tn MA, rr_bu MA, m_pA U MA h40, m_pB U MA h40, m_pH U MA h40, m_pF U MA h40, m_pY U MA h40, m_faceOf S MF h8, m_looksOf S MF WF, m_alike S MF, m_has, ix0, ix8, ix16, o_l U, rr_mo MA, rr_tk MA, rr_sa MA, nn_le, nn_succ, bI_0, Int32.or_zero, Int32.add_zero, Int32.le_refl, f_X12_who_b55, f_X12_who_b104, f_X12_who_b105, hn, eq_false hv, e4, hc]
  · intro N x y I1 I2 hxy a1 a2 HC HM _
    subst hxy
    obtain ⟨⟨HF, HA, HL, HW, HT, -⟩, -, -⟩ := HC
    obtain ⟨⟨MF, MA, ML, MW, MT, -⟩, -, -⟩ := HM
    refine QQ.mk x ?_ ?_
    · simp (disch := omega) only [bd_eq, pu_ap, if_true, if_false, not_true_eq_false, not_false_eq_true, eq_self, v_0 S, r_0_0 S, r_0_1 S, r_0_2 S, r_0_3 S, r_0_4 S, r_0_5 S, r_0_6 S, r_0_7 S, r_0_8 S, r_0_9 S, r_0_10 S, r_0_11 S, r_0_12 S, n_0_13 S, i_0_14 S, i_0_15 S, i_0_16 S, i_0_17 S, v_1 S, r_1_0 S, i_1_1 S, i_1_2 S, i_1_3 S, i_1_4 S, i_1_5 S, i_1_6 S, v_3 S, r_3_0 S, r_3_1 S, r_3_2 S, r_3_3 S, i_3_4 S, i_3_5 S, v_8 S, r_8_0 S, r_8_1 S, r_8_2 S, r_8_3 S, i_8_4 S, i_8_5 S, v_13 S, r_13_0 S, r_13_1 S, i_13_2 S, v_16 S, r_16_0 S, r_16_1 S, i_16_2 S, v_19 S, r_19_0 S, r_19_1 S, r_19_2 S, r_19_3 S, i_19_4 S, i_19_5 S, i_19_6 S, i_19_7 S, v_24 S, r_24_0 S, r_24_1 S, r_24_2 S, r_24_3 S, i_24_4 S, j_24_5 S, v_28 S, r_28_0 S, r_28_1 S, r_28_2 S, v_30 S, r_30_0 S, r_30_1 S, r_30_2 S, r_30_3 S, i_30_4 S, i_30_5 S, v_33 S, r_33_0 S, r_33_1 S, r_33_2 S, r_33_3 S, i_33_4 S, i_33_5 S, v_37 S, r_37_0 S, r_37_1 S, i_37_2 S, i_37_3 S, i_37_4 S, fc_sz HF, fc_ak HF, fc_fa HF, fc_te HF, fc_pr HF, fc_sy HF, l_4 S, l_5 S, l_6 S, l_7 S, e_v T, e_i4 T, e_i5 T, e_r0 T, e_r1 T, e_r2 T, e_r3 T, e_l1 T, e_l2 T, e_l3 T, sr_hg HA, sr_yr HA, sr_mo HA, sr_tk HA, sr_sa HA, c_taker T HA WA h8, c_sitter T HA WA h8, c_hallOf T HA WA h8, c_faceOn T HA WA h8, c_yearOf T HA WA h8, c_nearest S HF WF, c_never S HF h8, c_alike S HF, nn_le, nn_succ, bI_0, Int32.or_zero, Int32.add_zero, Int32.le_refl, f_X11_who_b17]
    · simp (disch := omega) only [bd_eq, pu_ap, if_true, if_false, not_true_eq_false, not_false_eq_true, eq_self, v_49 S, i_49_0 S, i_49_1 S, i_49_2 S, i_49_3 S, i_49_4 S, i_49_5 S, i_49_6 S, i_49_7 S, i_49_8 S, r_49_9 S, r_49_10 S, r_49_11 S, r_49_12 S, r_49_13 S, r_49_14 S, r_49_15 S, r_49_16 S, i_49_17 S, i_49_18 S, r_49_19 S, r_49_20 S, r_49_21 S, r_49_22 S, r_49_23 S, r_49_24 S, r_49_25 S, i_49_26 S, r_49_27 S, r_49_28 S, r_49_29 S, r_49_30 S, i_49_31 S, i_49_32 S, i_49_33 S, i_49_34 S, i_49_35 S, i_49_36 S, i_49_37 S, r_49_38 S, i_49_39 S, i_49_40 S, r_49_41 S, r_49_42 S, r_49_43 S, i_49_44 S, r_49_45 S, i_49_46 S, i_49_47 S, i_49_48 S, l_53_0 S, l_53_1 S, fm_sz MF, fm_ak MF, fm_fa MF, fm_te MF, fm_pr MF, fm_sy MF, l_55 S, g_65 S, l_66_0 S, l_66_1 S, l_66_2 S, o_l24 U, o_l25 U, o_l26 U, o_l27 U, rr_hg MA, rr_yr MA, rr_tn MA, rr_bu MA, m_pA U MA h40, m_pB U MA h40, m_pH U MA h40, m_pF U MA h40, m_pY U MA h40, m_faceOf S MF h8, m_looksOf S MF WF, m_alike S MF, m_has, ix0, ix8, ix16, o_l U, rr_mo MA, rr_tk MA, rr_sa MA, nn_le, nn_succ, bI_0, Int32.or_zero, Int32.add_zero, Int32.le_refl, f_X12_who_b55]
theorem b_nobody (S : Sw w) (W : WD D) (s : Int32) : Bod w D (f_X11_nobody_b7 NF 0 s 0) (f_X12_nobody_b31 NF 49 s 0) := by
  intro I I' J J' HC HM H0
  have HCs := HC
  have HMs := HM
  obtain ⟨⟨HF, HA, HL, HW, HT, -⟩, -, -⟩ := HC
  obtain ⟨⟨MF, MA, ML, MW, MT, -⟩, -, -⟩ := HM
  have Ws := W
  obtain ⟨WF, ⟨WA, -, WB, -⟩, -, WL, WW, -⟩ := W
  have h8 := WF.1
  have h40 := WA.1
  have T := StS_43 S
  have U := RoS_497 S
  refine loopS HCs HMs Ws H0 (fun N i (_ : Unit) I => f_X11_nobody_b7 N 0 s (nn i) (st w I J)) (fun N i (_ : Unit) I => f_X12_nobody_b31 N 49 s (nn i) (st w I J')) (sz (dF D)) (fun _ _ _ _ _ => True) ?_ ?_ () () trivial (by omega)
  · intro N i x y I1 I2 hi _ a1 a2 HC HM _
    obtain ⟨⟨HF, HA, HL, HW, HT, -⟩, -, -⟩ := HC
    obtain ⟨⟨MF, MA, ML, MW, MT, -⟩, -, -⟩ := HM
    have hn : ¬ sz (dF D) ≤ i := by omega
    by_cases hv : ((s >>> (nn i &&& 31)) &&& 1) = 1
    · obtain ⟨I3, e3, a3⟩ := c_takersOf (J := J) S HF h8 T (by decide) HA HL WL hi
      obtain ⟨I4, e4, a4⟩ := m_canOf (J := J') S MF WF MA ML WL hi
      by_cases hc : canB (dF D) (dL D) (dA D) i = 0
      · right
        refine ⟨nn i, ⟨I3, ?_, ag_kc a3⟩, I4, ?_, ag_km a4⟩
        · simp (disch := omega) only [bd_eq, pu_ap, if_true, if_false, not_true_eq_false, not_false_eq_true, eq_self, v_0 S, r_0_0 S, r_0_1 S, r_0_2 S, r_0_3 S, r_0_4 S, r_0_5 S, r_0_6 S, r_0_7 S, r_0_8 S, r_0_9 S, r_0_10 S, r_0_11 S, r_0_12 S, n_0_13 S, i_0_14 S, i_0_15 S, i_0_16 S, i_0_17 S, v_1 S, r_1_0 S, i_1_1 S, i_1_2 S, i_1_3 S, i_1_4 S, i_1_5 S, i_1_6 S, v_3 S, r_3_0 S, r_3_1 S, r_3_2 S, r_3_3 S, i_3_4 S, i_3_5 S, v_8 S, r_8_0 S, r_8_1 S, r_8_2 S, r_8_3 S, i_8_4 S, i_8_5 S, v_13 S, r_13_0 S, r_13_1 S, i_13_2 S, v_16 S, r_16_0 S, r_16_1 S, i_16_2 S, v_19 S, r_19_0 S, r_19_1 S, r_19_2 S, r_19_3 S, i_19_4 S, i_19_5 S, i_19_6 S, i_19_7 S, v_24 S, r_24_0 S, r_24_1 S, r_24_2 S, r_24_3 S, i_24_4 S, j_24_5 S, v_28 S, r_28_0 S, r_28_1 S, r_28_2 S, v_30 S, r_30_0 S, r_30_1 S, r_30_2 S, r_30_3 S, i_30_4 S, i_30_5 S, v_33 S, r_33_0 S, r_33_1 S, r_33_2 S, r_33_3 S, i_33_4 S, i_33_5 S, v_37 S, r_37_0 S, r_37_1 S, i_37_2 S, i_37_3 S, i_37_4 S, fc_sz HF, fc_ak HF, fc_fa HF, fc_te HF, fc_pr HF, fc_sy HF, l_4 S, l_5 S, l_6 S, l_7 S, e_v T, e_i4 T, e_i5 T, e_r0 T, e_r1 T, e_r2 T, e_r3 T, e_l1 T, e_l2 T, e_l3 T, sr_hg HA, sr_yr HA, sr_mo HA, sr_tk HA, sr_sa HA, c_taker T HA WA h8, c_sitter T HA WA h8, c_hallOf T HA WA h8, c_faceOn T HA WA h8, c_yearOf T HA WA h8, c_nearest S HF WF, c_never S HF h8, c_alike S HF, nn_le, nn_succ, bI_0, Int32.or_zero, Int32.add_zero, Int32.le_refl, f_X11_nobody_b7, f_X11_nobody_b44, hn, hv, e3, hc]
        · simp (disch := omega) only [bd_eq, pu_ap, if_true, if_false, not_true_eq_false, not_false_eq_true, eq_self, v_49 S, i_49_0 S, i_49_1 S, i_49_2 S, i_49_3 S, i_49_4 S, i_49_5 S, i_49_6 S, i_49_7 S, i_49_8 S, r_49_9 S, r_49_10 S, r_49_11 S, r_49_12 S, r_49_13 S, r_49_14 S, r_49_15 S, r_49_16 S, i_49_17 S, i_49_18 S, r_49_19 S, r_49_20 S, r_49_21 S, r_49_22 S, r_49_23 S, r_49_24 S, r_49_25 S, i_49_26 S, r_49_27 S, r_49_28 S, r_49_29 S, r_49_30 S, i_49_31 S, i_49_32 S, i_49_33 S, i_49_34 S, i_49_35 S, i_49_36 S, i_49_37 S, r_49_38 S, i_49_39 S, i_49_40 S, r_49_41 S, r_49_42 S, r_49_43 S, i_49_44 S, r_49_45 S, i_49_46 S, i_49_47 S, i_49_48 S, l_53_0 S, l_53_1 S, fm_sz MF, fm_ak MF, fm_fa MF, fm_te MF, fm_pr MF, fm_sy MF, l_55 S, g_65 S, l_66_0 S, l_66_1 S, l_66_2 S, o_l24 U, o_l25 U, o_l26 U, o_l27 U, rr_hg MA, rr_yr MA, rr_tn MA, rr_bu MA, m_pA U MA h40, m_pB U MA h40, m_pH U MA h40, m_pF U MA h40, m_pY U MA h40, m_faceOf S MF h8, m_looksOf S MF WF, m_alike S MF, m_has, ix0, ix8, ix16, o_l U, rr_mo MA, rr_tk MA, rr_sa MA, nn_le, nn_succ, bI_0, Int32.or_zero, Int32.add_zero, Int32.le_refl, f_X12_nobody_b31, f_X12_nobody_b59, hn, hv, e4, hc]
      · left
        refine ⟨(), (), I3, I4, ?_, ?_, ag_kc a3, ag_km a4, trivial⟩
        · simp (disch := omega) only [bd_eq, pu_ap, if_true, if_false, not_true_eq_false, not_false_eq_true, eq_self, v_0 S, r_0_0 S, r_0_1 S, r_0_2 S, r_0_3 S, r_0_4 S, r_0_5 S, r_0_6 S, r_0_7 S, r_0_8 S, r_0_9 S, r_0_10 S, r_0_11 S, r_0_12 S, n_0_13 S, i_0_14 S, i_0_15 S, i_0_16 S, i_0_17 S, v_1 S, r_1_0 S, i_1_1 S, i_1_2 S, i_1_3 S, i_1_4 S, i_1_5 S, i_1_6 S, v_3 S, r_3_0 S, r_3_1 S, r_3_2 S, r_3_3 S, i_3_4 S, i_3_5 S, v_8 S, r_8_0 S, r_8_1 S, r_8_2 S, r_8_3 S, i_8_4 S, i_8_5 S, v_13 S, r_13_0 S, r_13_1 S, i_13_2 S, v_16 S, r_16_0 S, r_16_1 S, i_16_2 S, v_19 S, r_19_0 S, r_19_1 S, r_19_2 S, r_19_3 S, i_19_4 S, i_19_5 S, i_19_6 S, i_19_7 S, v_24 S, r_24_0 S, r_24_1 S, r_24_2 S, r_24_3 S, i_24_4 S, j_24_5 S, v_28 S, r_28_0 S, r_28_1 S, r_28_2 S, v_30 S, r_30_0 S, r_30_1 S, r_30_2 S, r_30_3 S, i_30_4 S, i_30_5 S, v_33 S, r_33_0 S, r_33_1 S, r_33_2 S, r_33_3 S, i_33_4 S, i_33_5 S, v_37 S, r_37_0 S, r_37_1 S, i_37_2 S, i_37_3 S, i_37_4 S, fc_sz HF, fc_ak HF, fc_fa HF, fc_te HF, fc_pr HF, fc_sy HF, l_4 S, l_5 S, l_6 S, l_7 S, e_v T, e_i4 T, e_i5 T, e_r0 T, e_r1 T, e_r2 T, e_r3 T, e_l1 T, e_l2 T, e_l3 T, sr_hg HA, sr_yr HA, sr_mo HA, sr_tk HA, sr_sa HA, c_taker T HA WA h8, c_sitter T HA WA h8, c_hallOf T HA WA h8, c_faceOn T HA WA h8, c_yearOf T HA WA h8, c_nearest S HF WF, c_never S HF h8, c_alike S HF, nn_le, nn_succ, bI_0, Int32.or_zero, Int32.add_zero, Int32.le_refl, f_X11_nobody_b7, f_X11_nobody_b44, hn, hv, e3, hc]
        · simp (disch := omega) only [bd_eq, pu_ap, if_true, if_false, not_true_eq_false, not_false_eq_true, eq_self, v_49 S, i_49_0 S, i_49_1 S, i_49_2 S, i_49_3 S, i_49_4 S, i_49_5 S, i_49_6 S, i_49_7 S, i_49_8 S, r_49_9 S, r_49_10 S, r_49_11 S, r_49_12 S, r_49_13 S, r_49_14 S, r_49_15 S, r_49_16 S, i_49_17 S, i_49_18 S, r_49_19 S, r_49_20 S, r_49_21 S, r_49_22 S, r_49_23 S, r_49_24 S, r_49_25 S, i_49_26 S, r_49_27 S, r_49_28 S, r_49_29 S, r_49_30 S, i_49_31 S, i_49_32 S, i_49_33 S, i_49_34 S, i_49_35 S, i_49_36 S, i_49_37 S, r_49_38 S, i_49_39 S, i_49_40 S, r_49_41 S, r_49_42 S, r_49_43 S, i_49_44 S, r_49_45 S, i_49_46 S, i_49_47 S, i_49_48 S, l_53_0 S, l_53_1 S, fm_sz MF, fm_ak MF, fm_fa MF, fm_te MF, fm_pr MF, fm_sy MF, l_55 S, g_65 S, l_66_0 S, l_66_1 S, l_66_2 S, o_l24 U, o_l25 U, o_l26 U, o_l27 U, rr_hg MA, rr_yr MA, rr_tn MA, rr_bu MA, m_pA U MA h40, m_pB U MA h40, m_pH U MA h40, m_pF U MA h40, m_pY U MA h40, m_faceOf S MF h8, m_looksOf S MF WF, m_alike S MF, m_has, ix0, ix8, ix16, o_l U, rr_mo MA, rr_tk MA, rr_sa MA, nn_le, nn_succ, bI_0, Int32.or_zero, Int32.add_zero, Int32.le_refl, f_X12_nobody_b31, f_X12_nobody_b59, hn, hv, e4, hc]
    · left
      refine ⟨(), (), I1, I2, ?_, ?_, Ag.refl _ _, AgM.refl _, trivial⟩
      · simp (disch := omega) only [bd_eq, pu_ap, if_true, if_false, not_true_eq_false, not_false_eq_true, eq_self, v_0 S, r_0_0 S, r_0_1 S, r_0_2 S, r_0_3 S, r_0_4 S, r_0_5 S, r_0_6 S, r_0_7 S, r_0_8 S, r_0_9 S, r_0_10 S, r_0_11 S, r_0_12 S, n_0_13 S, i_0_14 S, i_0_15 S, i_0_16 S, i_0_17 S, v_1 S, r_1_0 S, i_1_1 S, i_1_2 S, i_1_3 S, i_1_4 S, i_1_5 S, i_1_6 S, v_3 S, r_3_0 S, r_3_1 S, r_3_2 S, r_3_3 S, i_3_4 S, i_3_5 S, v_8 S, r_8_0 S, r_8_1 S, r_8_2 S, r_8_3 S, i_8_4 S, i_8_5 S, v_13 S, r_13_0 S, r_13_1 S, i_13_2 S, v_16 S, r_16_0 S, r_16_1 S, i_16_2 S, v_19 S, r_19_0 S, r_19_1 S, r_19_2 S, r_19_3 S, i_19_4 S, i_19_5 S, i_19_6 S, i_19_7 S, v_24 S, r_24_0 S, r_24_1 S, r_24_2 S, r_24_3 S, i_24_4 S, j_24_5 S, v_28 S, r_28_0 S, r_28_1 S, r_28_2 S, v_30 S, r_30_0 S, r_30_1 S, r_30_2 S, r_30_3 S, i_30_4 S, i_30_5 S, v_33 S, r_33_0 S, r_33_1 S, r_33_2 S, r_33_3 S, i_33_4 S, i_33_5 S, v_37 S, r_37_0 S, r_37_1 S, i_37_2 S, i_37_3 S, i_37_4 S, fc_sz HF, fc_ak HF, fc_fa HF, fc_te HF, fc_pr HF, fc_sy HF, l_4 S, l_5 S, l_6 S, l_7 S, e_v T, e_i4 T, e_i5 T, e_r0 T, e_r1 T, e_r2 T, e_r3 T, e_l1 T, e_l2 T, e_l3 T, sr_hg HA, sr_yr HA, sr_mo HA, sr_tk HA, sr_sa HA, c_taker T HA WA h8, c_sitter T HA WA h8, c_hallOf T HA WA h8, c_faceOn T HA WA h8, c_yearOf T HA WA h8, c_nearest S HF WF, c_never S HF h8, c_alike S HF, nn_le, nn_succ, bI_0, Int32.or_zero, Int32.add_zero, Int32.le_refl, f_X11_nobody_b7, f_X11_nobody_b44, hn, hv]
      · simp (disch := omega) only [bd_eq, pu_ap, if_true, if_false, not_true_eq_false, not_false_eq_true, eq_self, v_49 S, i_49_0 S, i_49_1 S, i_49_2 S, i_49_3 S, i_49_4 S, i_49_5 S, i_49_6 S, i_49_7 S, i_49_8 S, r_49_9 S, r_49_10 S, r_49_11 S, r_49_12 S, r_49_13 S, r_49_14 S, r_49_15 S, r_49_16 S, i_49_17 S, i_49_18 S, r_49_19 S, r_49_20 S, r_49_21 S, r_49_22 S, r_49_23 S, r_49_24 S, r_49_25 S, i_49_26 S, r_49_27 S, r_49_28 S, r_49_29 S, r_49_30 S, i_49_31 S, i_49_32 S, i_49_33 S, i_49_34 S, i_49_35 S, i_49_36 S, i_49_37 S, r_49_38 S, i_49_39 S, i_49_40 S, r_49_41 S, r_49_42 S, r_49_43 S, i_49_44 S, r_49_45 S, i_49_46 S, i_49_47 S, i_49_48 S, l_53_0 S, l_53_1 S, fm_sz MF, fm_ak MF, fm_fa MF, fm_te MF, fm_pr MF, fm_sy MF, l_55 S, g_65 S, l_66_0 S, l_66_1 S, l_66_2 S, o_l24 U, o_l25 U, o_l26 U, o_l27 U, rr_hg MA, rr_yr MA, rr_tn MA, rr_bu MA, m_pA U MA h40, m_pB U MA h40, m_pH U MA h40, m_pF U MA h40, m_pY U MA h40, m_faceOf S MF h8, m_looksOf S MF WF, m_alike S MF, m_has, ix0, ix8, ix16, o_l U, rr_mo MA, rr_tk MA, rr_sa MA, nn_le, nn_succ, bI_0, Int32.or_zero, Int32.add_zero, Int32.le_refl, f_X12_nobody_b31, f_X12_nobody_b59, hn, hv]
  · intro N x y I1 I2 _ a1 a2 HC HM _
    obtain ⟨⟨HF, HA, HL, HW, HT, -⟩, -, -⟩ := HC
    obtain ⟨⟨MF, MA, ML, MW, MT, -⟩, -, -⟩ := HM
    refine QQ.mk (-1) ?_ ?_
    · simp (disch := omega) only [bd_eq, pu_ap, if_true, if_false, not_true_eq_false, not_false_eq_true, eq_self, v_0 S, r_0_0 S, r_0_1 S, r_0_2 S, r_0_3 S, r_0_4 S, r_0_5 S, r_0_6 S, r_0_7 S, r_0_8 S, r_0_9 S, r_0_10 S, r_0_11 S, r_0_12 S, n_0_13 S, i_0_14 S, i_0_15 S, i_0_16 S, i_0_17 S, v_1 S, r_1_0 S, i_1_1 S, i_1_2 S, i_1_3 S, i_1_4 S, i_1_5 S, i_1_6 S, v_3 S, r_3_0 S, r_3_1 S, r_3_2 S, r_3_3 S, i_3_4 S, i_3_5 S, v_8 S, r_8_0 S, r_8_1 S, r_8_2 S, r_8_3 S, i_8_4 S, i_8_5 S, v_13 S, r_13_0 S, r_13_1 S, i_13_2 S, v_16 S, r_16_0 S, r_16_1 S, i_16_2 S, v_19 S, r_19_0 S, r_19_1 S, r_19_2 S, r_19_3 S, i_19_4 S, i_19_5 S, i_19_6 S, i_19_7 S, v_24 S, r_24_0 S, r_24_1 S, r_24_2 S, r_24_3 S, i_24_4 S, j_24_5 S, v_28 S, r_28_0 S, r_28_1 S, r_28_2 S, v_30 S, r_30_0 S, r_30_1 S, r_30_2 S, r_30_3 S, i_30_4 S, i_30_5 S, v_33 S, r_33_0 S, r_33_1 S, r_33_2 S, r_33_3 S, i_33_4 S, i_33_5 S, v_37 S, r_37_0 S, r_37_1 S, i_37_2 S, i_37_3 S, i_37_4 S, fc_sz HF, fc_ak HF, fc_fa HF, fc_te HF, fc_pr HF, fc_sy HF, l_4 S, l_5 S, l_6 S, l_7 S, e_v T, e_i4 T, e_i5 T, e_r0 T, e_r1 T, e_r2 T, e_r3 T, e_l1 T, e_l2 T, e_l3 T, sr_hg HA, sr_yr HA, sr_mo HA, sr_tk HA, sr_sa HA, c_taker T HA WA h8, c_sitter T HA WA h8, c_hallOf T HA WA h8, c_faceOn T HA WA h8, c_yearOf T HA WA h8, c_nearest S HF WF, c_never S HF h8, c_alike S HF, nn_le, nn_succ, bI_0, Int32.or_zero, Int32.add_zero, Int32.le_refl, f_X11_nobody_b7]
    · simp (disch := omega) only [bd_eq, pu_ap, if_true, if_false, not_true_eq_false, not_false_eq_true, eq_self, v_49 S, i_49_0 S, i_49_1 S, i_49_2 S, i_49_3 S, i_49_4 S, i_49_5 S, i_49_6 S, i_49_7 S, i_49_8 S, r_49_9 S, r_49_10 S, r_49_11 S, r_49_12 S, r_49_13 S, r_49_14 S, r_49_15 S, r_49_16 S, i_49_17 S, i_49_18 S, r_49_19 S, r_49_20 S, r_49_21 S, r_49_22 S, r_49_23 S, r_49_24 S, r_49_25 S, i_49_26 S, r_49_27 S, r_49_28 S, r_49_29 S, r_49_30 S, i_49_31 S, i_49_32 S, i_49_33 S, i_49_34 S, i_49_35 S, i_49_36 S, i_49_37 S, r_49_38 S, i_49_39 S, i_49_40 S, r_49_41 S, r_49_42 S, r_49_43 S, i_49_44 S, r_49_45 S, i_49_46 S, i_49_47 S, i_49_48 S, l_53_0 S, l_53_1 S, fm_sz MF, fm_ak MF, fm_fa MF, fm_te MF, fm_pr MF, fm_sy MF, l_55 S, g_65 S, l_66_0 S, l_66_1 S, l_66_2 S, o_l24 U, o_l25 U, o_l26 U, o_l27 U, rr_hg MA, rr_yr MA, rr_tn MA, rr_bu MA, m_pA U MA h40, m_pB U MA h40, m_pH U MA h40, m_pF U MA h40, m_pY U MA h40, m_faceOf S MF h8, m_looksOf S MF WF, m_alike S MF, m_has, ix0, ix8, ix16, o_l U, rr_mo MA, rr_tk MA, rr_sa MA, nn_le, nn_succ, bI_0, Int32.or_zero, Int32.add_zero, Int32.le_refl, f_X12_nobody_b31]
-- the model copies a row
theorem m_copies {I : Is} {J : Js} {r r' : Nat} (T : RoS w r) (T' : RoS w r') (hne : r ≠ r') : ∃ I1, f_X12_copies r r' (st w I J) = some (.inl (), st w I1 J) ∧ Ag [r'] I I1 ∧ ∀ k, k < 228 → I1 r' k = I r k := by
  unfold f_X12_copies
  refine loopQ (fun N i (I1 : Is) => f_X12_copies_b2 N r r' (nn i) (st w I1 J)) 228 (fun i I1 => Ag [r'] I I1 ∧ ∀ k, k < i → I1 r' k = I r k) (fun z => ∃ I1, z = some (.inl (), st w I1 J) ∧ Ag [r'] I I1 ∧ ∀ k, k < 228 → I1 r' k = I r k) ?_ ?_ 228 0 I NF (by omega) (NF_gt (by omega)) ⟨Ag.refl _ _, fun k hk => by omega⟩
  · intro N i I1 hi ⟨a1, h1⟩
    left
    have hn : ¬ (228 : Int32) ≤ nn i := by
      rw [show (228 : Int32) = nn 228 from rfl, nn_le (by omega) (by omega)]
      omega
    refine ⟨up2 I1 r' i (I1 r i), ?_, a1.up (by simp), fun k hk => ?_⟩
    · simp (disch := omega) only [bd_eq, pu_ap, if_true, if_false, not_true_eq_false, not_false_eq_true, eq_self, f_X12_copies_b2, hn, o_l T, o_s T', nn_succ]
    · by_cases e : k = i
      · subst e
        rw [up2_s, a1 r (by simp [hne])]
      · rw [up2_k e]
        exact h1 k (by omega)
  · intro N I1 ⟨a1, h1⟩
    refine ⟨I1, ?_, a1, h1⟩
    simp (disch := omega) only [bd_eq, pu_ap, if_true, if_false, not_true_eq_false, not_false_eq_true, eq_self, f_X12_copies_b2, show ((228 : Int32) ≤ nn 228) = True from by decide]
theorem RwR.row {I I1 : Is} {r r' : Nat} {A : At} (H : RwR I r 0 A) (h : ∀ k, k < 228 → I1 r' k = I r k) (h40 : hg A ≤ 40) : RwR I1 r' 0 A := by
  obtain ⟨h1, ⟨h2, h3, h4, h5⟩, h6⟩ := H
  refine ⟨fun p hp => ?_, ⟨?_, ?_, ?_, ?_⟩, fun i hi => ?_⟩
  · obtain ⟨q1, q2, q3⟩ := h1 p hp
    rw [h _ (by omega), h _ (by omega), h _ (by omega)]
    exact ⟨q1, q2, q3⟩
  · rw [h _ (by omega)]; exact h2
  · rw [h _ (by omega)]; exact h3
  · rw [h _ (by omega)]; exact h4
  · rw [h _ (by omega)]; exact h5
  · rw [h _ (by omega), h _ (by omega), h _ (by omega), h _ (by omega), h _ (by omega)]
    exact h6 i hi
def setMo (A : At) (a m : Nat) : At := (A.1, up1 (mo A) a m, A.2.2)
theorem RwR.mood {I : Is} {r a m : Nat} {A : At} (H : RwR I r 0 A) (ha : a < 8) : RwR (up2 I r a (nn m)) r 0 (setMo A a m) := by
  obtain ⟨h1, ⟨h2, h3, h4, h5⟩, h6⟩ := H
  refine ⟨fun p hp => ?_, ⟨?_, ?_, ?_, ?_⟩, fun i hi => ?_⟩
  · obtain ⟨q1, q2, q3⟩ := h1 p hp
    refine ⟨?_, ?_, ?_⟩
    · show _ = nn (up1 (mo A) a m p)
      by_cases e : p = a
      · subst e
        rw [Nat.zero_add, up2_s, up1_s]
      · rw [Nat.zero_add, up2_k e, up1_n e]
        rw [Nat.zero_add] at q1
        exact q1
    · rw [up2_k (by omega)]; exact q2
    · rw [up2_k (by omega)]; exact q3
  · rw [up2_k (by omega)]; exact h2
  · rw [up2_k (by omega)]; exact h3
  · rw [up2_k (by omega)]; exact h4
  · rw [up2_k (by omega)]; exact h5
  · rw [up2_k (by omega), up2_k (by omega), up2_k (by omega), up2_k (by omega), up2_k (by omega)]
    exact h6 i hi
theorem setMo2 (A : At) (a m m' : Nat) : setMo (setMo A a m) a m' = setMo A a m' := by
  unfold setMo
  congr 2
  funext p
  by_cases e : p = a
  · subst e; rw [up1_s, up1_s]
  · rw [up1_n e, up1_n e]; exact up1_n e
theorem b_moodFor (S : Sw w) (W : WD D) {a b : Nat} (ha : a < sz (dF D)) (hb : b < sz (dF D)) : Bod w D (f_X11_moodFor_b12 NF 0 (nn a) (nn b) 0) (bd (f_X12_copies 497 498) fun _ => f_X12_moodFor_b50 NF 49 (nn a) (nn b) 0) := by
  intro I I' J J' HC HM H0
  have HCs := HC
  have HMs := HM
  obtain ⟨⟨HF, HA, HL, HW, HT, -⟩, -, -⟩ := HC
  obtain ⟨⟨MF, MA, ML, MW, MT, -⟩, -, -⟩ := HM
  have Ws := W
  obtain ⟨WF, ⟨WA, -, WB, -⟩, -, WL, WW, -⟩ := W
  have h8 := WF.1
  have h40 := WA.1
  have T := StS_43 S
  have U := RoS_497 S
  obtain ⟨Ic, ec, ac, hc⟩ := m_copies (I := I') (J := J') U (RoS_498 S) (by decide)
  rw [bd_st ec]
  have amc : AgM I' Ic := AgM.of ac (by decide) (by decide)
  have lift : ∀ r r', QQ w I J Ic J' r r' → QQ w I J I' J' r r' := fun r r' ⟨v, h1, I4, e2, a4⟩ => ⟨v, h1, I4, e2, amc.trans a4⟩
  apply lift
  have MT : RwR Ic 498 0 (dA D) := MA.row hc h40
  have z : ∀ m, faceB (dF D) (dL D) (setMo (dA D) a m) a b 0 (nn (mo (setMo (dA D) a m) a)) = faceB (dF D) (dL D) (dA D) a b 0 (nn m) := fun m => by
    rw [show mo (setMo (dA D) a m) a = m from up1_s]
    rfl
  refine loopS HCs (HMs.agm Ws amc) Ws ((amc.2 0 (by decide)).trans H0) (fun N i (_ : Unit) I => f_X11_moodFor_b12 N 0 (nn a) (nn b) (nn i) (st w I J)) (fun N i (_ : Unit) I => f_X12_moodFor_b50 N 49 (nn a) (nn b) (nn i) (st w I J')) 10 (fun _ _ _ _ I2 => ∃ A, RwR I2 498 0 A ∧ ∀ m, setMo A a m = setMo (dA D) a m) ?_ ?_ () () ⟨dA D, MT, fun _ => rfl⟩ (by omega)
  · intro N i x y I1 I2 hi ⟨A, hA, hAm⟩ a1 a2 HC HM _
    obtain ⟨⟨HF, HA, HL, HW, HT, -⟩, -, -⟩ := HC
    obtain ⟨⟨MF, MA, ML, MW, MT, -⟩, -, -⟩ := HM
    have hn : ¬ (9 : Int32) < nn i := by rw [show (9 : Int32) = nn 9 from rfl, nn_lt (by omega) (by omega)]; omega
    have hn' : ¬ (10 : Int32) ≤ nn i := by rw [show (10 : Int32) = nn 10 from rfl, nn_le (by omega) (by omega)]; omega
    have hA2 : RwR (up2 I2 498 a (nn i)) 498 0 (setMo (dA D) a i) := by
      rw [← hAm i]
      exact hA.mood (by omega)
    have amu : AgM I2 (up2 I2 498 a (nn i)) := (AgM.refl _).up (by decide) (Or.inl (by decide))
    have HM2 := (HMs.agm Ws (amc.trans a2)).agm Ws amu
    obtain ⟨⟨MF2, MA2, ML2, -⟩, -, -⟩ := HM2
    obtain ⟨I3, e3, a3⟩ := c_hasAs (J := J) S HF h8 T (by decide) HA HL WL ha hb (nn i)
    have nx : ∃ A, RwR (up2 I2 498 a (nn i)) 498 0 A ∧ ∀ m, setMo A a m = setMo (dA D) a m := ⟨_, hA2, fun m => setMo2 _ _ _ _⟩
    have s498 := o_s (I := I2) (J := J') (k := a) (v := nn i) (RoS_498 S) (by omega)
    by_cases hv : nev (dF D) a (nn b)
    · have hh : ¬ hasA (dF D) (dL D) (dA D) a b (nn i) := fun h => h.1 hv
      rw [bI_f hh] at e3
      refine Or.inl ⟨(), (), I3, _, ?_, ?_, ag_kc a3, amu, nx⟩
      · simp (disch := omega) only [bd_eq, pu_ap, if_true, if_false, not_true_eq_false, not_false_eq_true, eq_self, v_0 S, r_0_0 S, r_0_1 S, r_0_2 S, r_0_3 S, r_0_4 S, r_0_5 S, r_0_6 S, r_0_7 S, r_0_8 S, r_0_9 S, r_0_10 S, r_0_11 S, r_0_12 S, n_0_13 S, i_0_14 S, i_0_15 S, i_0_16 S, i_0_17 S, v_1 S, r_1_0 S, i_1_1 S, i_1_2 S, i_1_3 S, i_1_4 S, i_1_5 S, i_1_6 S, v_3 S, r_3_0 S, r_3_1 S, r_3_2 S, r_3_3 S, i_3_4 S, i_3_5 S, v_8 S, r_8_0 S, r_8_1 S, r_8_2 S, r_8_3 S, i_8_4 S, i_8_5 S, v_13 S, r_13_0 S, r_13_1 S, i_13_2 S, v_16 S, r_16_0 S, r_16_1 S, i_16_2 S, v_19 S, r_19_0 S, r_19_1 S, r_19_2 S, r_19_3 S, i_19_4 S, i_19_5 S, i_19_6 S, i_19_7 S, v_24 S, r_24_0 S, r_24_1 S, r_24_2 S, r_24_3 S, i_24_4 S, j_24_5 S, v_28 S, r_28_0 S, r_28_1 S, r_28_2 S, v_30 S, r_30_0 S, r_30_1 S, r_30_2 S, r_30_3 S, i_30_4 S, i_30_5 S, v_33 S, r_33_0 S, r_33_1 S, r_33_2 S, r_33_3 S, i_33_4 S, i_33_5 S, v_37 S, r_37_0 S, r_37_1 S, i_37_2 S, i_37_3 S, i_37_4 S, fc_sz HF, fc_ak HF, fc_fa HF, fc_te HF, fc_pr HF, fc_sy HF, l_4 S, l_5 S, l_6 S, l_7 S, e_v T, e_i4 T, e_i5 T, e_r0 T, e_r1 T, e_r2 T, e_r3 T, e_l1 T, e_l2 T, e_l3 T, sr_hg HA, sr_yr HA, sr_mo HA, sr_tk HA, sr_sa HA, c_taker T HA WA h8, c_sitter T HA WA h8, c_hallOf T HA WA h8, c_faceOn T HA WA h8, c_yearOf T HA WA h8, c_nearest S HF WF, c_never S HF h8, c_alike S HF, nn_le, nn_succ, bI_0, Int32.or_zero, Int32.add_zero, Int32.le_refl, f_X11_moodFor_b12, hn, e3]
      · simp (disch := omega) only [bd_eq, pu_ap, if_true, if_false, not_true_eq_false, not_false_eq_true, eq_self, v_49 S, i_49_0 S, i_49_1 S, i_49_2 S, i_49_3 S, i_49_4 S, i_49_5 S, i_49_6 S, i_49_7 S, i_49_8 S, r_49_9 S, r_49_10 S, r_49_11 S, r_49_12 S, r_49_13 S, r_49_14 S, r_49_15 S, r_49_16 S, i_49_17 S, i_49_18 S, r_49_19 S, r_49_20 S, r_49_21 S, r_49_22 S, r_49_23 S, r_49_24 S, r_49_25 S, i_49_26 S, r_49_27 S, r_49_28 S, r_49_29 S, r_49_30 S, i_49_31 S, i_49_32 S, i_49_33 S, i_49_34 S, i_49_35 S, i_49_36 S, i_49_37 S, r_49_38 S, i_49_39 S, i_49_40 S, r_49_41 S, r_49_42 S, r_49_43 S, i_49_44 S, r_49_45 S, i_49_46 S, i_49_47 S, i_49_48 S, l_53_0 S, l_53_1 S, f_X12_moodFor_b50, f_X12_moodFor_b103, hn', ix0, s498, l_55 S, fm_sy MF2, m_has, bI_0, eq_true hv, nn_succ]
    · obtain ⟨I4, e4, a4⟩ := m_shownBy (J := J') S MF2 h8 (RoS_498 S) (by decide) hA2 ML2 WL ha hb 0
      rw [z i] at e4
      have MF4 := MF2.ag h8 a4 (by decide)
      have nx4 : ∃ A, RwR I4 498 0 A ∧ ∀ m, setMo A a m = setMo (dA D) a m := ⟨_, hA2.ag a4 (by decide), fun m => setMo2 _ _ _ _⟩
      obtain ⟨f, hf, ef⟩ := faceB_face (dF D) (dL D) (dA D) a b 0 (nn i)
      have hfb := (WF.2.2 b hb).1
      by_cases hk : alk (dF D) (faceB (dF D) (dL D) (dA D) a b 0 (nn i)) (nn (fa (dF D) b))
      · rw [bI_t ⟨hv, hk⟩] at e3
        rw [ef] at e4 hk
        refine Or.inr ⟨nn i, ⟨I3, ?_, ag_kc a3⟩, I4, ?_, amu.trans (ag_km a4)⟩
        · simp (disch := omega) only [bd_eq, pu_ap, if_true, if_false, not_true_eq_false, not_false_eq_true, eq_self, v_0 S, r_0_0 S, r_0_1 S, r_0_2 S, r_0_3 S, r_0_4 S, r_0_5 S, r_0_6 S, r_0_7 S, r_0_8 S, r_0_9 S, r_0_10 S, r_0_11 S, r_0_12 S, n_0_13 S, i_0_14 S, i_0_15 S, i_0_16 S, i_0_17 S, v_1 S, r_1_0 S, i_1_1 S, i_1_2 S, i_1_3 S, i_1_4 S, i_1_5 S, i_1_6 S, v_3 S, r_3_0 S, r_3_1 S, r_3_2 S, r_3_3 S, i_3_4 S, i_3_5 S, v_8 S, r_8_0 S, r_8_1 S, r_8_2 S, r_8_3 S, i_8_4 S, i_8_5 S, v_13 S, r_13_0 S, r_13_1 S, i_13_2 S, v_16 S, r_16_0 S, r_16_1 S, i_16_2 S, v_19 S, r_19_0 S, r_19_1 S, r_19_2 S, r_19_3 S, i_19_4 S, i_19_5 S, i_19_6 S, i_19_7 S, v_24 S, r_24_0 S, r_24_1 S, r_24_2 S, r_24_3 S, i_24_4 S, j_24_5 S, v_28 S, r_28_0 S, r_28_1 S, r_28_2 S, v_30 S, r_30_0 S, r_30_1 S, r_30_2 S, r_30_3 S, i_30_4 S, i_30_5 S, v_33 S, r_33_0 S, r_33_1 S, r_33_2 S, r_33_3 S, i_33_4 S, i_33_5 S, v_37 S, r_37_0 S, r_37_1 S, i_37_2 S, i_37_3 S, i_37_4 S, fc_sz HF, fc_ak HF, fc_fa HF, fc_te HF, fc_pr HF, fc_sy HF, l_4 S, l_5 S, l_6 S, l_7 S, e_v T, e_i4 T, e_i5 T, e_r0 T, e_r1 T, e_r2 T, e_r3 T, e_l1 T, e_l2 T, e_l3 T, sr_hg HA, sr_yr HA, sr_mo HA, sr_tk HA, sr_sa HA, c_taker T HA WA h8, c_sitter T HA WA h8, c_hallOf T HA WA h8, c_faceOn T HA WA h8, c_yearOf T HA WA h8, c_nearest S HF WF, c_never S HF h8, c_alike S HF, nn_le, nn_succ, bI_0, Int32.or_zero, Int32.add_zero, Int32.le_refl, f_X11_moodFor_b12, hn, e3, show ((1 : Int32) = 0) = False from by decide]
        · simp (disch := omega) only [bd_eq, pu_ap, if_true, if_false, not_true_eq_false, not_false_eq_true, eq_self, v_49 S, i_49_0 S, i_49_1 S, i_49_2 S, i_49_3 S, i_49_4 S, i_49_5 S, i_49_6 S, i_49_7 S, i_49_8 S, r_49_9 S, r_49_10 S, r_49_11 S, r_49_12 S, r_49_13 S, r_49_14 S, r_49_15 S, r_49_16 S, i_49_17 S, i_49_18 S, r_49_19 S, r_49_20 S, r_49_21 S, r_49_22 S, r_49_23 S, r_49_24 S, r_49_25 S, i_49_26 S, r_49_27 S, r_49_28 S, r_49_29 S, r_49_30 S, i_49_31 S, i_49_32 S, i_49_33 S, i_49_34 S, i_49_35 S, i_49_36 S, i_49_37 S, r_49_38 S, i_49_39 S, i_49_40 S, r_49_41 S, r_49_42 S, r_49_43 S, i_49_44 S, r_49_45 S, i_49_46 S, i_49_47 S, i_49_48 S, l_53_0 S, l_53_1 S, f_X12_moodFor_b50, f_X12_moodFor_b103, hn', ix0, s498, l_55 S, fm_sy MF2, m_has, bI_0, eq_false hv, e4, m_faceOf S MF4 h8, m_alike S MF4 hf hfb, eq_true hk, nn_succ]
      · rw [bI_f (c := hasA (dF D) (dL D) (dA D) a b (nn i)) (fun h => hk h.2)] at e3
        rw [ef] at e4 hk
        refine Or.inl ⟨(), (), I3, I4, ?_, ?_, ag_kc a3, amu.trans (ag_km a4), nx4⟩
        · simp (disch := omega) only [bd_eq, pu_ap, if_true, if_false, not_true_eq_false, not_false_eq_true, eq_self, v_0 S, r_0_0 S, r_0_1 S, r_0_2 S, r_0_3 S, r_0_4 S, r_0_5 S, r_0_6 S, r_0_7 S, r_0_8 S, r_0_9 S, r_0_10 S, r_0_11 S, r_0_12 S, n_0_13 S, i_0_14 S, i_0_15 S, i_0_16 S, i_0_17 S, v_1 S, r_1_0 S, i_1_1 S, i_1_2 S, i_1_3 S, i_1_4 S, i_1_5 S, i_1_6 S, v_3 S, r_3_0 S, r_3_1 S, r_3_2 S, r_3_3 S, i_3_4 S, i_3_5 S, v_8 S, r_8_0 S, r_8_1 S, r_8_2 S, r_8_3 S, i_8_4 S, i_8_5 S, v_13 S, r_13_0 S, r_13_1 S, i_13_2 S, v_16 S, r_16_0 S, r_16_1 S, i_16_2 S, v_19 S, r_19_0 S, r_19_1 S, r_19_2 S, r_19_3 S, i_19_4 S, i_19_5 S, i_19_6 S, i_19_7 S, v_24 S, r_24_0 S, r_24_1 S, r_24_2 S, r_24_3 S, i_24_4 S, j_24_5 S, v_28 S, r_28_0 S, r_28_1 S, r_28_2 S, v_30 S, r_30_0 S, r_30_1 S, r_30_2 S, r_30_3 S, i_30_4 S, i_30_5 S, v_33 S, r_33_0 S, r_33_1 S, r_33_2 S, r_33_3 S, i_33_4 S, i_33_5 S, v_37 S, r_37_0 S, r_37_1 S, i_37_2 S, i_37_3 S, i_37_4 S, fc_sz HF, fc_ak HF, fc_fa HF, fc_te HF, fc_pr HF, fc_sy HF, l_4 S, l_5 S, l_6 S, l_7 S, e_v T, e_i4 T, e_i5 T, e_r0 T, e_r1 T, e_r2 T, e_r3 T, e_l1 T, e_l2 T, e_l3 T, sr_hg HA, sr_yr HA, sr_mo HA, sr_tk HA, sr_sa HA, c_taker T HA WA h8, c_sitter T HA WA h8, c_hallOf T HA WA h8, c_faceOn T HA WA h8, c_yearOf T HA WA h8, c_nearest S HF WF, c_never S HF h8, c_alike S HF, nn_le, nn_succ, bI_0, Int32.or_zero, Int32.add_zero, Int32.le_refl, f_X11_moodFor_b12, hn, e3]
        · simp (disch := omega) only [bd_eq, pu_ap, if_true, if_false, not_true_eq_false, not_false_eq_true, eq_self, v_49 S, i_49_0 S, i_49_1 S, i_49_2 S, i_49_3 S, i_49_4 S, i_49_5 S, i_49_6 S, i_49_7 S, i_49_8 S, r_49_9 S, r_49_10 S, r_49_11 S, r_49_12 S, r_49_13 S, r_49_14 S, r_49_15 S, r_49_16 S, i_49_17 S, i_49_18 S, r_49_19 S, r_49_20 S, r_49_21 S, r_49_22 S, r_49_23 S, r_49_24 S, r_49_25 S, i_49_26 S, r_49_27 S, r_49_28 S, r_49_29 S, r_49_30 S, i_49_31 S, i_49_32 S, i_49_33 S, i_49_34 S, i_49_35 S, i_49_36 S, i_49_37 S, r_49_38 S, i_49_39 S, i_49_40 S, r_49_41 S, r_49_42 S, r_49_43 S, i_49_44 S, r_49_45 S, i_49_46 S, i_49_47 S, i_49_48 S, l_53_0 S, l_53_1 S, f_X12_moodFor_b50, f_X12_moodFor_b103, hn', ix0, s498, l_55 S, fm_sy MF2, m_has, bI_0, eq_false hv, e4, m_faceOf S MF4 h8, m_alike S MF4 hf hfb, eq_false hk, nn_succ]
  · intro N x y I1 I2 _ a1 a2 HC HM _
    refine QQ.mk (-1) ?_ ?_
    · simp (disch := omega) only [bd_eq, pu_ap, if_true, if_false, not_true_eq_false, not_false_eq_true, eq_self, f_X11_moodFor_b12, show ((9 : Int32) < nn 10) = True from by decide]
    · simp (disch := omega) only [bd_eq, pu_ap, if_true, if_false, not_true_eq_false, not_false_eq_true, eq_self, f_X12_moodFor_b50, show ((10 : Int32) ≤ nn 10) = True from by decide]
end Q2
