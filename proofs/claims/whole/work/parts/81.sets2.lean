/-! PURE PART: fewest, cheapest, made, in both -/
theorem bc_le : ∀ s, s < 256 → bc32 (nn s) < 9 := by decide +kernel
section SETS2
variable {w : Wd} {I I' : Is} {J J' : Js} {F : Fo} {A : At} {L : Lw} {D : Dt}
theorem nn_dn {M i : Nat} (h : i < M) : nn (M - i) - 1 = nn (M - i - 1) ∧ nn (M - i - 1) + (-1) = nn (M - (i + 1)) - 1 := by
  refine ⟨nn_pred (by omega), ?_⟩
  rw [show M - (i + 1) = M - i - 1 by omega, Int32.sub_eq_add_neg]
/-- a loop downwards that keeps the least -/
theorem loopDn {M : Nat} (hM : M < 10000) (B : Nat → Int32 → Int32 → Rs) (g : Nat → Prop) (c : Nat → Int32) (σ : PS)
    (hs : ∀ N s b, s < M → isL (s + 1) M g c b → B (N + 1) b (nn s) = B N (nn s) (nn s + (-1)) ∧ (b = -1 ∨ ∃ t, b = nn t ∧ t < M ∧ c s ≤ c t) ∧ g s ∨ B (N + 1) b (nn s) = B N b (nn s + (-1)) ∧ (¬ g s ∨ ∃ t, b = nn t ∧ t < M ∧ c t < c s))
    (he : ∀ N b, B (N + 1) b (-1) = some (.inl b, σ)) : ∃ v, B NF (-1) (nn M - 1) = some (.inl v, σ) ∧ isL 0 M g c v := by
  refine loopQ (fun N i (b : Int32) => B N b (nn (M - i) - 1)) M (fun i b => isL (M - i) M g c b) (fun z => ∃ v, z = some (.inl v, σ) ∧ isL 0 M g c v) ?_ ?_ M 0 (-1) NF (by omega) (NF_gt hM) (isL_0 M g c)
  · intro N i b hi hL
    left
    obtain ⟨d1, d2⟩ := nn_dn hi
    have hL' : isL (M - i - 1 + 1) M g c b := by rw [show M - i - 1 + 1 = M - i by omega]; exact hL
    obtain ⟨u1, u2⟩ := isL_dn hL' (by omega) (by omega)
    show ∃ y, B (N + 1) b (nn (M - i) - 1) = _ ∧ _
    rw [d1]
    rcases hs N (M - i - 1) b (by omega) hL' with ⟨e, h1⟩ | ⟨e, h1⟩
    · refine ⟨nn (M - i - 1), by rw [e, d2], ?_⟩
      rw [show M - (i + 1) = M - i - 1 by omega]
      exact u1 h1
    · refine ⟨b, by rw [e, d2], ?_⟩
      rw [show M - (i + 1) = M - i - 1 by omega]
      exact u2 h1
  · intro N b hL
    refine ⟨b, ?_, ?_⟩
    · show B (N + 1) b (nn (M - M) - 1) = _
      rw [Nat.sub_self, show nn 0 - 1 = -1 from rfl]
      exact he N b
    · rw [Nat.sub_self] at hL
      exact hL
theorem m_fewest (S : Sw w) (HF : FoM I F) (h8 : sz F ≤ 8) {c : Nat → Int32} (hc : ∀ b, b < sz F → I 520 b = c b) (p : Int32) : ∃ v, f_X12_fewest_b46 NF 49 p (-1) (nn (2 ^ sz F) - 1) (st w I J) = some (.inl v, st w I J) ∧ isL 0 (2 ^ sz F) (fun s => enoB c (sz F) (nn s) p) (costP F 0) v := by
  have hM := (pw_s (sz F) h8).2.2
  refine loopDn (by omega) (fun N b x => f_X12_fewest_b46 N 49 p b x (st w I J)) _ _ (st w I J) ?_ ?_
  · intro N s b hs hL
    have h0 : ¬ nn s < 0 := nn_nneg (by omega)
    have e2 := m_isEnough (J := J) S HF h8 hc (nn s) p
    have z1 : ((1 : Int32) = 0) = False := by decide
    have o1 := m_ones (z := s) (by omega) (σ := st w I J)
    by_cases hg : enoB c (sz F) (nn s) p
    · rw [bI_t hg] at e2
      rcases hL with ⟨l1, l2⟩ | ⟨t, l1, l2, l3, l4, l5, l6⟩
      · left
        subst l1
        refine ⟨?_, Or.inl rfl, hg⟩
        simp (disch := omega) only [bd_eq, pu_ap, if_true, if_false, not_true_eq_false, not_false_eq_true, eq_self, v_49 S, i_49_0 S, i_49_1 S, i_49_2 S, i_49_3 S, i_49_4 S, i_49_5 S, i_49_6 S, i_49_7 S, i_49_8 S, r_49_9 S, r_49_10 S, r_49_11 S, r_49_12 S, r_49_13 S, r_49_14 S, r_49_15 S, r_49_16 S, i_49_17 S, i_49_18 S, r_49_19 S, r_49_20 S, r_49_21 S, r_49_22 S, r_49_23 S, r_49_24 S, r_49_25 S, i_49_26 S, r_49_27 S, r_49_28 S, r_49_29 S, r_49_30 S, i_49_31 S, i_49_32 S, i_49_33 S, i_49_34 S, i_49_35 S, i_49_36 S, i_49_37 S, r_49_38 S, i_49_39 S, i_49_40 S, r_49_41 S, r_49_42 S, r_49_43 S, i_49_44 S, r_49_45 S, i_49_46 S, i_49_47 S, i_49_48 S, l_53_0 S, l_53_1 S, f_X12_fewest_b46, f_X12_fewest_b75, f_X12_fewest_b79, f_X12_fewest_b80, h0, e2, z1]
      · have hne : ¬ b = -1 := by rw [l3]; exact nn_ne_neg (by omega)
        have o2 := m_ones (z := t) (by omega) (σ := st w I J)
        rw [← l3] at o2
        by_cases hlt : bc32 b < bc32 (nn s)
        · right
          refine ⟨?_, Or.inr ⟨t, l3, l2, by rw [l3] at hlt; exact hlt⟩⟩
          show f_X12_fewest_b46 (N + 1) 49 p b (nn s) (st w I J) = _
          rw [f_X12_fewest_b46, if_neg h0, bd_st ((v_49 S).trans e2), if_neg (by decide), if_neg hne, bd_st o1, bd_st o2, if_pos hlt]
          rfl
        · left
          refine ⟨?_, Or.inr ⟨t, l3, l2, by rw [l3] at hlt; exact Int32.not_lt.mp hlt⟩, hg⟩
          show f_X12_fewest_b46 (N + 1) 49 p b (nn s) (st w I J) = _
          rw [f_X12_fewest_b46, if_neg h0, bd_st ((v_49 S).trans e2), if_neg (by decide), if_neg hne, bd_st o1, bd_st o2, if_neg hlt]
          rfl
    · right
      rw [bI_f hg] at e2
      refine ⟨?_, Or.inl hg⟩
      simp (disch := omega) only [bd_eq, pu_ap, if_true, if_false, not_true_eq_false, not_false_eq_true, eq_self, v_49 S, i_49_0 S, i_49_1 S, i_49_2 S, i_49_3 S, i_49_4 S, i_49_5 S, i_49_6 S, i_49_7 S, i_49_8 S, r_49_9 S, r_49_10 S, r_49_11 S, r_49_12 S, r_49_13 S, r_49_14 S, r_49_15 S, r_49_16 S, i_49_17 S, i_49_18 S, r_49_19 S, r_49_20 S, r_49_21 S, r_49_22 S, r_49_23 S, r_49_24 S, r_49_25 S, i_49_26 S, r_49_27 S, r_49_28 S, r_49_29 S, r_49_30 S, i_49_31 S, i_49_32 S, i_49_33 S, i_49_34 S, i_49_35 S, i_49_36 S, i_49_37 S, r_49_38 S, i_49_39 S, i_49_40 S, r_49_41 S, r_49_42 S, r_49_43 S, i_49_44 S, r_49_45 S, i_49_46 S, i_49_47 S, i_49_48 S, l_53_0 S, l_53_1 S, f_X12_fewest_b46, f_X12_fewest_b75, f_X12_fewest_b79, f_X12_fewest_b80, h0, e2]
  · intro N b
    simp (disch := omega) only [bd_eq, pu_ap, if_true, if_false, not_true_eq_false, not_false_eq_true, eq_self, v_49 S, i_49_0 S, i_49_1 S, i_49_2 S, i_49_3 S, i_49_4 S, i_49_5 S, i_49_6 S, i_49_7 S, i_49_8 S, r_49_9 S, r_49_10 S, r_49_11 S, r_49_12 S, r_49_13 S, r_49_14 S, r_49_15 S, r_49_16 S, i_49_17 S, i_49_18 S, r_49_19 S, r_49_20 S, r_49_21 S, r_49_22 S, r_49_23 S, r_49_24 S, r_49_25 S, i_49_26 S, r_49_27 S, r_49_28 S, r_49_29 S, r_49_30 S, i_49_31 S, i_49_32 S, i_49_33 S, i_49_34 S, i_49_35 S, i_49_36 S, i_49_37 S, r_49_38 S, i_49_39 S, i_49_40 S, r_49_41 S, r_49_42 S, r_49_43 S, i_49_44 S, r_49_45 S, i_49_46 S, i_49_47 S, i_49_48 S, l_53_0 S, l_53_1 S, f_X12_fewest_b46, show ((-1 : Int32) < 0) = True from by decide]
theorem b_fewest (S : Sw w) (W : WD D) (p : Int32) : ∀ I I' J J', RC w I J D → RM I' D → I' 49 0 = 0 → ∃ v I1 I2, f_X7_look 30 43 (st w I J) = some (.inl (), st w I1 J) ∧ f_X7_leastSet 30 p 0 (st w I1 J) = some (.inl v, st w I1 J) ∧ Ag KC I I1 ∧ f_X12_laysCans 49 (st w I' J') = some (.inl (), st w I2 J') ∧ f_X12_fewest_b46 NF 49 p (-1) (nn (2 ^ sz (dF D)) - 1) (st w I2 J') = some (.inl v, st w I2 J') ∧ AgM I' I2 ∧ FoM I2 (dF D) := by
  intro I I' J J' HC HM H0
  have HCs := HC
  have HMs := HM
  obtain ⟨⟨HF, HA, HL, HW, HT, -⟩, -, -⟩ := HC
  obtain ⟨⟨MF, MA, ML, MW, MT, -⟩, -, -⟩ := HM
  have Ws := W
  obtain ⟨WF, ⟨WA, -, WB, -⟩, -, WL, WW, -⟩ := W
  have h8 := WF.1
  have h40 := WA.1
  have T := StS_43 S
  have U := RoS_497 S
  obtain ⟨I1, e1, a1, h1⟩ := c_look (J := J) S HF h8 HA HL WL
  obtain ⟨I2, e2, a2, h2⟩ := m_lays (J := J') S MF WF MA ML WL
  obtain ⟨v, e3, l3⟩ := c_leastSet (J := J) S (HF.ag a1 (by decide)) h8 h1 p (k := 0) (Or.inl rfl)
  obtain ⟨v', e4, l4⟩ := m_fewest (J := J') S (MF.ag h8 a2 (by decide)) h8 h2 p
  have := isL_u l3 l4
  subst this
  exact ⟨v, I1, I2, e1, e3, a1.mono (by decide), e2, e4, AgM.of a2 (by decide) (by decide), MF.ag h8 a2 (by decide)⟩
theorem b_cheapest (S : Sw w) (W : WD D) (p : Int32) {k : Nat} (hk : k < 2) : ∀ I I' J J', RC w I J D → RM I' D → I' 49 0 = 0 → ∃ v x I1 I2, f_X7_look 30 43 (st w I J) = some (.inl (), st w I1 J) ∧ f_X7_leastSet 30 p 1 (st w I1 J) = some (.inl v, st w I1 J) ∧ (k = 0 → v = -1 ∧ x = -1 ∨ ¬ v = -1 ∧ f_X2_priceOf 3 v (st w I1 J) = some (.inl x, st w I1 J)) ∧ Ag KC I I1 ∧ f_X12_laysCans 49 (st w I' J') = some (.inl (), st w I2 J') ∧ f_X12_cheapest_b50 NF 49 p (nn k) (-1) (-1) 0 (st w I2 J') = some (.inl (if k = 0 then x else v), st w I2 J') ∧ AgM I' I2 := by
  intro I I' J J' HC HM H0
  have HCs := HC
  have HMs := HM
  obtain ⟨⟨HF, HA, HL, HW, HT, -⟩, -, -⟩ := HC
  obtain ⟨⟨MF, MA, ML, MW, MT, -⟩, -, -⟩ := HM
  have Ws := W
  obtain ⟨WF, ⟨WA, -, WB, -⟩, -, WL, WW, -⟩ := W
  have h8 := WF.1
  have h40 := WA.1
  have T := StS_43 S
  have U := RoS_497 S
  obtain ⟨I1, e1, a1, h1⟩ := c_look (J := J) S HF h8 HA HL WL
  obtain ⟨I2, e2, a2, h2⟩ := m_lays (J := J') S MF WF MA ML WL
  have HF1 := HF.ag a1 (by decide)
  have MF2 := MF.ag h8 a2 (by decide)
  obtain ⟨v, e3, l3⟩ := c_leastSet (J := J) S HF1 h8 h1 p (k := 1) (Or.inr rfl)
  have hM := (pw_s (sz (dF D)) h8).2.2
  have hM0 : 0 < 2 ^ sz (dF D) := Nat.two_pow_pos _
  have cost : ∀ s, ∃ n, n ≤ 320 ∧ costP (dF D) 1 s = nn n := fun s => by
    obtain ⟨n, hn, e, -⟩ := giv_b WF (nn s) (b := 40) (by omega)
    exact ⟨n, hn, e⟩
  have cne : ∀ s, ¬ costP (dF D) 1 s = -1 := fun s => by
    obtain ⟨n, hn, e⟩ := cost s
    rw [e]
    exact nn_ne_neg (by omega)
  have q0 : (nn k = (0 : Int32)) = (k = 0) := nn_eq (b := 0) (by omega) (by omega)
  have q1 : (nn k = (1 : Int32)) = (k = 1) := nn_eq (b := 1) (by omega) (by omega)
  have z1 : ((1 : Int32) = 0) = False := by decide
  have main : ∃ b x, f_X12_cheapest_b50 NF 49 p (nn k) (-1) (-1) 0 (st w I2 J') = some (.inl (if k = 0 then x else b), st w I2 J') ∧ isL 0 (2 ^ sz (dF D)) (fun s => enoB (canB (dF D) (dL D) (dA D)) (sz (dF D)) (nn s) p) (costP (dF D) 1) b ∧ (b = -1 ∧ x = -1 ∨ ∃ s, b = nn s ∧ s < 2 ^ sz (dF D) ∧ x = costP (dF D) 1 s) := by
    refine loopQ (fun N i (z : Int32 × Int32) => f_X12_cheapest_b50 N 49 p (nn k) z.1 z.2 (nn i) (st w I2 J')) (2 ^ sz (dF D)) (fun i z => isL 0 i (fun s => enoB (canB (dF D) (dL D) (dA D)) (sz (dF D)) (nn s) p) (costP (dF D) 1) z.1 ∧ (z.1 = -1 ∧ z.2 = -1 ∨ ∃ s, z.1 = nn s ∧ s < i ∧ z.2 = costP (dF D) 1 s)) (fun z => ∃ b x, z = some (.inl (if k = 0 then x else b), st w I2 J') ∧ isL 0 (2 ^ sz (dF D)) (fun s => enoB (canB (dF D) (dL D) (dA D)) (sz (dF D)) (nn s) p) (costP (dF D) 1) b ∧ (b = -1 ∧ x = -1 ∨ ∃ s, b = nn s ∧ s < 2 ^ sz (dF D) ∧ x = costP (dF D) 1 s)) ?_ ?_ (2 ^ sz (dF D)) 0 (-1, -1) NF (by omega) (NF_gt (by omega)) ⟨isL_0 _ _ _, Or.inl ⟨rfl, rfl⟩⟩
    · intro N i ⟨b, x⟩ hi ⟨hL, hB⟩
      left
      have hL' : isL 0 i (fun s => enoB (canB (dF D) (dL D) (dA D)) (sz (dF D)) (nn s) p) (costP (dF D) 1) b := hL
      have hB' : b = -1 ∧ x = -1 ∨ ∃ s, b = nn s ∧ s < i ∧ x = costP (dF D) 1 s := hB
      obtain ⟨u1, u2⟩ := isL_up hL' (Nat.zero_le _) (by omega)
      have hn : ¬ 2 ^ sz (dF D) ≤ i := by omega
      have e5 := m_isEnough (J := J') S MF2 h8 h2 (nn i) p
      have e6 : f_X12_givenBy 49 (nn i) 40 (st w I2 J') = some (.inl (costP (dF D) 1 i), st w I2 J') := m_given S MF2 h8 (nn i) 40
      by_cases hg : enoB (canB (dF D) (dL D) (dA D)) (sz (dF D)) (nn i) p
      · rw [bI_t hg] at e5
        rcases hB' with ⟨b1, b2⟩ | ⟨s, b1, b2, b3⟩
        · subst b1
          subst b2
          refine ⟨(nn i, costP (dF D) 1 i), ?_, u1 ⟨Or.inl rfl, hg⟩, Or.inr ⟨i, rfl, Nat.lt_succ_self _, rfl⟩⟩
          simp (disch := omega) only [bd_eq, pu_ap, if_true, if_false, not_true_eq_false, not_false_eq_true, eq_self, v_49 S, i_49_0 S, i_49_1 S, i_49_2 S, i_49_3 S, i_49_4 S, i_49_5 S, i_49_6 S, i_49_7 S, i_49_8 S, r_49_9 S, r_49_10 S, r_49_11 S, r_49_12 S, r_49_13 S, r_49_14 S, r_49_15 S, r_49_16 S, i_49_17 S, i_49_18 S, r_49_19 S, r_49_20 S, r_49_21 S, r_49_22 S, r_49_23 S, r_49_24 S, r_49_25 S, i_49_26 S, r_49_27 S, r_49_28 S, r_49_29 S, r_49_30 S, i_49_31 S, i_49_32 S, i_49_33 S, i_49_34 S, i_49_35 S, i_49_36 S, i_49_37 S, r_49_38 S, i_49_39 S, i_49_40 S, r_49_41 S, r_49_42 S, r_49_43 S, i_49_44 S, r_49_45 S, i_49_46 S, i_49_47 S, i_49_48 S, l_53_0 S, l_53_1 S, f_X12_cheapest_b50, f_X12_cheapest_b99, f_X12_cheapest_b106, fm_sz MF2, (pw_s (sz (dF D)) h8).1, nn_le, hn, e6, e5, z1, nn_succ]
        · have hne : ¬ x = -1 := by rw [b3]; exact cne s
          by_cases hlt : costP (dF D) 1 i < x
          · refine ⟨(nn i, costP (dF D) 1 i), ?_, u1 ⟨Or.inr ⟨s, b1, b2, by rw [← b3]; exact hlt⟩, hg⟩, Or.inr ⟨i, rfl, Nat.lt_succ_self _, rfl⟩⟩
            simp (disch := omega) only [bd_eq, pu_ap, if_true, if_false, not_true_eq_false, not_false_eq_true, eq_self, v_49 S, i_49_0 S, i_49_1 S, i_49_2 S, i_49_3 S, i_49_4 S, i_49_5 S, i_49_6 S, i_49_7 S, i_49_8 S, r_49_9 S, r_49_10 S, r_49_11 S, r_49_12 S, r_49_13 S, r_49_14 S, r_49_15 S, r_49_16 S, i_49_17 S, i_49_18 S, r_49_19 S, r_49_20 S, r_49_21 S, r_49_22 S, r_49_23 S, r_49_24 S, r_49_25 S, i_49_26 S, r_49_27 S, r_49_28 S, r_49_29 S, r_49_30 S, i_49_31 S, i_49_32 S, i_49_33 S, i_49_34 S, i_49_35 S, i_49_36 S, i_49_37 S, r_49_38 S, i_49_39 S, i_49_40 S, r_49_41 S, r_49_42 S, r_49_43 S, i_49_44 S, r_49_45 S, i_49_46 S, i_49_47 S, i_49_48 S, l_53_0 S, l_53_1 S, f_X12_cheapest_b50, f_X12_cheapest_b99, f_X12_cheapest_b106, fm_sz MF2, (pw_s (sz (dF D)) h8).1, nn_le, hn, e6, e5, z1, hne, hlt, nn_succ]
          · refine ⟨(b, x), ?_, u2 (Or.inr ⟨s, b1, b2, by rw [← b3]; exact Int32.not_lt.mp hlt⟩), Or.inr ⟨s, b1, by omega, b3⟩⟩
            simp (disch := omega) only [bd_eq, pu_ap, if_true, if_false, not_true_eq_false, not_false_eq_true, eq_self, v_49 S, i_49_0 S, i_49_1 S, i_49_2 S, i_49_3 S, i_49_4 S, i_49_5 S, i_49_6 S, i_49_7 S, i_49_8 S, r_49_9 S, r_49_10 S, r_49_11 S, r_49_12 S, r_49_13 S, r_49_14 S, r_49_15 S, r_49_16 S, i_49_17 S, i_49_18 S, r_49_19 S, r_49_20 S, r_49_21 S, r_49_22 S, r_49_23 S, r_49_24 S, r_49_25 S, i_49_26 S, r_49_27 S, r_49_28 S, r_49_29 S, r_49_30 S, i_49_31 S, i_49_32 S, i_49_33 S, i_49_34 S, i_49_35 S, i_49_36 S, i_49_37 S, r_49_38 S, i_49_39 S, i_49_40 S, r_49_41 S, r_49_42 S, r_49_43 S, i_49_44 S, r_49_45 S, i_49_46 S, i_49_47 S, i_49_48 S, l_53_0 S, l_53_1 S, f_X12_cheapest_b50, f_X12_cheapest_b99, f_X12_cheapest_b106, fm_sz MF2, (pw_s (sz (dF D)) h8).1, nn_le, hn, e6, e5, z1, hne, hlt, nn_succ]
      · rw [bI_f hg] at e5
        refine ⟨(b, x), ?_, u2 (Or.inl hg), ?_⟩
        · simp (disch := omega) only [bd_eq, pu_ap, if_true, if_false, not_true_eq_false, not_false_eq_true, eq_self, v_49 S, i_49_0 S, i_49_1 S, i_49_2 S, i_49_3 S, i_49_4 S, i_49_5 S, i_49_6 S, i_49_7 S, i_49_8 S, r_49_9 S, r_49_10 S, r_49_11 S, r_49_12 S, r_49_13 S, r_49_14 S, r_49_15 S, r_49_16 S, i_49_17 S, i_49_18 S, r_49_19 S, r_49_20 S, r_49_21 S, r_49_22 S, r_49_23 S, r_49_24 S, r_49_25 S, i_49_26 S, r_49_27 S, r_49_28 S, r_49_29 S, r_49_30 S, i_49_31 S, i_49_32 S, i_49_33 S, i_49_34 S, i_49_35 S, i_49_36 S, i_49_37 S, r_49_38 S, i_49_39 S, i_49_40 S, r_49_41 S, r_49_42 S, r_49_43 S, i_49_44 S, r_49_45 S, i_49_46 S, i_49_47 S, i_49_48 S, l_53_0 S, l_53_1 S, f_X12_cheapest_b50, f_X12_cheapest_b99, f_X12_cheapest_b106, fm_sz MF2, (pw_s (sz (dF D)) h8).1, nn_le, hn, e6, e5, nn_succ]
        · rcases hB' with hb | ⟨s, b1, b2, b3⟩
          · exact Or.inl hb
          · exact Or.inr ⟨s, b1, by omega, b3⟩
    · intro N ⟨b, x⟩ ⟨hL, hB⟩
      refine ⟨b, x, ?_, hL, hB⟩
      by_cases k0 : k = 0
      · simp (disch := omega) only [bd_eq, pu_ap, if_true, if_false, not_true_eq_false, not_false_eq_true, eq_self, v_49 S, i_49_0 S, i_49_1 S, i_49_2 S, i_49_3 S, i_49_4 S, i_49_5 S, i_49_6 S, i_49_7 S, i_49_8 S, r_49_9 S, r_49_10 S, r_49_11 S, r_49_12 S, r_49_13 S, r_49_14 S, r_49_15 S, r_49_16 S, i_49_17 S, i_49_18 S, r_49_19 S, r_49_20 S, r_49_21 S, r_49_22 S, r_49_23 S, r_49_24 S, r_49_25 S, i_49_26 S, r_49_27 S, r_49_28 S, r_49_29 S, r_49_30 S, i_49_31 S, i_49_32 S, i_49_33 S, i_49_34 S, i_49_35 S, i_49_36 S, i_49_37 S, r_49_38 S, i_49_39 S, i_49_40 S, r_49_41 S, r_49_42 S, r_49_43 S, i_49_44 S, r_49_45 S, i_49_46 S, i_49_47 S, i_49_48 S, l_53_0 S, l_53_1 S, f_X12_cheapest_b50, fm_sz MF2, (pw_s (sz (dF D)) h8).1, Int32.le_refl, q0, eq_true k0]
      · simp (disch := omega) only [bd_eq, pu_ap, if_true, if_false, not_true_eq_false, not_false_eq_true, eq_self, v_49 S, i_49_0 S, i_49_1 S, i_49_2 S, i_49_3 S, i_49_4 S, i_49_5 S, i_49_6 S, i_49_7 S, i_49_8 S, r_49_9 S, r_49_10 S, r_49_11 S, r_49_12 S, r_49_13 S, r_49_14 S, r_49_15 S, r_49_16 S, i_49_17 S, i_49_18 S, r_49_19 S, r_49_20 S, r_49_21 S, r_49_22 S, r_49_23 S, r_49_24 S, r_49_25 S, i_49_26 S, r_49_27 S, r_49_28 S, r_49_29 S, r_49_30 S, i_49_31 S, i_49_32 S, i_49_33 S, i_49_34 S, i_49_35 S, i_49_36 S, i_49_37 S, r_49_38 S, i_49_39 S, i_49_40 S, r_49_41 S, r_49_42 S, r_49_43 S, i_49_44 S, r_49_45 S, i_49_46 S, i_49_47 S, i_49_48 S, l_53_0 S, l_53_1 S, f_X12_cheapest_b50, fm_sz MF2, (pw_s (sz (dF D)) h8).1, Int32.le_refl, q0, k0]
  obtain ⟨b, x, e4, l4, hb⟩ := main
  have := isL_u l3 l4
  subst this
  refine ⟨v, x, I1, I2, e1, e3, fun _ => ?_, a1.mono (by decide), e2, e4, AgM.of a2 (by decide) (by decide)⟩
  rcases hb with hb | ⟨s, b1, b2, b3⟩
  · exact Or.inl hb
  · refine Or.inr ⟨by rw [b1]; exact nn_ne_neg (by omega), ?_⟩
    rw [b1, b3]
    simp (disch := omega) only [bd_eq, pu_ap, if_true, if_false, not_true_eq_false, not_false_eq_true, eq_self, v_0 S, r_0_0 S, r_0_1 S, r_0_2 S, r_0_3 S, r_0_4 S, r_0_5 S, r_0_6 S, r_0_7 S, r_0_8 S, r_0_9 S, r_0_10 S, r_0_11 S, r_0_12 S, n_0_13 S, i_0_14 S, i_0_15 S, i_0_16 S, i_0_17 S, v_1 S, r_1_0 S, i_1_1 S, i_1_2 S, i_1_3 S, i_1_4 S, i_1_5 S, i_1_6 S, v_3 S, r_3_0 S, r_3_1 S, r_3_2 S, r_3_3 S, i_3_4 S, i_3_5 S, v_8 S, r_8_0 S, r_8_1 S, r_8_2 S, r_8_3 S, i_8_4 S, i_8_5 S, v_13 S, r_13_0 S, r_13_1 S, i_13_2 S, v_16 S, r_16_0 S, r_16_1 S, i_16_2 S, v_19 S, r_19_0 S, r_19_1 S, r_19_2 S, r_19_3 S, i_19_4 S, i_19_5 S, i_19_6 S, i_19_7 S, v_24 S, r_24_0 S, r_24_1 S, r_24_2 S, r_24_3 S, i_24_4 S, j_24_5 S, v_28 S, r_28_0 S, r_28_1 S, r_28_2 S, v_30 S, r_30_0 S, r_30_1 S, r_30_2 S, r_30_3 S, i_30_4 S, i_30_5 S, v_33 S, r_33_0 S, r_33_1 S, r_33_2 S, r_33_3 S, i_33_4 S, i_33_5 S, v_37 S, r_37_0 S, r_37_1 S, i_37_2 S, i_37_3 S, i_37_4 S, f_X2_priceOf, c_given S HF1 h8]
    rfl
-- whose marks together make a face
def togP (F : Fo) (s : Int32) : Int32 := lp (fun p y => if bit s p then y ||| nn (fa F p) else y) (sz F) 0 0
theorem c_together (S : Sw w) (HF : FoC I F) (h8 : sz F ≤ 8) (s : Int32) : f_X2_together 3 s (st w I J) = some (.inl (togP F s), st w I J) := by
  unfold f_X2_together togP
  refine loopL (fun N i y => f_X2_together_b4 N 3 s y (nn i) (st w I J)) (sz F) (fun p y => if bit s p then y ||| nn (fa F p) else y) (fun y => some (.inl y, st w I J)) ?_ ?_ 0 (Nat.zero_le _) (NF_gt (by omega))
  · intro N i y hi
    have hn : ¬ sz F ≤ i := by omega
    by_cases h1 : bit s i
    · simp (disch := omega) only [bd_eq, pu_ap, if_true, if_false, not_true_eq_false, not_false_eq_true, eq_self, v_0 S, r_0_0 S, r_0_1 S, r_0_2 S, r_0_3 S, r_0_4 S, r_0_5 S, r_0_6 S, r_0_7 S, r_0_8 S, r_0_9 S, r_0_10 S, r_0_11 S, r_0_12 S, n_0_13 S, i_0_14 S, i_0_15 S, i_0_16 S, i_0_17 S, v_1 S, r_1_0 S, i_1_1 S, i_1_2 S, i_1_3 S, i_1_4 S, i_1_5 S, i_1_6 S, v_3 S, r_3_0 S, r_3_1 S, r_3_2 S, r_3_3 S, i_3_4 S, i_3_5 S, v_8 S, r_8_0 S, r_8_1 S, r_8_2 S, r_8_3 S, i_8_4 S, i_8_5 S, v_13 S, r_13_0 S, r_13_1 S, i_13_2 S, v_16 S, r_16_0 S, r_16_1 S, i_16_2 S, v_19 S, r_19_0 S, r_19_1 S, r_19_2 S, r_19_3 S, i_19_4 S, i_19_5 S, i_19_6 S, i_19_7 S, v_24 S, r_24_0 S, r_24_1 S, r_24_2 S, r_24_3 S, i_24_4 S, j_24_5 S, v_28 S, r_28_0 S, r_28_1 S, r_28_2 S, v_30 S, r_30_0 S, r_30_1 S, r_30_2 S, r_30_3 S, i_30_4 S, i_30_5 S, v_33 S, r_33_0 S, r_33_1 S, r_33_2 S, r_33_3 S, i_33_4 S, i_33_5 S, v_37 S, r_37_0 S, r_37_1 S, i_37_2 S, i_37_3 S, i_37_4 S, f_X2_together_b4, f_X2_together_b30, fc_sz HF, nn_le, hn, h1, l_4 S, fc_fa HF, nn_succ, eq_true h1]
    · simp (disch := omega) only [bd_eq, pu_ap, if_true, if_false, not_true_eq_false, not_false_eq_true, eq_self, v_0 S, r_0_0 S, r_0_1 S, r_0_2 S, r_0_3 S, r_0_4 S, r_0_5 S, r_0_6 S, r_0_7 S, r_0_8 S, r_0_9 S, r_0_10 S, r_0_11 S, r_0_12 S, n_0_13 S, i_0_14 S, i_0_15 S, i_0_16 S, i_0_17 S, v_1 S, r_1_0 S, i_1_1 S, i_1_2 S, i_1_3 S, i_1_4 S, i_1_5 S, i_1_6 S, v_3 S, r_3_0 S, r_3_1 S, r_3_2 S, r_3_3 S, i_3_4 S, i_3_5 S, v_8 S, r_8_0 S, r_8_1 S, r_8_2 S, r_8_3 S, i_8_4 S, i_8_5 S, v_13 S, r_13_0 S, r_13_1 S, i_13_2 S, v_16 S, r_16_0 S, r_16_1 S, i_16_2 S, v_19 S, r_19_0 S, r_19_1 S, r_19_2 S, r_19_3 S, i_19_4 S, i_19_5 S, i_19_6 S, i_19_7 S, v_24 S, r_24_0 S, r_24_1 S, r_24_2 S, r_24_3 S, i_24_4 S, j_24_5 S, v_28 S, r_28_0 S, r_28_1 S, r_28_2 S, v_30 S, r_30_0 S, r_30_1 S, r_30_2 S, r_30_3 S, i_30_4 S, i_30_5 S, v_33 S, r_33_0 S, r_33_1 S, r_33_2 S, r_33_3 S, i_33_4 S, i_33_5 S, v_37 S, r_37_0 S, r_37_1 S, i_37_2 S, i_37_3 S, i_37_4 S, f_X2_together_b4, f_X2_together_b30, fc_sz HF, nn_le, hn, h1, nn_succ]
  · intro N y
    simp (disch := omega) only [bd_eq, pu_ap, if_true, if_false, not_true_eq_false, not_false_eq_true, eq_self, v_0 S, r_0_0 S, r_0_1 S, r_0_2 S, r_0_3 S, r_0_4 S, r_0_5 S, r_0_6 S, r_0_7 S, r_0_8 S, r_0_9 S, r_0_10 S, r_0_11 S, r_0_12 S, n_0_13 S, i_0_14 S, i_0_15 S, i_0_16 S, i_0_17 S, v_1 S, r_1_0 S, i_1_1 S, i_1_2 S, i_1_3 S, i_1_4 S, i_1_5 S, i_1_6 S, v_3 S, r_3_0 S, r_3_1 S, r_3_2 S, r_3_3 S, i_3_4 S, i_3_5 S, v_8 S, r_8_0 S, r_8_1 S, r_8_2 S, r_8_3 S, i_8_4 S, i_8_5 S, v_13 S, r_13_0 S, r_13_1 S, i_13_2 S, v_16 S, r_16_0 S, r_16_1 S, i_16_2 S, v_19 S, r_19_0 S, r_19_1 S, r_19_2 S, r_19_3 S, i_19_4 S, i_19_5 S, i_19_6 S, i_19_7 S, v_24 S, r_24_0 S, r_24_1 S, r_24_2 S, r_24_3 S, i_24_4 S, j_24_5 S, v_28 S, r_28_0 S, r_28_1 S, r_28_2 S, v_30 S, r_30_0 S, r_30_1 S, r_30_2 S, r_30_3 S, i_30_4 S, i_30_5 S, v_33 S, r_33_0 S, r_33_1 S, r_33_2 S, r_33_3 S, i_33_4 S, i_33_5 S, v_37 S, r_37_0 S, r_37_1 S, i_37_2 S, i_37_3 S, i_37_4 S, f_X2_together_b4, fc_sz HF, Int32.le_refl]
theorem m_madeIn (S : Sw w) (HF : FoM I F) (h8 : sz F ≤ 8) (k41 : Nat → Int32 → Int32 → Int32 → Mo Int32) (x b s : Int32) : f_X12_made_b51 k41 NF 49 x b s 0 0 (st w I J) = (if (togP F s = x : Prop) then (if (b = (-1) : Prop) then (f_X12_made_b114 k41 49 x s) else bd (f_X12_ones s) fun v3 => bd (f_X12_ones b) fun v4 => if (v4 < v3 : Prop) then (f_X12_made_b118 k41 49 x b s) else f_X12_made_b114 k41 49 x s) else f_X12_made_b118 k41 49 x b s) (st w I J) := by
  unfold togP
  refine loopL (fun N i y => f_X12_made_b51 k41 N 49 x b s y (nn i) (st w I J)) (sz F) (fun p y => if bit s p then y ||| nn (fa F p) else y) (fun y => (if (y = x : Prop) then (if (b = (-1) : Prop) then (f_X12_made_b114 k41 49 x s) else bd (f_X12_ones s) fun v3 => bd (f_X12_ones b) fun v4 => if (v4 < v3 : Prop) then (f_X12_made_b118 k41 49 x b s) else f_X12_made_b114 k41 49 x s) else f_X12_made_b118 k41 49 x b s) (st w I J)) ?_ ?_ 0 (Nat.zero_le _) (NF_gt (by omega))
  · intro N i y hi
    have hn : ¬ sz F ≤ i := by omega
    by_cases h1 : bit s i
    · simp (disch := omega) only [bd_eq, pu_ap, if_true, if_false, not_true_eq_false, not_false_eq_true, eq_self, v_49 S, i_49_0 S, i_49_1 S, i_49_2 S, i_49_3 S, i_49_4 S, i_49_5 S, i_49_6 S, i_49_7 S, i_49_8 S, r_49_9 S, r_49_10 S, r_49_11 S, r_49_12 S, r_49_13 S, r_49_14 S, r_49_15 S, r_49_16 S, i_49_17 S, i_49_18 S, r_49_19 S, r_49_20 S, r_49_21 S, r_49_22 S, r_49_23 S, r_49_24 S, r_49_25 S, i_49_26 S, r_49_27 S, r_49_28 S, r_49_29 S, r_49_30 S, i_49_31 S, i_49_32 S, i_49_33 S, i_49_34 S, i_49_35 S, i_49_36 S, i_49_37 S, r_49_38 S, i_49_39 S, i_49_40 S, r_49_41 S, r_49_42 S, r_49_43 S, i_49_44 S, r_49_45 S, i_49_46 S, i_49_47 S, i_49_48 S, l_53_0 S, l_53_1 S, f_X12_made_b51, f_X12_made_b83, fm_sz HF, nn_le, hn, m_has, bI_0, h1, m_faceOf S HF h8, nn_succ, eq_true h1]
    · simp (disch := omega) only [bd_eq, pu_ap, if_true, if_false, not_true_eq_false, not_false_eq_true, eq_self, v_49 S, i_49_0 S, i_49_1 S, i_49_2 S, i_49_3 S, i_49_4 S, i_49_5 S, i_49_6 S, i_49_7 S, i_49_8 S, r_49_9 S, r_49_10 S, r_49_11 S, r_49_12 S, r_49_13 S, r_49_14 S, r_49_15 S, r_49_16 S, i_49_17 S, i_49_18 S, r_49_19 S, r_49_20 S, r_49_21 S, r_49_22 S, r_49_23 S, r_49_24 S, r_49_25 S, i_49_26 S, r_49_27 S, r_49_28 S, r_49_29 S, r_49_30 S, i_49_31 S, i_49_32 S, i_49_33 S, i_49_34 S, i_49_35 S, i_49_36 S, i_49_37 S, r_49_38 S, i_49_39 S, i_49_40 S, r_49_41 S, r_49_42 S, r_49_43 S, i_49_44 S, r_49_45 S, i_49_46 S, i_49_47 S, i_49_48 S, l_53_0 S, l_53_1 S, f_X12_made_b51, f_X12_made_b83, fm_sz HF, nn_le, hn, m_has, bI_0, h1, Int32.or_zero, nn_succ]
  · intro N y
    simp (disch := omega) only [bd_eq, pu_ap, if_true, if_false, not_true_eq_false, not_false_eq_true, eq_self, v_49 S, i_49_0 S, i_49_1 S, i_49_2 S, i_49_3 S, i_49_4 S, i_49_5 S, i_49_6 S, i_49_7 S, i_49_8 S, r_49_9 S, r_49_10 S, r_49_11 S, r_49_12 S, r_49_13 S, r_49_14 S, r_49_15 S, r_49_16 S, i_49_17 S, i_49_18 S, r_49_19 S, r_49_20 S, r_49_21 S, r_49_22 S, r_49_23 S, r_49_24 S, r_49_25 S, i_49_26 S, r_49_27 S, r_49_28 S, r_49_29 S, r_49_30 S, i_49_31 S, i_49_32 S, i_49_33 S, i_49_34 S, i_49_35 S, i_49_36 S, i_49_37 S, r_49_38 S, i_49_39 S, i_49_40 S, r_49_41 S, r_49_42 S, r_49_43 S, i_49_44 S, r_49_45 S, i_49_46 S, i_49_47 S, i_49_48 S, l_53_0 S, l_53_1 S, f_X12_made_b51, fm_sz HF, Int32.le_refl]
theorem b_made (S : Sw w) (W : WD D) (x : Int32) : Bod w D (f_X11_made_b15 NF 0 x (-1) 9 0) (f_X12_made_b41 NF 49 x (-1) (nn (2 ^ sz (dF D)) - 1)) := by
  intro I I' J J' HC HM H0
  have HCs := HC
  have HMs := HM
  obtain ⟨⟨HF, HA, HL, HW, HT, -⟩, -, -⟩ := HC
  obtain ⟨⟨MF, MA, ML, MW, MT, -⟩, -, -⟩ := HM
  have Ws := W
  obtain ⟨WF, ⟨WA, -, WB, -⟩, -, WL, WW, -⟩ := W
  have h8 := WF.1
  have h40 := WA.1
  have T := StS_43 S
  have U := RoS_497 S
  have hM := (pw_s (sz (dF D)) h8).2.2
  have hM0 : 0 < 2 ^ sz (dF D) := Nat.two_pow_pos _
  have lc : ∃ v, f_X11_made_b15 NF 0 x (-1) 9 0 (st w I J) = some (.inl v, st w I J) ∧ isL 0 (2 ^ sz (dF D)) (fun s => togP (dF D) (nn s) = x) (fun s => bc32 (nn s)) v := by
    refine loopQ (fun N i (z : Int32 × Int32) => f_X11_made_b15 N 0 x z.1 z.2 (nn i) (st w I J)) (2 ^ sz (dF D)) (fun i z => isL 0 i (fun s => togP (dF D) (nn s) = x) (fun s => bc32 (nn s)) z.1 ∧ (z.1 = -1 ∧ z.2 = 9 ∨ ∃ s, z.1 = nn s ∧ s < i ∧ z.2 = bc32 (nn s))) (fun z => ∃ v, z = some (.inl v, st w I J) ∧ isL 0 (2 ^ sz (dF D)) (fun s => togP (dF D) (nn s) = x) (fun s => bc32 (nn s)) v) ?_ ?_ (2 ^ sz (dF D)) 0 (-1, 9) NF (by omega) (NF_gt (by omega)) ⟨isL_0 _ _ _, Or.inl ⟨rfl, rfl⟩⟩
    · intro N i ⟨b, bc⟩ hi ⟨hL, hB⟩
      left
      have hL' : isL 0 i (fun s => togP (dF D) (nn s) = x) (fun s => bc32 (nn s)) b := hL
      have hB' : b = -1 ∧ bc = 9 ∨ ∃ s, b = nn s ∧ s < i ∧ bc = bc32 (nn s) := hB
      obtain ⟨u1, u2⟩ := isL_up hL' (Nat.zero_le _) (by omega)
      have hn : ¬ 2 ^ sz (dF D) - 1 < i := by omega
      by_cases hlt : bc ≤ bc32 (nn i)
      · refine ⟨(b, bc), ?_, u2 (Or.inr ?_), ?_⟩
        · simp (disch := omega) only [bd_eq, pu_ap, if_true, if_false, not_true_eq_false, not_false_eq_true, eq_self, v_0 S, r_0_0 S, r_0_1 S, r_0_2 S, r_0_3 S, r_0_4 S, r_0_5 S, r_0_6 S, r_0_7 S, r_0_8 S, r_0_9 S, r_0_10 S, r_0_11 S, r_0_12 S, n_0_13 S, i_0_14 S, i_0_15 S, i_0_16 S, i_0_17 S, v_1 S, r_1_0 S, i_1_1 S, i_1_2 S, i_1_3 S, i_1_4 S, i_1_5 S, i_1_6 S, v_3 S, r_3_0 S, r_3_1 S, r_3_2 S, r_3_3 S, i_3_4 S, i_3_5 S, v_8 S, r_8_0 S, r_8_1 S, r_8_2 S, r_8_3 S, i_8_4 S, i_8_5 S, v_13 S, r_13_0 S, r_13_1 S, i_13_2 S, v_16 S, r_16_0 S, r_16_1 S, i_16_2 S, v_19 S, r_19_0 S, r_19_1 S, r_19_2 S, r_19_3 S, i_19_4 S, i_19_5 S, i_19_6 S, i_19_7 S, v_24 S, r_24_0 S, r_24_1 S, r_24_2 S, r_24_3 S, i_24_4 S, j_24_5 S, v_28 S, r_28_0 S, r_28_1 S, r_28_2 S, v_30 S, r_30_0 S, r_30_1 S, r_30_2 S, r_30_3 S, i_30_4 S, i_30_5 S, v_33 S, r_33_0 S, r_33_1 S, r_33_2 S, r_33_3 S, i_33_4 S, i_33_5 S, v_37 S, r_37_0 S, r_37_1 S, i_37_2 S, i_37_3 S, i_37_4 S, fc_sz HF, fc_ak HF, fc_fa HF, fc_te HF, fc_pr HF, fc_sy HF, l_4 S, l_5 S, l_6 S, l_7 S, e_v T, e_i4 T, e_i5 T, e_r0 T, e_r1 T, e_r2 T, e_r3 T, e_l1 T, e_l2 T, e_l3 T, sr_hg HA, sr_yr HA, sr_mo HA, sr_tk HA, sr_sa HA, c_taker T HA WA h8, c_sitter T HA WA h8, c_hallOf T HA WA h8, c_faceOn T HA WA h8, c_yearOf T HA WA h8, c_nearest S HF WF, c_never S HF h8, c_alike S HF, nn_le, nn_succ, bI_0, Int32.or_zero, Int32.add_zero, Int32.le_refl, f_X11_made_b15, f_X11_made_b58, c_every S HF h8, nn_lt, hn, hlt]
        · rcases hB' with ⟨b1, b2⟩ | ⟨s, b1, b2, b3⟩
          · rw [b2] at hlt
            exact absurd (bc_le i (by omega)) (Int32.not_lt.mpr hlt)
          · exact ⟨s, b1, b2, by rw [← b3]; exact hlt⟩
        · rcases hB' with hb | ⟨s, b1, b2, b3⟩
          · exact Or.inl hb
          · exact Or.inr ⟨s, b1, by omega, b3⟩
      · by_cases hg : togP (dF D) (nn i) = x
        · refine ⟨(nn i, bc32 (nn i)), ?_, u1 ⟨?_, hg⟩, Or.inr ⟨i, rfl, Nat.lt_succ_self _, rfl⟩⟩
          · simp (disch := omega) only [bd_eq, pu_ap, if_true, if_false, not_true_eq_false, not_false_eq_true, eq_self, v_0 S, r_0_0 S, r_0_1 S, r_0_2 S, r_0_3 S, r_0_4 S, r_0_5 S, r_0_6 S, r_0_7 S, r_0_8 S, r_0_9 S, r_0_10 S, r_0_11 S, r_0_12 S, n_0_13 S, i_0_14 S, i_0_15 S, i_0_16 S, i_0_17 S, v_1 S, r_1_0 S, i_1_1 S, i_1_2 S, i_1_3 S, i_1_4 S, i_1_5 S, i_1_6 S, v_3 S, r_3_0 S, r_3_1 S, r_3_2 S, r_3_3 S, i_3_4 S, i_3_5 S, v_8 S, r_8_0 S, r_8_1 S, r_8_2 S, r_8_3 S, i_8_4 S, i_8_5 S, v_13 S, r_13_0 S, r_13_1 S, i_13_2 S, v_16 S, r_16_0 S, r_16_1 S, i_16_2 S, v_19 S, r_19_0 S, r_19_1 S, r_19_2 S, r_19_3 S, i_19_4 S, i_19_5 S, i_19_6 S, i_19_7 S, v_24 S, r_24_0 S, r_24_1 S, r_24_2 S, r_24_3 S, i_24_4 S, j_24_5 S, v_28 S, r_28_0 S, r_28_1 S, r_28_2 S, v_30 S, r_30_0 S, r_30_1 S, r_30_2 S, r_30_3 S, i_30_4 S, i_30_5 S, v_33 S, r_33_0 S, r_33_1 S, r_33_2 S, r_33_3 S, i_33_4 S, i_33_5 S, v_37 S, r_37_0 S, r_37_1 S, i_37_2 S, i_37_3 S, i_37_4 S, fc_sz HF, fc_ak HF, fc_fa HF, fc_te HF, fc_pr HF, fc_sy HF, l_4 S, l_5 S, l_6 S, l_7 S, e_v T, e_i4 T, e_i5 T, e_r0 T, e_r1 T, e_r2 T, e_r3 T, e_l1 T, e_l2 T, e_l3 T, sr_hg HA, sr_yr HA, sr_mo HA, sr_tk HA, sr_sa HA, c_taker T HA WA h8, c_sitter T HA WA h8, c_hallOf T HA WA h8, c_faceOn T HA WA h8, c_yearOf T HA WA h8, c_nearest S HF WF, c_never S HF h8, c_alike S HF, nn_le, nn_succ, bI_0, Int32.or_zero, Int32.add_zero, Int32.le_refl, f_X11_made_b15, f_X11_made_b58, c_every S HF h8, nn_lt, hn, hlt, c_together S HF h8, hg]
          · rcases hB' with ⟨b1, b2⟩ | ⟨s, b1, b2, b3⟩
            · exact Or.inl b1
            · exact Or.inr ⟨s, b1, b2, by rw [← b3]; exact Int32.not_le.mp hlt⟩
        · refine ⟨(b, bc), ?_, u2 (Or.inl hg), ?_⟩
          · simp (disch := omega) only [bd_eq, pu_ap, if_true, if_false, not_true_eq_false, not_false_eq_true, eq_self, v_0 S, r_0_0 S, r_0_1 S, r_0_2 S, r_0_3 S, r_0_4 S, r_0_5 S, r_0_6 S, r_0_7 S, r_0_8 S, r_0_9 S, r_0_10 S, r_0_11 S, r_0_12 S, n_0_13 S, i_0_14 S, i_0_15 S, i_0_16 S, i_0_17 S, v_1 S, r_1_0 S, i_1_1 S, i_1_2 S, i_1_3 S, i_1_4 S, i_1_5 S, i_1_6 S, v_3 S, r_3_0 S, r_3_1 S, r_3_2 S, r_3_3 S, i_3_4 S, i_3_5 S, v_8 S, r_8_0 S, r_8_1 S, r_8_2 S, r_8_3 S, i_8_4 S, i_8_5 S, v_13 S, r_13_0 S, r_13_1 S, i_13_2 S, v_16 S, r_16_0 S, r_16_1 S, i_16_2 S, v_19 S, r_19_0 S, r_19_1 S, r_19_2 S, r_19_3 S, i_19_4 S, i_19_5 S, i_19_6 S, i_19_7 S, v_24 S, r_24_0 S, r_24_1 S, r_24_2 S, r_24_3 S, i_24_4 S, j_24_5 S, v_28 S, r_28_0 S, r_28_1 S, r_28_2 S, v_30 S, r_30_0 S, r_30_1 S, r_30_2 S, r_30_3 S, i_30_4 S, i_30_5 S, v_33 S, r_33_0 S, r_33_1 S, r_33_2 S, r_33_3 S, i_33_4 S, i_33_5 S, v_37 S, r_37_0 S, r_37_1 S, i_37_2 S, i_37_3 S, i_37_4 S, fc_sz HF, fc_ak HF, fc_fa HF, fc_te HF, fc_pr HF, fc_sy HF, l_4 S, l_5 S, l_6 S, l_7 S, e_v T, e_i4 T, e_i5 T, e_r0 T, e_r1 T, e_r2 T, e_r3 T, e_l1 T, e_l2 T, e_l3 T, sr_hg HA, sr_yr HA, sr_mo HA, sr_tk HA, sr_sa HA, c_taker T HA WA h8, c_sitter T HA WA h8, c_hallOf T HA WA h8, c_faceOn T HA WA h8, c_yearOf T HA WA h8, c_nearest S HF WF, c_never S HF h8, c_alike S HF, nn_le, nn_succ, bI_0, Int32.or_zero, Int32.add_zero, Int32.le_refl, f_X11_made_b15, f_X11_made_b58, c_every S HF h8, nn_lt, hn, hlt, c_together S HF h8, hg]
          · rcases hB' with hb | ⟨s, b1, b2, b3⟩
            · exact Or.inl hb
            · exact Or.inr ⟨s, b1, by omega, b3⟩
    · intro N ⟨b, bc⟩ ⟨hL, hB⟩
      refine ⟨b, ?_, hL⟩
      have hn : 2 ^ sz (dF D) - 1 < 2 ^ sz (dF D) := by omega
      simp (disch := omega) only [bd_eq, pu_ap, if_true, if_false, not_true_eq_false, not_false_eq_true, eq_self, v_0 S, r_0_0 S, r_0_1 S, r_0_2 S, r_0_3 S, r_0_4 S, r_0_5 S, r_0_6 S, r_0_7 S, r_0_8 S, r_0_9 S, r_0_10 S, r_0_11 S, r_0_12 S, n_0_13 S, i_0_14 S, i_0_15 S, i_0_16 S, i_0_17 S, v_1 S, r_1_0 S, i_1_1 S, i_1_2 S, i_1_3 S, i_1_4 S, i_1_5 S, i_1_6 S, v_3 S, r_3_0 S, r_3_1 S, r_3_2 S, r_3_3 S, i_3_4 S, i_3_5 S, v_8 S, r_8_0 S, r_8_1 S, r_8_2 S, r_8_3 S, i_8_4 S, i_8_5 S, v_13 S, r_13_0 S, r_13_1 S, i_13_2 S, v_16 S, r_16_0 S, r_16_1 S, i_16_2 S, v_19 S, r_19_0 S, r_19_1 S, r_19_2 S, r_19_3 S, i_19_4 S, i_19_5 S, i_19_6 S, i_19_7 S, v_24 S, r_24_0 S, r_24_1 S, r_24_2 S, r_24_3 S, i_24_4 S, j_24_5 S, v_28 S, r_28_0 S, r_28_1 S, r_28_2 S, v_30 S, r_30_0 S, r_30_1 S, r_30_2 S, r_30_3 S, i_30_4 S, i_30_5 S, v_33 S, r_33_0 S, r_33_1 S, r_33_2 S, r_33_3 S, i_33_4 S, i_33_5 S, v_37 S, r_37_0 S, r_37_1 S, i_37_2 S, i_37_3 S, i_37_4 S, fc_sz HF, fc_ak HF, fc_fa HF, fc_te HF, fc_pr HF, fc_sy HF, l_4 S, l_5 S, l_6 S, l_7 S, e_v T, e_i4 T, e_i5 T, e_r0 T, e_r1 T, e_r2 T, e_r3 T, e_l1 T, e_l2 T, e_l3 T, sr_hg HA, sr_yr HA, sr_mo HA, sr_tk HA, sr_sa HA, c_taker T HA WA h8, c_sitter T HA WA h8, c_hallOf T HA WA h8, c_faceOn T HA WA h8, c_yearOf T HA WA h8, c_nearest S HF WF, c_never S HF h8, c_alike S HF, nn_le, nn_succ, bI_0, Int32.or_zero, Int32.add_zero, Int32.le_refl, f_X11_made_b15, c_every S HF h8, nn_lt, hn]
  have lm : ∃ v, f_X12_made_b41 NF 49 x (-1) (nn (2 ^ sz (dF D)) - 1) (st w I' J') = some (.inl v, st w I' J') ∧ isL 0 (2 ^ sz (dF D)) (fun s => togP (dF D) (nn s) = x) (fun s => bc32 (nn s)) v := by
    refine loopDn (by omega) (fun N b y => f_X12_made_b41 N 49 x b y (st w I' J')) _ _ (st w I' J') ?_ ?_
    · intro N s b hs hL
      have h0 : ¬ nn s < 0 := nn_nneg (by omega)
      have o1 := m_ones (z := s) (by omega) (σ := st w I' J')
      have e0 := (show f_X12_made_b41 (N + 1) 49 x b (nn s) (st w I' J') = f_X12_made_b51 (f_X12_made_b41 N) NF 49 x b (nn s) 0 0 (st w I' J') from by rw [f_X12_made_b41, if_neg h0]).trans (m_madeIn S MF h8 (f_X12_made_b41 N) x b (nn s))
      by_cases hg : togP (dF D) (nn s) = x
      · rcases hL with ⟨l1, l2⟩ | ⟨t, l1, l2, l3, l4, l5, l6⟩
        · left
          subst l1
          refine ⟨?_, Or.inl rfl, hg⟩
          show f_X12_made_b41 (N + 1) 49 x (-1) (nn s) (st w I' J') = _
          rw [e0, if_pos hg, if_pos rfl]
          rfl
        · have hne : ¬ b = -1 := by rw [l3]; exact nn_ne_neg (by omega)
          have o2 := m_ones (z := t) (by omega) (σ := st w I' J')
          rw [← l3] at o2
          by_cases hlt : bc32 b < bc32 (nn s)
          · right
            refine ⟨?_, Or.inr ⟨t, l3, l2, by rw [l3] at hlt; exact hlt⟩⟩
            show f_X12_made_b41 (N + 1) 49 x b (nn s) (st w I' J') = _
            rw [e0, if_pos hg, if_neg hne, bd_st o1, bd_st o2, if_pos hlt]
            rfl
          · left
            refine ⟨?_, Or.inr ⟨t, l3, l2, by rw [l3] at hlt; exact Int32.not_lt.mp hlt⟩, hg⟩
            show f_X12_made_b41 (N + 1) 49 x b (nn s) (st w I' J') = _
            rw [e0, if_pos hg, if_neg hne, bd_st o1, bd_st o2, if_neg hlt]
            rfl
      · right
        refine ⟨?_, Or.inl hg⟩
        show f_X12_made_b41 (N + 1) 49 x b (nn s) (st w I' J') = _
        rw [e0, if_neg hg]
        rfl
    · intro N b
      simp (disch := omega) only [bd_eq, pu_ap, if_true, if_false, not_true_eq_false, not_false_eq_true, eq_self, v_49 S, i_49_0 S, i_49_1 S, i_49_2 S, i_49_3 S, i_49_4 S, i_49_5 S, i_49_6 S, i_49_7 S, i_49_8 S, r_49_9 S, r_49_10 S, r_49_11 S, r_49_12 S, r_49_13 S, r_49_14 S, r_49_15 S, r_49_16 S, i_49_17 S, i_49_18 S, r_49_19 S, r_49_20 S, r_49_21 S, r_49_22 S, r_49_23 S, r_49_24 S, r_49_25 S, i_49_26 S, r_49_27 S, r_49_28 S, r_49_29 S, r_49_30 S, i_49_31 S, i_49_32 S, i_49_33 S, i_49_34 S, i_49_35 S, i_49_36 S, i_49_37 S, r_49_38 S, i_49_39 S, i_49_40 S, r_49_41 S, r_49_42 S, r_49_43 S, i_49_44 S, r_49_45 S, i_49_46 S, i_49_47 S, i_49_48 S, l_53_0 S, l_53_1 S, f_X12_made_b41, show ((-1 : Int32) < 0) = True from by decide]
  obtain ⟨v, e1, l1⟩ := lc
  obtain ⟨v', e2, l2⟩ := lm
  have := isL_u l1 l2
  subst this
  exact QQ.mk v e1 e2
end SETS2
