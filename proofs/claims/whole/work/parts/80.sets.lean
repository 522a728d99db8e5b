/-! PURE PART: sets of persons: who can take all of some, the least of such sets -/
abbrev bit (x : Int32) (b : Nat) : Prop := ((x >>> (nn b &&& 31)) &&& 1) = 1
abbrev enoB (c : Nat → Int32) (n : Nat) (s p : Int32) : Prop := ∀ b, b < n → bit p b → ¬ (c b &&& s) = 0
/-- the least of the good ones between lo and hi: fewest cost, then lowest -/
def isL (lo hi : Nat) (g : Nat → Prop) (c : Nat → Int32) (v : Int32) : Prop := (v = -1 ∧ ∀ s, lo ≤ s → s < hi → ¬ g s) ∨ ∃ s, lo ≤ s ∧ s < hi ∧ v = nn s ∧ g s ∧ (∀ t, lo ≤ t → t < hi → g t → c s ≤ c t) ∧ ∀ t, lo ≤ t → t < s → g t → c s < c t
theorem isL_u {lo hi : Nat} {g : Nat → Prop} {c : Nat → Int32} {v v' : Int32} (h : isL lo hi g c v) (h' : isL lo hi g c v') : v = v' := by
  rcases h with ⟨h1, h2⟩ | ⟨s, a1, a2, a3, a4, a5, a6⟩ <;> rcases h' with ⟨k1, k2⟩ | ⟨t, b1, b2, b3, b4, b5, b6⟩
  · rw [h1, k1]
  · exact absurd b4 (h2 t b1 b2)
  · exact absurd a4 (k2 s a1 a2)
  · rw [a3, b3]
    rcases Nat.lt_trichotomy s t with h | h | h
    · exact absurd (b6 s a1 h a4) (Int32.not_lt.mpr (a5 t b1 b2 b4))
    · rw [h]
    · exact absurd (a6 t b1 h b4) (Int32.not_lt.mpr (b5 s a1 a2 a4))
theorem isL_0 (k : Nat) (g : Nat → Prop) (c : Nat → Int32) : isL k k g c (-1) := Or.inl ⟨rfl, fun s h1 h2 => by omega⟩
/-- upwards: the next one is taken if it is good and costs less -/
theorem isL_up {lo i : Nat} {g : Nat → Prop} {c : Nat → Int32} {v : Int32} (h : isL lo i g c v) (hi : lo ≤ i) (hb : i < 2147483647) : ((v = -1 ∨ ∃ s, v = nn s ∧ s < i ∧ c i < c s) ∧ g i → isL lo (i + 1) g c (nn i)) ∧ (¬ g i ∨ (∃ s, v = nn s ∧ s < i ∧ c s ≤ c i) → isL lo (i + 1) g c v) := by
  constructor
  · rintro ⟨h1, h2⟩
    refine Or.inr ⟨i, hi, Nat.lt_succ_self _, rfl, h2, ?_, ?_⟩
    · intro t ht1 ht2 ht3
      by_cases e : t = i
      · rw [e]; exact Int32.le_refl _
      · rcases h with ⟨k1, k2⟩ | ⟨s, a1, a2, a3, a4, a5, a6⟩
        · exact absurd ht3 (k2 t ht1 (by omega))
        · rcases h1 with h1 | ⟨s', q1, q2, q3⟩
          · exact absurd (a3.symm.trans h1) (nn_ne_neg (by omega))
          · rw [a3] at q1
            rw [nn_eq (by omega) (by omega)] at q1
            subst q1
            exact Int32.le_of_lt (Int32.lt_of_lt_of_le q3 (a5 t ht1 (by omega) ht3))
    · intro t ht1 ht2 ht3
      rcases h with ⟨k1, k2⟩ | ⟨s, a1, a2, a3, a4, a5, a6⟩
      · exact absurd ht3 (k2 t ht1 ht2)
      · rcases h1 with h1 | ⟨s', q1, q2, q3⟩
        · exact absurd (a3.symm.trans h1) (nn_ne_neg (by omega))
        · rw [a3] at q1
          rw [nn_eq (by omega) (by omega)] at q1
          subst q1
          exact Int32.lt_of_lt_of_le q3 (a5 t ht1 ht2 ht3)
  · intro h1
    rcases h with ⟨k1, k2⟩ | ⟨s, a1, a2, a3, a4, a5, a6⟩
    · rcases h1 with h1 | ⟨s', q1, q2, q3⟩
      · refine Or.inl ⟨k1, fun t ht1 ht2 => ?_⟩
        by_cases e : t = i
        · rw [e]; exact h1
        · exact k2 t ht1 (by omega)
      · exact absurd (q1.symm.trans k1) (nn_ne_neg (by omega))
    · refine Or.inr ⟨s, a1, by omega, a3, a4, ?_, a6⟩
      intro t ht1 ht2 ht3
      by_cases e : t = i
      · rcases h1 with h1 | ⟨s', q1, q2, q3⟩
        · rw [e] at ht3; exact absurd ht3 h1
        · rw [a3] at q1
          rw [nn_eq (by omega) (by omega)] at q1
          subst q1
          rw [e]; exact q3
      · exact a5 t ht1 (by omega) ht3
/-- downwards: the next one is taken if it is good and costs no more -/
theorem isL_dn {i hi : Nat} {g : Nat → Prop} {c : Nat → Int32} {v : Int32} (h : isL (i + 1) hi g c v) (hi1 : i < hi) (hb : hi < 2147483647) : ((v = -1 ∨ ∃ s, v = nn s ∧ s < hi ∧ c i ≤ c s) ∧ g i → isL i hi g c (nn i)) ∧ (¬ g i ∨ (∃ s, v = nn s ∧ s < hi ∧ c s < c i) → isL i hi g c v) := by
  constructor
  · rintro ⟨h1, h2⟩
    refine Or.inr ⟨i, Nat.le_refl _, hi1, rfl, h2, ?_, fun t ht1 ht2 => by omega⟩
    intro t ht1 ht2 ht3
    by_cases e : t = i
    · rw [e]; exact Int32.le_refl _
    · rcases h with ⟨k1, k2⟩ | ⟨s, a1, a2, a3, a4, a5, a6⟩
      · exact absurd ht3 (k2 t (by omega) ht2)
      · rcases h1 with h1 | ⟨s', q1, q2, q3⟩
        · exact absurd (a3.symm.trans h1) (nn_ne_neg (by omega))
        · rw [a3] at q1
          rw [nn_eq (by omega) (by omega)] at q1
          subst q1
          exact Int32.le_trans q3 (a5 t (by omega) ht2 ht3)
  · intro h1
    rcases h with ⟨k1, k2⟩ | ⟨s, a1, a2, a3, a4, a5, a6⟩
    · rcases h1 with h1 | ⟨s', q1, q2, q3⟩
      · refine Or.inl ⟨k1, fun t ht1 ht2 => ?_⟩
        by_cases e : t = i
        · rw [e]; exact h1
        · exact k2 t (by omega) ht2
      · exact absurd (q1.symm.trans k1) (nn_ne_neg (by omega))
    · refine Or.inr ⟨s, by omega, a2, a3, a4, ?_, ?_⟩
      · intro t ht1 ht2 ht3
        by_cases e : t = i
        · rcases h1 with h1 | ⟨s', q1, q2, q3⟩
          · rw [e] at ht3; exact absurd ht3 h1
          · rw [a3] at q1
            rw [nn_eq (by omega) (by omega)] at q1
            subst q1
            rw [e]; exact Int32.le_of_lt q3
        · exact a5 t (by omega) ht2 ht3
      · intro t ht1 ht2 ht3
        by_cases e : t = i
        · rcases h1 with h1 | ⟨s', q1, q2, q3⟩
          · rw [e] at ht3; exact absurd ht3 h1
          · rw [a3] at q1
            rw [nn_eq (by omega) (by omega)] at q1
            subst q1
            rw [e]; exact q3
        · exact a6 t (by omega) ht2 ht3
section SETS
variable {w : Wd} {I I' : Is} {J J' : Js} {F : Fo} {A : At} {L : Lw}
theorem c_look (S : Sw w) (HF : FoC I F) (h8 : sz F ≤ 8) (HA : StR I 43 A) (HL : LwC I L) (WL : LwW L) : ∃ I1, f_X7_look 30 43 (st w I J) = some (.inl (), st w I1 J) ∧ Ag [15, 29, 31] I I1 ∧ ∀ b, b < sz F → I1 31 b = canB F L A b := by
  have T := StS_43 S
  unfold f_X7_look
  refine loopQ (fun N i (I1 : Is) => f_X7_look_b2 N 30 43 (nn i) (st w I1 J)) (sz F) (fun i I1 => Ag [15, 29, 31] I I1 ∧ ∀ b, b < i → I1 31 b = canB F L A b) (fun z => ∃ I1, z = some (.inl (), st w I1 J) ∧ Ag [15, 29, 31] I I1 ∧ ∀ b, b < sz F → I1 31 b = canB F L A b) ?_ ?_ (sz F) 0 I NF (by omega) (NF_gt (by omega)) ⟨Ag.refl _ _, fun b hb => by omega⟩
  · intro N i I1 hi ⟨a1, h1⟩
    left
    have HF1 := HF.ag a1 (by decide)
    have HA1 := HA.ag a1 (by decide)
    have HL1 := HL.ag a1 (by decide) (by decide)
    obtain ⟨I2, e2, a2⟩ := c_takersOf (J := J) S HF1 h8 T (by decide) HA1 HL1 WL hi
    have hn : ¬ sz F ≤ i := by omega
    refine ⟨up2 I2 31 i (canB F L A i), ?_, (a1.trans (a2.mono (by decide))).up (by decide), fun b hb => ?_⟩
    · simp (disch := omega) only [bd_eq, pu_ap, if_true, if_false, not_true_eq_false, not_false_eq_true, eq_self, v_0 S, r_0_0 S, r_0_1 S, r_0_2 S, r_0_3 S, r_0_4 S, r_0_5 S, r_0_6 S, r_0_7 S, r_0_8 S, r_0_9 S, r_0_10 S, r_0_11 S, r_0_12 S, n_0_13 S, i_0_14 S, i_0_15 S, i_0_16 S, i_0_17 S, v_1 S, r_1_0 S, i_1_1 S, i_1_2 S, i_1_3 S, i_1_4 S, i_1_5 S, i_1_6 S, v_3 S, r_3_0 S, r_3_1 S, r_3_2 S, r_3_3 S, i_3_4 S, i_3_5 S, v_8 S, r_8_0 S, r_8_1 S, r_8_2 S, r_8_3 S, i_8_4 S, i_8_5 S, v_13 S, r_13_0 S, r_13_1 S, i_13_2 S, v_16 S, r_16_0 S, r_16_1 S, i_16_2 S, v_19 S, r_19_0 S, r_19_1 S, r_19_2 S, r_19_3 S, i_19_4 S, i_19_5 S, i_19_6 S, i_19_7 S, v_24 S, r_24_0 S, r_24_1 S, r_24_2 S, r_24_3 S, i_24_4 S, j_24_5 S, v_28 S, r_28_0 S, r_28_1 S, r_28_2 S, v_30 S, r_30_0 S, r_30_1 S, r_30_2 S, r_30_3 S, i_30_4 S, i_30_5 S, v_33 S, r_33_0 S, r_33_1 S, r_33_2 S, r_33_3 S, i_33_4 S, i_33_5 S, v_37 S, r_37_0 S, r_37_1 S, i_37_2 S, i_37_3 S, i_37_4 S, f_X7_look_b2, fc_sz HF1, nn_le, hn, e2, s_31 S, nn_succ]
    · by_cases e : b = i
      · rw [e, up2_s]
      · rw [up2_k e, a2.at b (by decide)]
        exact h1 b (by omega)
  · intro N I1 ⟨a1, h1⟩
    have HF1 := HF.ag a1 (by decide)
    refine ⟨I1, ?_, a1, h1⟩
    simp (disch := omega) only [bd_eq, pu_ap, if_true, if_false, not_true_eq_false, not_false_eq_true, eq_self, v_0 S, r_0_0 S, r_0_1 S, r_0_2 S, r_0_3 S, r_0_4 S, r_0_5 S, r_0_6 S, r_0_7 S, r_0_8 S, r_0_9 S, r_0_10 S, r_0_11 S, r_0_12 S, n_0_13 S, i_0_14 S, i_0_15 S, i_0_16 S, i_0_17 S, v_1 S, r_1_0 S, i_1_1 S, i_1_2 S, i_1_3 S, i_1_4 S, i_1_5 S, i_1_6 S, v_3 S, r_3_0 S, r_3_1 S, r_3_2 S, r_3_3 S, i_3_4 S, i_3_5 S, v_8 S, r_8_0 S, r_8_1 S, r_8_2 S, r_8_3 S, i_8_4 S, i_8_5 S, v_13 S, r_13_0 S, r_13_1 S, i_13_2 S, v_16 S, r_16_0 S, r_16_1 S, i_16_2 S, v_19 S, r_19_0 S, r_19_1 S, r_19_2 S, r_19_3 S, i_19_4 S, i_19_5 S, i_19_6 S, i_19_7 S, v_24 S, r_24_0 S, r_24_1 S, r_24_2 S, r_24_3 S, i_24_4 S, j_24_5 S, v_28 S, r_28_0 S, r_28_1 S, r_28_2 S, v_30 S, r_30_0 S, r_30_1 S, r_30_2 S, r_30_3 S, i_30_4 S, i_30_5 S, v_33 S, r_33_0 S, r_33_1 S, r_33_2 S, r_33_3 S, i_33_4 S, i_33_5 S, v_37 S, r_37_0 S, r_37_1 S, i_37_2 S, i_37_3 S, i_37_4 S, f_X7_look_b2, fc_sz HF1, Int32.le_refl]
theorem m_lays (S : Sw w) (HF : FoM I F) (WF : FoW F) (HA : RwR I 497 0 A) (HL : LwM I L) (WL : LwW L) : ∃ I1, f_X12_laysCans 49 (st w I J) = some (.inl (), st w I1 J) ∧ Ag [414, 415, 520] I I1 ∧ ∀ b, b < sz F → I1 520 b = canB F L A b := by
  have h8 := WF.1
  unfold f_X12_laysCans
  refine loopQ (fun N i (I1 : Is) => f_X12_laysCans_b2 N 49 (nn i) (st w I1 J)) (sz F) (fun i I1 => Ag [414, 415, 520] I I1 ∧ ∀ b, b < i → I1 520 b = canB F L A b) (fun z => ∃ I1, z = some (.inl (), st w I1 J) ∧ Ag [414, 415, 520] I I1 ∧ ∀ b, b < sz F → I1 520 b = canB F L A b) ?_ ?_ (sz F) 0 I NF (by omega) (NF_gt (by omega)) ⟨Ag.refl _ _, fun b hb => by omega⟩
  · intro N i I1 hi ⟨a1, h1⟩
    left
    have HF1 := HF.ag h8 a1 (by decide)
    have HA1 := HA.ag a1 (by decide)
    have HL1 := HL.ag WL.1 a1 (by decide)
    obtain ⟨I2, e2, a2⟩ := m_canOf (J := J) S HF1 WF HA1 HL1 WL hi
    have hn : ¬ sz F ≤ i := by omega
    refine ⟨up2 I2 520 i (canB F L A i), ?_, (a1.trans (a2.mono (by decide))).up (by decide), fun b hb => ?_⟩
    · simp (disch := omega) only [bd_eq, pu_ap, if_true, if_false, not_true_eq_false, not_false_eq_true, eq_self, v_49 S, i_49_0 S, i_49_1 S, i_49_2 S, i_49_3 S, i_49_4 S, i_49_5 S, i_49_6 S, i_49_7 S, i_49_8 S, r_49_9 S, r_49_10 S, r_49_11 S, r_49_12 S, r_49_13 S, r_49_14 S, r_49_15 S, r_49_16 S, i_49_17 S, i_49_18 S, r_49_19 S, r_49_20 S, r_49_21 S, r_49_22 S, r_49_23 S, r_49_24 S, r_49_25 S, i_49_26 S, r_49_27 S, r_49_28 S, r_49_29 S, r_49_30 S, i_49_31 S, i_49_32 S, i_49_33 S, i_49_34 S, i_49_35 S, i_49_36 S, i_49_37 S, r_49_38 S, i_49_39 S, i_49_40 S, r_49_41 S, r_49_42 S, r_49_43 S, i_49_44 S, r_49_45 S, i_49_46 S, i_49_47 S, i_49_48 S, l_53_0 S, l_53_1 S, f_X12_laysCans_b2, fm_sz HF1, nn_le, hn, e2, s_520 S, nn_succ]
    · by_cases e : b = i
      · rw [e, up2_s]
      · rw [up2_k e, a2.at b (by decide)]
        exact h1 b (by omega)
  · intro N I1 ⟨a1, h1⟩
    have HF1 := HF.ag h8 a1 (by decide)
    refine ⟨I1, ?_, a1, h1⟩
    simp (disch := omega) only [bd_eq, pu_ap, if_true, if_false, not_true_eq_false, not_false_eq_true, eq_self, v_49 S, i_49_0 S, i_49_1 S, i_49_2 S, i_49_3 S, i_49_4 S, i_49_5 S, i_49_6 S, i_49_7 S, i_49_8 S, r_49_9 S, r_49_10 S, r_49_11 S, r_49_12 S, r_49_13 S, r_49_14 S, r_49_15 S, r_49_16 S, i_49_17 S, i_49_18 S, r_49_19 S, r_49_20 S, r_49_21 S, r_49_22 S, r_49_23 S, r_49_24 S, r_49_25 S, i_49_26 S, r_49_27 S, r_49_28 S, r_49_29 S, r_49_30 S, i_49_31 S, i_49_32 S, i_49_33 S, i_49_34 S, i_49_35 S, i_49_36 S, i_49_37 S, r_49_38 S, i_49_39 S, i_49_40 S, r_49_41 S, r_49_42 S, r_49_43 S, i_49_44 S, r_49_45 S, i_49_46 S, i_49_47 S, i_49_48 S, l_53_0 S, l_53_1 S, f_X12_laysCans_b2, fm_sz HF1, Int32.le_refl]
theorem c_takesAll (S : Sw w) (HF : FoC I F) (h8 : sz F ≤ 8) {c : Nat → Int32} (hc : ∀ b, b < sz F → I 31 b = c b) (s p : Int32) : f_X7_takesAll 30 s p (st w I J) = some (.inl (bI (enoB c (sz F) s p)), st w I J) := by
  unfold f_X7_takesAll
  refine loopQ (fun N i (_ : Unit) => f_X7_takesAll_b2 N 30 s p (nn i) (st w I J)) (sz F) (fun i _ => ∀ b, b < i → bit p b → ¬ (c b &&& s) = 0) (fun z => z = some (.inl (bI (enoB c (sz F) s p)), st w I J)) ?_ ?_ (sz F) 0 () NF (by omega) (NF_gt (by omega)) (fun b hb => by omega)
  · intro N i _ hi hP
    have hn : ¬ sz F ≤ i := by omega
    have hci := hc i hi
    by_cases h1 : bit p i
    · by_cases h2 : (c i &&& s) = 0
      · right
        rw [bI_f (c := enoB c (sz F) s p) (fun q => q i hi h1 h2)]
        simp (disch := omega) only [bd_eq, pu_ap, if_true, if_false, not_true_eq_false, not_false_eq_true, eq_self, v_0 S, r_0_0 S, r_0_1 S, r_0_2 S, r_0_3 S, r_0_4 S, r_0_5 S, r_0_6 S, r_0_7 S, r_0_8 S, r_0_9 S, r_0_10 S, r_0_11 S, r_0_12 S, n_0_13 S, i_0_14 S, i_0_15 S, i_0_16 S, i_0_17 S, v_1 S, r_1_0 S, i_1_1 S, i_1_2 S, i_1_3 S, i_1_4 S, i_1_5 S, i_1_6 S, v_3 S, r_3_0 S, r_3_1 S, r_3_2 S, r_3_3 S, i_3_4 S, i_3_5 S, v_8 S, r_8_0 S, r_8_1 S, r_8_2 S, r_8_3 S, i_8_4 S, i_8_5 S, v_13 S, r_13_0 S, r_13_1 S, i_13_2 S, v_16 S, r_16_0 S, r_16_1 S, i_16_2 S, v_19 S, r_19_0 S, r_19_1 S, r_19_2 S, r_19_3 S, i_19_4 S, i_19_5 S, i_19_6 S, i_19_7 S, v_24 S, r_24_0 S, r_24_1 S, r_24_2 S, r_24_3 S, i_24_4 S, j_24_5 S, v_28 S, r_28_0 S, r_28_1 S, r_28_2 S, v_30 S, r_30_0 S, r_30_1 S, r_30_2 S, r_30_3 S, i_30_4 S, i_30_5 S, v_33 S, r_33_0 S, r_33_1 S, r_33_2 S, r_33_3 S, i_33_4 S, i_33_5 S, v_37 S, r_37_0 S, r_37_1 S, i_37_2 S, i_37_3 S, i_37_4 S, f_X7_takesAll_b2, f_X7_takesAll_b35, fc_sz HF, nn_le, hn, h1, l_31 S, hci, h2]
      · left
        refine ⟨(), ?_, fun b hb hq => ?_⟩
        · simp (disch := omega) only [bd_eq, pu_ap, if_true, if_false, not_true_eq_false, not_false_eq_true, eq_self, v_0 S, r_0_0 S, r_0_1 S, r_0_2 S, r_0_3 S, r_0_4 S, r_0_5 S, r_0_6 S, r_0_7 S, r_0_8 S, r_0_9 S, r_0_10 S, r_0_11 S, r_0_12 S, n_0_13 S, i_0_14 S, i_0_15 S, i_0_16 S, i_0_17 S, v_1 S, r_1_0 S, i_1_1 S, i_1_2 S, i_1_3 S, i_1_4 S, i_1_5 S, i_1_6 S, v_3 S, r_3_0 S, r_3_1 S, r_3_2 S, r_3_3 S, i_3_4 S, i_3_5 S, v_8 S, r_8_0 S, r_8_1 S, r_8_2 S, r_8_3 S, i_8_4 S, i_8_5 S, v_13 S, r_13_0 S, r_13_1 S, i_13_2 S, v_16 S, r_16_0 S, r_16_1 S, i_16_2 S, v_19 S, r_19_0 S, r_19_1 S, r_19_2 S, r_19_3 S, i_19_4 S, i_19_5 S, i_19_6 S, i_19_7 S, v_24 S, r_24_0 S, r_24_1 S, r_24_2 S, r_24_3 S, i_24_4 S, j_24_5 S, v_28 S, r_28_0 S, r_28_1 S, r_28_2 S, v_30 S, r_30_0 S, r_30_1 S, r_30_2 S, r_30_3 S, i_30_4 S, i_30_5 S, v_33 S, r_33_0 S, r_33_1 S, r_33_2 S, r_33_3 S, i_33_4 S, i_33_5 S, v_37 S, r_37_0 S, r_37_1 S, i_37_2 S, i_37_3 S, i_37_4 S, f_X7_takesAll_b2, f_X7_takesAll_b35, fc_sz HF, nn_le, hn, h1, l_31 S, hci, h2, nn_succ]
        · by_cases e : b = i
          · rw [e]; exact h2
          · exact hP b (by omega) hq
    · left
      refine ⟨(), ?_, fun b hb hq => ?_⟩
      · simp (disch := omega) only [bd_eq, pu_ap, if_true, if_false, not_true_eq_false, not_false_eq_true, eq_self, v_0 S, r_0_0 S, r_0_1 S, r_0_2 S, r_0_3 S, r_0_4 S, r_0_5 S, r_0_6 S, r_0_7 S, r_0_8 S, r_0_9 S, r_0_10 S, r_0_11 S, r_0_12 S, n_0_13 S, i_0_14 S, i_0_15 S, i_0_16 S, i_0_17 S, v_1 S, r_1_0 S, i_1_1 S, i_1_2 S, i_1_3 S, i_1_4 S, i_1_5 S, i_1_6 S, v_3 S, r_3_0 S, r_3_1 S, r_3_2 S, r_3_3 S, i_3_4 S, i_3_5 S, v_8 S, r_8_0 S, r_8_1 S, r_8_2 S, r_8_3 S, i_8_4 S, i_8_5 S, v_13 S, r_13_0 S, r_13_1 S, i_13_2 S, v_16 S, r_16_0 S, r_16_1 S, i_16_2 S, v_19 S, r_19_0 S, r_19_1 S, r_19_2 S, r_19_3 S, i_19_4 S, i_19_5 S, i_19_6 S, i_19_7 S, v_24 S, r_24_0 S, r_24_1 S, r_24_2 S, r_24_3 S, i_24_4 S, j_24_5 S, v_28 S, r_28_0 S, r_28_1 S, r_28_2 S, v_30 S, r_30_0 S, r_30_1 S, r_30_2 S, r_30_3 S, i_30_4 S, i_30_5 S, v_33 S, r_33_0 S, r_33_1 S, r_33_2 S, r_33_3 S, i_33_4 S, i_33_5 S, v_37 S, r_37_0 S, r_37_1 S, i_37_2 S, i_37_3 S, i_37_4 S, f_X7_takesAll_b2, f_X7_takesAll_b35, fc_sz HF, nn_le, hn, h1, nn_succ]
      · by_cases e : b = i
        · rw [e] at hq; exact absurd hq h1
        · exact hP b (by omega) hq
  · intro N _ hP
    rw [bI_t (c := enoB c (sz F) s p) hP]
    simp (disch := omega) only [bd_eq, pu_ap, if_true, if_false, not_true_eq_false, not_false_eq_true, eq_self, v_0 S, r_0_0 S, r_0_1 S, r_0_2 S, r_0_3 S, r_0_4 S, r_0_5 S, r_0_6 S, r_0_7 S, r_0_8 S, r_0_9 S, r_0_10 S, r_0_11 S, r_0_12 S, n_0_13 S, i_0_14 S, i_0_15 S, i_0_16 S, i_0_17 S, v_1 S, r_1_0 S, i_1_1 S, i_1_2 S, i_1_3 S, i_1_4 S, i_1_5 S, i_1_6 S, v_3 S, r_3_0 S, r_3_1 S, r_3_2 S, r_3_3 S, i_3_4 S, i_3_5 S, v_8 S, r_8_0 S, r_8_1 S, r_8_2 S, r_8_3 S, i_8_4 S, i_8_5 S, v_13 S, r_13_0 S, r_13_1 S, i_13_2 S, v_16 S, r_16_0 S, r_16_1 S, i_16_2 S, v_19 S, r_19_0 S, r_19_1 S, r_19_2 S, r_19_3 S, i_19_4 S, i_19_5 S, i_19_6 S, i_19_7 S, v_24 S, r_24_0 S, r_24_1 S, r_24_2 S, r_24_3 S, i_24_4 S, j_24_5 S, v_28 S, r_28_0 S, r_28_1 S, r_28_2 S, v_30 S, r_30_0 S, r_30_1 S, r_30_2 S, r_30_3 S, i_30_4 S, i_30_5 S, v_33 S, r_33_0 S, r_33_1 S, r_33_2 S, r_33_3 S, i_33_4 S, i_33_5 S, v_37 S, r_37_0 S, r_37_1 S, i_37_2 S, i_37_3 S, i_37_4 S, f_X7_takesAll_b2, fc_sz HF, Int32.le_refl]
theorem m_isEnough (S : Sw w) (HF : FoM I F) (h8 : sz F ≤ 8) {c : Nat → Int32} (hc : ∀ b, b < sz F → I 520 b = c b) (s p : Int32) : f_X12_isEnough 49 s p (st w I J) = some (.inl (bI (enoB c (sz F) s p)), st w I J) := by
  unfold f_X12_isEnough
  refine loopQ (fun N i (_ : Unit) => f_X12_isEnough_b2 N 49 s p (nn i) (st w I J)) (sz F) (fun i _ => ∀ b, b < i → bit p b → ¬ (c b &&& s) = 0) (fun z => z = some (.inl (bI (enoB c (sz F) s p)), st w I J)) ?_ ?_ (sz F) 0 () NF (by omega) (NF_gt (by omega)) (fun b hb => by omega)
  · intro N i _ hi hP
    have hn : ¬ sz F ≤ i := by omega
    have hci := hc i hi
    by_cases h1 : bit p i
    · by_cases h2 : (c i &&& s) = 0
      · right
        rw [bI_f (c := enoB c (sz F) s p) (fun q => q i hi h1 h2)]
        simp (disch := omega) only [bd_eq, pu_ap, if_true, if_false, not_true_eq_false, not_false_eq_true, eq_self, v_49 S, i_49_0 S, i_49_1 S, i_49_2 S, i_49_3 S, i_49_4 S, i_49_5 S, i_49_6 S, i_49_7 S, i_49_8 S, r_49_9 S, r_49_10 S, r_49_11 S, r_49_12 S, r_49_13 S, r_49_14 S, r_49_15 S, r_49_16 S, i_49_17 S, i_49_18 S, r_49_19 S, r_49_20 S, r_49_21 S, r_49_22 S, r_49_23 S, r_49_24 S, r_49_25 S, i_49_26 S, r_49_27 S, r_49_28 S, r_49_29 S, r_49_30 S, i_49_31 S, i_49_32 S, i_49_33 S, i_49_34 S, i_49_35 S, i_49_36 S, i_49_37 S, r_49_38 S, i_49_39 S, i_49_40 S, r_49_41 S, r_49_42 S, r_49_43 S, i_49_44 S, r_49_45 S, i_49_46 S, i_49_47 S, i_49_48 S, l_53_0 S, l_53_1 S, f_X12_isEnough_b2, f_X12_isEnough_b33, fm_sz HF, nn_le, hn, m_has, bI_0, h1, l_520 S, hci, h2]
      · left
        refine ⟨(), ?_, fun b hb hq => ?_⟩
        · simp (disch := omega) only [bd_eq, pu_ap, if_true, if_false, not_true_eq_false, not_false_eq_true, eq_self, v_49 S, i_49_0 S, i_49_1 S, i_49_2 S, i_49_3 S, i_49_4 S, i_49_5 S, i_49_6 S, i_49_7 S, i_49_8 S, r_49_9 S, r_49_10 S, r_49_11 S, r_49_12 S, r_49_13 S, r_49_14 S, r_49_15 S, r_49_16 S, i_49_17 S, i_49_18 S, r_49_19 S, r_49_20 S, r_49_21 S, r_49_22 S, r_49_23 S, r_49_24 S, r_49_25 S, i_49_26 S, r_49_27 S, r_49_28 S, r_49_29 S, r_49_30 S, i_49_31 S, i_49_32 S, i_49_33 S, i_49_34 S, i_49_35 S, i_49_36 S, i_49_37 S, r_49_38 S, i_49_39 S, i_49_40 S, r_49_41 S, r_49_42 S, r_49_43 S, i_49_44 S, r_49_45 S, i_49_46 S, i_49_47 S, i_49_48 S, l_53_0 S, l_53_1 S, f_X12_isEnough_b2, f_X12_isEnough_b33, fm_sz HF, nn_le, hn, m_has, bI_0, h1, l_520 S, hci, h2, nn_succ]
        · by_cases e : b = i
          · rw [e]; exact h2
          · exact hP b (by omega) hq
    · left
      refine ⟨(), ?_, fun b hb hq => ?_⟩
      · simp (disch := omega) only [bd_eq, pu_ap, if_true, if_false, not_true_eq_false, not_false_eq_true, eq_self, v_49 S, i_49_0 S, i_49_1 S, i_49_2 S, i_49_3 S, i_49_4 S, i_49_5 S, i_49_6 S, i_49_7 S, i_49_8 S, r_49_9 S, r_49_10 S, r_49_11 S, r_49_12 S, r_49_13 S, r_49_14 S, r_49_15 S, r_49_16 S, i_49_17 S, i_49_18 S, r_49_19 S, r_49_20 S, r_49_21 S, r_49_22 S, r_49_23 S, r_49_24 S, r_49_25 S, i_49_26 S, r_49_27 S, r_49_28 S, r_49_29 S, r_49_30 S, i_49_31 S, i_49_32 S, i_49_33 S, i_49_34 S, i_49_35 S, i_49_36 S, i_49_37 S, r_49_38 S, i_49_39 S, i_49_40 S, r_49_41 S, r_49_42 S, r_49_43 S, i_49_44 S, r_49_45 S, i_49_46 S, i_49_47 S, i_49_48 S, l_53_0 S, l_53_1 S, f_X12_isEnough_b2, f_X12_isEnough_b33, fm_sz HF, nn_le, hn, m_has, bI_0, h1, nn_succ]
      · by_cases e : b = i
        · rw [e] at hq; exact absurd hq h1
        · exact hP b (by omega) hq
  · intro N _ hP
    rw [bI_t (c := enoB c (sz F) s p) hP]
    simp (disch := omega) only [bd_eq, pu_ap, if_true, if_false, not_true_eq_false, not_false_eq_true, eq_self, v_49 S, i_49_0 S, i_49_1 S, i_49_2 S, i_49_3 S, i_49_4 S, i_49_5 S, i_49_6 S, i_49_7 S, i_49_8 S, r_49_9 S, r_49_10 S, r_49_11 S, r_49_12 S, r_49_13 S, r_49_14 S, r_49_15 S, r_49_16 S, i_49_17 S, i_49_18 S, r_49_19 S, r_49_20 S, r_49_21 S, r_49_22 S, r_49_23 S, r_49_24 S, r_49_25 S, i_49_26 S, r_49_27 S, r_49_28 S, r_49_29 S, r_49_30 S, i_49_31 S, i_49_32 S, i_49_33 S, i_49_34 S, i_49_35 S, i_49_36 S, i_49_37 S, r_49_38 S, i_49_39 S, i_49_40 S, r_49_41 S, r_49_42 S, r_49_43 S, i_49_44 S, r_49_45 S, i_49_46 S, i_49_47 S, i_49_48 S, l_53_0 S, l_53_1 S, f_X12_isEnough_b2, fm_sz HF, Int32.le_refl]
/-- what a set gives, each at most so much -/
def givP (F : Fo) (s x : Int32) : Int32 := lp (fun p y => if bit s p then y + mn32 (nn (pr F p)) x else y) (sz F) 0 0
theorem c_given (S : Sw w) (HF : FoC I F) (h8 : sz F ≤ 8) (s x : Int32) : f_X2_givenBy 3 s x (st w I J) = some (.inl (givP F s x), st w I J) := by
  unfold f_X2_givenBy givP
  refine loopL (fun N i y => f_X2_givenBy_b5 N 3 s x y (nn i) (st w I J)) (sz F) (fun p y => if bit s p then y + mn32 (nn (pr F p)) x else y) (fun y => some (.inl y, st w I J)) ?_ ?_ 0 (Nat.zero_le _) (NF_gt (by omega))
  · intro N i y hi
    have hn : ¬ sz F ≤ i := by omega
    by_cases h1 : bit s i
    · simp (disch := omega) only [bd_eq, pu_ap, if_true, if_false, not_true_eq_false, not_false_eq_true, eq_self, v_0 S, r_0_0 S, r_0_1 S, r_0_2 S, r_0_3 S, r_0_4 S, r_0_5 S, r_0_6 S, r_0_7 S, r_0_8 S, r_0_9 S, r_0_10 S, r_0_11 S, r_0_12 S, n_0_13 S, i_0_14 S, i_0_15 S, i_0_16 S, i_0_17 S, v_1 S, r_1_0 S, i_1_1 S, i_1_2 S, i_1_3 S, i_1_4 S, i_1_5 S, i_1_6 S, v_3 S, r_3_0 S, r_3_1 S, r_3_2 S, r_3_3 S, i_3_4 S, i_3_5 S, v_8 S, r_8_0 S, r_8_1 S, r_8_2 S, r_8_3 S, i_8_4 S, i_8_5 S, v_13 S, r_13_0 S, r_13_1 S, i_13_2 S, v_16 S, r_16_0 S, r_16_1 S, i_16_2 S, v_19 S, r_19_0 S, r_19_1 S, r_19_2 S, r_19_3 S, i_19_4 S, i_19_5 S, i_19_6 S, i_19_7 S, v_24 S, r_24_0 S, r_24_1 S, r_24_2 S, r_24_3 S, i_24_4 S, j_24_5 S, v_28 S, r_28_0 S, r_28_1 S, r_28_2 S, v_30 S, r_30_0 S, r_30_1 S, r_30_2 S, r_30_3 S, i_30_4 S, i_30_5 S, v_33 S, r_33_0 S, r_33_1 S, r_33_2 S, r_33_3 S, i_33_4 S, i_33_5 S, v_37 S, r_37_0 S, r_37_1 S, i_37_2 S, i_37_3 S, i_37_4 S, f_X2_givenBy_b5, f_X2_givenBy_b38, fc_sz HF, nn_le, hn, h1, l_6 S, fc_pr HF, nn_succ, eq_true h1]
    · simp (disch := omega) only [bd_eq, pu_ap, if_true, if_false, not_true_eq_false, not_false_eq_true, eq_self, v_0 S, r_0_0 S, r_0_1 S, r_0_2 S, r_0_3 S, r_0_4 S, r_0_5 S, r_0_6 S, r_0_7 S, r_0_8 S, r_0_9 S, r_0_10 S, r_0_11 S, r_0_12 S, n_0_13 S, i_0_14 S, i_0_15 S, i_0_16 S, i_0_17 S, v_1 S, r_1_0 S, i_1_1 S, i_1_2 S, i_1_3 S, i_1_4 S, i_1_5 S, i_1_6 S, v_3 S, r_3_0 S, r_3_1 S, r_3_2 S, r_3_3 S, i_3_4 S, i_3_5 S, v_8 S, r_8_0 S, r_8_1 S, r_8_2 S, r_8_3 S, i_8_4 S, i_8_5 S, v_13 S, r_13_0 S, r_13_1 S, i_13_2 S, v_16 S, r_16_0 S, r_16_1 S, i_16_2 S, v_19 S, r_19_0 S, r_19_1 S, r_19_2 S, r_19_3 S, i_19_4 S, i_19_5 S, i_19_6 S, i_19_7 S, v_24 S, r_24_0 S, r_24_1 S, r_24_2 S, r_24_3 S, i_24_4 S, j_24_5 S, v_28 S, r_28_0 S, r_28_1 S, r_28_2 S, v_30 S, r_30_0 S, r_30_1 S, r_30_2 S, r_30_3 S, i_30_4 S, i_30_5 S, v_33 S, r_33_0 S, r_33_1 S, r_33_2 S, r_33_3 S, i_33_4 S, i_33_5 S, v_37 S, r_37_0 S, r_37_1 S, i_37_2 S, i_37_3 S, i_37_4 S, f_X2_givenBy_b5, f_X2_givenBy_b38, fc_sz HF, nn_le, hn, h1, nn_succ]
  · intro N y
    simp (disch := omega) only [bd_eq, pu_ap, if_true, if_false, not_true_eq_false, not_false_eq_true, eq_self, v_0 S, r_0_0 S, r_0_1 S, r_0_2 S, r_0_3 S, r_0_4 S, r_0_5 S, r_0_6 S, r_0_7 S, r_0_8 S, r_0_9 S, r_0_10 S, r_0_11 S, r_0_12 S, n_0_13 S, i_0_14 S, i_0_15 S, i_0_16 S, i_0_17 S, v_1 S, r_1_0 S, i_1_1 S, i_1_2 S, i_1_3 S, i_1_4 S, i_1_5 S, i_1_6 S, v_3 S, r_3_0 S, r_3_1 S, r_3_2 S, r_3_3 S, i_3_4 S, i_3_5 S, v_8 S, r_8_0 S, r_8_1 S, r_8_2 S, r_8_3 S, i_8_4 S, i_8_5 S, v_13 S, r_13_0 S, r_13_1 S, i_13_2 S, v_16 S, r_16_0 S, r_16_1 S, i_16_2 S, v_19 S, r_19_0 S, r_19_1 S, r_19_2 S, r_19_3 S, i_19_4 S, i_19_5 S, i_19_6 S, i_19_7 S, v_24 S, r_24_0 S, r_24_1 S, r_24_2 S, r_24_3 S, i_24_4 S, j_24_5 S, v_28 S, r_28_0 S, r_28_1 S, r_28_2 S, v_30 S, r_30_0 S, r_30_1 S, r_30_2 S, r_30_3 S, i_30_4 S, i_30_5 S, v_33 S, r_33_0 S, r_33_1 S, r_33_2 S, r_33_3 S, i_33_4 S, i_33_5 S, v_37 S, r_37_0 S, r_37_1 S, i_37_2 S, i_37_3 S, i_37_4 S, f_X2_givenBy_b5, fc_sz HF, Int32.le_refl]
theorem mn_comm (x y : Int32) : mn32 x y = mn32 y x := by
  unfold mn32
  by_cases h : y < x
  · rw [if_pos h, if_neg (Int32.not_lt.mpr (Int32.le_of_lt h))]
  · rw [if_neg h]
    by_cases h' : x < y
    · rw [if_pos h']
    · rw [if_neg h']
      exact Int32.le_antisymm (Int32.not_lt.mp h) (Int32.not_lt.mp h')
theorem m_given (S : Sw w) (HF : FoM I F) (h8 : sz F ≤ 8) (s x : Int32) : f_X12_givenBy 49 s x (st w I J) = some (.inl (givP F s x), st w I J) := by
  unfold f_X12_givenBy givP
  refine loopL (fun N i y => f_X12_givenBy_b5 N 49 s x y (nn i) (st w I J)) (sz F) (fun p y => if bit s p then y + mn32 (nn (pr F p)) x else y) (fun y => some (.inl y, st w I J)) ?_ ?_ 0 (Nat.zero_le _) (NF_gt (by omega))
  · intro N i y hi
    have hn : ¬ sz F ≤ i := by omega
    by_cases h1 : bit s i
    · simp (disch := omega) only [bd_eq, pu_ap, if_true, if_false, not_true_eq_false, not_false_eq_true, eq_self, v_49 S, i_49_0 S, i_49_1 S, i_49_2 S, i_49_3 S, i_49_4 S, i_49_5 S, i_49_6 S, i_49_7 S, i_49_8 S, r_49_9 S, r_49_10 S, r_49_11 S, r_49_12 S, r_49_13 S, r_49_14 S, r_49_15 S, r_49_16 S, i_49_17 S, i_49_18 S, r_49_19 S, r_49_20 S, r_49_21 S, r_49_22 S, r_49_23 S, r_49_24 S, r_49_25 S, i_49_26 S, r_49_27 S, r_49_28 S, r_49_29 S, r_49_30 S, i_49_31 S, i_49_32 S, i_49_33 S, i_49_34 S, i_49_35 S, i_49_36 S, i_49_37 S, r_49_38 S, i_49_39 S, i_49_40 S, r_49_41 S, r_49_42 S, r_49_43 S, i_49_44 S, r_49_45 S, i_49_46 S, i_49_47 S, i_49_48 S, l_53_0 S, l_53_1 S, f_X12_givenBy_b5, f_X12_givenBy_b43, fm_sz HF, nn_le, hn, m_has, bI_0, h1, g_65 S, l_66_2 S, fm_pr HF, m_less, mn_comm x, nn_succ, eq_true h1]
    · simp (disch := omega) only [bd_eq, pu_ap, if_true, if_false, not_true_eq_false, not_false_eq_true, eq_self, v_49 S, i_49_0 S, i_49_1 S, i_49_2 S, i_49_3 S, i_49_4 S, i_49_5 S, i_49_6 S, i_49_7 S, i_49_8 S, r_49_9 S, r_49_10 S, r_49_11 S, r_49_12 S, r_49_13 S, r_49_14 S, r_49_15 S, r_49_16 S, i_49_17 S, i_49_18 S, r_49_19 S, r_49_20 S, r_49_21 S, r_49_22 S, r_49_23 S, r_49_24 S, r_49_25 S, i_49_26 S, r_49_27 S, r_49_28 S, r_49_29 S, r_49_30 S, i_49_31 S, i_49_32 S, i_49_33 S, i_49_34 S, i_49_35 S, i_49_36 S, i_49_37 S, r_49_38 S, i_49_39 S, i_49_40 S, r_49_41 S, r_49_42 S, r_49_43 S, i_49_44 S, r_49_45 S, i_49_46 S, i_49_47 S, i_49_48 S, l_53_0 S, l_53_1 S, f_X12_givenBy_b5, f_X12_givenBy_b43, fm_sz HF, nn_le, hn, m_has, bI_0, h1, nn_succ, Int32.add_zero]
  · intro N y
    simp (disch := omega) only [bd_eq, pu_ap, if_true, if_false, not_true_eq_false, not_false_eq_true, eq_self, v_49 S, i_49_0 S, i_49_1 S, i_49_2 S, i_49_3 S, i_49_4 S, i_49_5 S, i_49_6 S, i_49_7 S, i_49_8 S, r_49_9 S, r_49_10 S, r_49_11 S, r_49_12 S, r_49_13 S, r_49_14 S, r_49_15 S, r_49_16 S, i_49_17 S, i_49_18 S, r_49_19 S, r_49_20 S, r_49_21 S, r_49_22 S, r_49_23 S, r_49_24 S, r_49_25 S, i_49_26 S, r_49_27 S, r_49_28 S, r_49_29 S, r_49_30 S, i_49_31 S, i_49_32 S, i_49_33 S, i_49_34 S, i_49_35 S, i_49_36 S, i_49_37 S, r_49_38 S, i_49_39 S, i_49_40 S, r_49_41 S, r_49_42 S, r_49_43 S, i_49_44 S, r_49_45 S, i_49_46 S, i_49_47 S, i_49_48 S, l_53_0 S, l_53_1 S, f_X12_givenBy_b5, fm_sz HF, Int32.le_refl]
/-- the prices' sum is a small number -/
theorem giv_b (WF : FoW F) (s : Int32) {b : Nat} (hb : b ≤ 40) : ∃ n, n ≤ 320 ∧ givP F s (nn b) = nn n ∧ ∀ b', b ≤ b' → b' ≤ 40 → ∃ n', givP F s (nn b') = nn n' ∧ n ≤ n' ∧ n' ≤ 320 := by
  have h8 := WF.1
  have key : ∀ i, i ≤ sz F → ∃ f : Nat → Nat, ∀ x, x ≤ 40 → lp (fun p y => if bit s p then y + mn32 (nn (pr F p)) (nn x) else y) i 0 0 = nn (f x) ∧ f x ≤ 40 * i ∧ ∀ x', x ≤ x' → x' ≤ 40 → f x ≤ f x' := by
    intro i
    induction i with
    | zero => exact fun _ => ⟨fun _ => 0, fun x _ => ⟨rfl, Nat.zero_le _, fun _ _ _ => Nat.le_refl _⟩⟩
    | succ i ih =>
      intro hi
      obtain ⟨f, hf⟩ := ih (by omega)
      have hp := (WF.2.2 i (by omega)).2.2.1
      by_cases h1 : bit s i
      · refine ⟨fun x => f x + (if x < pr F i then x else pr F i), fun x hx => ⟨?_, ?_, ?_⟩⟩
        · rw [lp_end, Nat.zero_add, if_pos h1, (hf x hx).1]
          unfold mn32
          have e : (nn x < nn (pr F i)) = (x < pr F i) := nn_lt (by omega) (by omega)
          show _ = nn (f x + if x < pr F i then x else pr F i)
          by_cases h2 : x < pr F i
          · rw [if_pos h2, if_pos (by rw [e]; exact h2), nn_add]
          · rw [if_neg h2, if_neg (by rw [e]; exact h2), nn_add]
        · have := (hf x hx).2.1
          show (f x + if x < pr F i then x else pr F i) ≤ _
          split <;> omega
        · intro x' h1' h2'
          have := (hf x hx).2.2 x' h1' h2'
          show (f x + if x < pr F i then x else pr F i) ≤ (f x' + if x' < pr F i then x' else pr F i)
          split <;> split <;> omega
      · refine ⟨f, fun x hx => ⟨?_, ?_, (hf x hx).2.2⟩⟩
        · rw [lp_end, Nat.zero_add, if_neg h1, (hf x hx).1]
        · have := (hf x hx).2.1
          omega
  obtain ⟨f, hf⟩ := key (sz F) (Nat.le_refl _)
  refine ⟨f b, ?_, (hf b hb).1, fun b' h1 h2 => ⟨f b', (hf b' h2).1, (hf b hb).2.2 b' h1 h2, ?_⟩⟩
  · have := (hf b hb).2.1
    omega
  · have := (hf b' h2).2.1
    omega
-- the class's least set
def costP (F : Fo) (k : Nat) (s : Nat) : Int32 := if k = 0 then bc32 (nn s) else givP F (nn s) 40
theorem c_leastSet (S : Sw w) (HF : FoC I F) (h8 : sz F ≤ 8) {c : Nat → Int32} (hc : ∀ b, b < sz F → I 31 b = c b) (p : Int32) {k : Nat} (hk : k = 0 ∨ k = 1) : ∃ v, f_X7_leastSet 30 p (nn k) (st w I J) = some (.inl v, st w I J) ∧ isL 0 (2 ^ sz F) (fun s => enoB c (sz F) (nn s) p) (costP F k) v := by
  have hM := (pw_s (sz F) h8).2.2
  have hM0 : 0 < 2 ^ sz F := Nat.two_pow_pos _
  have k0 : (nn k = (0 : Int32)) = (k = 0) := nn_eq (b := 0) (by omega) (by omega)
  unfold f_X7_leastSet
  refine loopQ (fun N i (z : Int32 × Int32) => f_X7_leastSet_b8 N 30 p (nn k) z.1 z.2 (nn i) (st w I J)) (2 ^ sz F) (fun i z => isL 0 i (fun s => enoB c (sz F) (nn s) p) (costP F k) z.1 ∧ ∀ s, z.1 = nn s → s < i → z.2 = costP F k s) (fun z => ∃ v, z = some (.inl v, st w I J) ∧ isL 0 (2 ^ sz F) (fun s => enoB c (sz F) (nn s) p) (costP F k) v) ?_ ?_ (2 ^ sz F) 0 (-1, 0) NF (by omega) (NF_gt (by omega)) ⟨isL_0 _ _ _, fun s _ hs => by omega⟩
  · intro N i ⟨b, bc⟩ hi ⟨hL, hB⟩
    left
    have hL' : isL 0 i (fun s => enoB c (sz F) (nn s) p) (costP F k) b := hL
    have hB' : ∀ s, b = nn s → s < i → bc = costP F k s := hB
    have hn : ¬ 2 ^ sz F - 1 < i := by omega
    obtain ⟨u1, u2⟩ := isL_up hL' (Nat.zero_le _) (by omega)
    have e1 : f_X7_leastSet_b8 (N + 1) 30 p (nn k) b bc (nn i) (st w I J) = f_X7_leastSet_b41 (f_X7_leastSet_b8 N) 30 p (nn k) b bc (nn i) (costP F k i) (st w I J) := by
      rcases hk with hk | hk <;> subst hk
      · simp (disch := omega) only [bd_eq, pu_ap, if_true, if_false, not_true_eq_false, not_false_eq_true, eq_self, v_0 S, r_0_0 S, r_0_1 S, r_0_2 S, r_0_3 S, r_0_4 S, r_0_5 S, r_0_6 S, r_0_7 S, r_0_8 S, r_0_9 S, r_0_10 S, r_0_11 S, r_0_12 S, n_0_13 S, i_0_14 S, i_0_15 S, i_0_16 S, i_0_17 S, v_1 S, r_1_0 S, i_1_1 S, i_1_2 S, i_1_3 S, i_1_4 S, i_1_5 S, i_1_6 S, v_3 S, r_3_0 S, r_3_1 S, r_3_2 S, r_3_3 S, i_3_4 S, i_3_5 S, v_8 S, r_8_0 S, r_8_1 S, r_8_2 S, r_8_3 S, i_8_4 S, i_8_5 S, v_13 S, r_13_0 S, r_13_1 S, i_13_2 S, v_16 S, r_16_0 S, r_16_1 S, i_16_2 S, v_19 S, r_19_0 S, r_19_1 S, r_19_2 S, r_19_3 S, i_19_4 S, i_19_5 S, i_19_6 S, i_19_7 S, v_24 S, r_24_0 S, r_24_1 S, r_24_2 S, r_24_3 S, i_24_4 S, j_24_5 S, v_28 S, r_28_0 S, r_28_1 S, r_28_2 S, v_30 S, r_30_0 S, r_30_1 S, r_30_2 S, r_30_3 S, i_30_4 S, i_30_5 S, v_33 S, r_33_0 S, r_33_1 S, r_33_2 S, r_33_3 S, i_33_4 S, i_33_5 S, v_37 S, r_37_0 S, r_37_1 S, i_37_2 S, i_37_3 S, i_37_4 S, f_X7_leastSet_b8, c_every S HF h8, nn_lt, hn, show (nn 0 = (0 : Int32)) = True from by decide]
        rfl
      · simp (disch := omega) only [bd_eq, pu_ap, if_true, if_false, not_true_eq_false, not_false_eq_true, eq_self, v_0 S, r_0_0 S, r_0_1 S, r_0_2 S, r_0_3 S, r_0_4 S, r_0_5 S, r_0_6 S, r_0_7 S, r_0_8 S, r_0_9 S, r_0_10 S, r_0_11 S, r_0_12 S, n_0_13 S, i_0_14 S, i_0_15 S, i_0_16 S, i_0_17 S, v_1 S, r_1_0 S, i_1_1 S, i_1_2 S, i_1_3 S, i_1_4 S, i_1_5 S, i_1_6 S, v_3 S, r_3_0 S, r_3_1 S, r_3_2 S, r_3_3 S, i_3_4 S, i_3_5 S, v_8 S, r_8_0 S, r_8_1 S, r_8_2 S, r_8_3 S, i_8_4 S, i_8_5 S, v_13 S, r_13_0 S, r_13_1 S, i_13_2 S, v_16 S, r_16_0 S, r_16_1 S, i_16_2 S, v_19 S, r_19_0 S, r_19_1 S, r_19_2 S, r_19_3 S, i_19_4 S, i_19_5 S, i_19_6 S, i_19_7 S, v_24 S, r_24_0 S, r_24_1 S, r_24_2 S, r_24_3 S, i_24_4 S, j_24_5 S, v_28 S, r_28_0 S, r_28_1 S, r_28_2 S, v_30 S, r_30_0 S, r_30_1 S, r_30_2 S, r_30_3 S, i_30_4 S, i_30_5 S, v_33 S, r_33_0 S, r_33_1 S, r_33_2 S, r_33_3 S, i_33_4 S, i_33_5 S, v_37 S, r_37_0 S, r_37_1 S, i_37_2 S, i_37_3 S, i_37_4 S, f_X7_leastSet_b8, c_every S HF h8, nn_lt, hn, show (nn 1 = (0 : Int32)) = False from by decide, f_X2_priceOf, c_given S HF h8]
        rfl
    have e2 := c_takesAll (J := J) S HF h8 hc (nn i) p
    have z1 : ((1 : Int32) = 0) = False := by decide
    rcases hL' with ⟨l1, l2⟩ | ⟨s, l1, l2, l3, l4, l5, l6⟩
    · subst l1
      by_cases hg : enoB c (sz F) (nn i) p
      · rw [bI_t hg] at e2
        refine ⟨(nn i, costP F k i), ?_, u1 ⟨Or.inl rfl, hg⟩, ?_⟩
        · show f_X7_leastSet_b8 (N + 1) 30 p (nn k) (-1) bc (nn i) (st w I J) = _
          rw [e1]
          simp (disch := omega) only [bd_eq, pu_ap, if_true, if_false, not_true_eq_false, not_false_eq_true, eq_self, v_0 S, r_0_0 S, r_0_1 S, r_0_2 S, r_0_3 S, r_0_4 S, r_0_5 S, r_0_6 S, r_0_7 S, r_0_8 S, r_0_9 S, r_0_10 S, r_0_11 S, r_0_12 S, n_0_13 S, i_0_14 S, i_0_15 S, i_0_16 S, i_0_17 S, v_1 S, r_1_0 S, i_1_1 S, i_1_2 S, i_1_3 S, i_1_4 S, i_1_5 S, i_1_6 S, v_3 S, r_3_0 S, r_3_1 S, r_3_2 S, r_3_3 S, i_3_4 S, i_3_5 S, v_8 S, r_8_0 S, r_8_1 S, r_8_2 S, r_8_3 S, i_8_4 S, i_8_5 S, v_13 S, r_13_0 S, r_13_1 S, i_13_2 S, v_16 S, r_16_0 S, r_16_1 S, i_16_2 S, v_19 S, r_19_0 S, r_19_1 S, r_19_2 S, r_19_3 S, i_19_4 S, i_19_5 S, i_19_6 S, i_19_7 S, v_24 S, r_24_0 S, r_24_1 S, r_24_2 S, r_24_3 S, i_24_4 S, j_24_5 S, v_28 S, r_28_0 S, r_28_1 S, r_28_2 S, v_30 S, r_30_0 S, r_30_1 S, r_30_2 S, r_30_3 S, i_30_4 S, i_30_5 S, v_33 S, r_33_0 S, r_33_1 S, r_33_2 S, r_33_3 S, i_33_4 S, i_33_5 S, v_37 S, r_37_0 S, r_37_1 S, i_37_2 S, i_37_3 S, i_37_4 S, f_X7_leastSet_b41, f_X7_leastSet_b55, f_X7_leastSet_b72, e2, z1, nn_succ]
        · intro s hs hs'
          have : nn i = nn s := hs
          rw [nn_eq (by omega) (by omega)] at this
          rw [this]
      · rw [bI_f hg] at e2
        refine ⟨(-1, bc), ?_, u2 (Or.inl hg), ?_⟩
        · show f_X7_leastSet_b8 (N + 1) 30 p (nn k) (-1) bc (nn i) (st w I J) = _
          rw [e1]
          simp (disch := omega) only [bd_eq, pu_ap, if_true, if_false, not_true_eq_false, not_false_eq_true, eq_self, v_0 S, r_0_0 S, r_0_1 S, r_0_2 S, r_0_3 S, r_0_4 S, r_0_5 S, r_0_6 S, r_0_7 S, r_0_8 S, r_0_9 S, r_0_10 S, r_0_11 S, r_0_12 S, n_0_13 S, i_0_14 S, i_0_15 S, i_0_16 S, i_0_17 S, v_1 S, r_1_0 S, i_1_1 S, i_1_2 S, i_1_3 S, i_1_4 S, i_1_5 S, i_1_6 S, v_3 S, r_3_0 S, r_3_1 S, r_3_2 S, r_3_3 S, i_3_4 S, i_3_5 S, v_8 S, r_8_0 S, r_8_1 S, r_8_2 S, r_8_3 S, i_8_4 S, i_8_5 S, v_13 S, r_13_0 S, r_13_1 S, i_13_2 S, v_16 S, r_16_0 S, r_16_1 S, i_16_2 S, v_19 S, r_19_0 S, r_19_1 S, r_19_2 S, r_19_3 S, i_19_4 S, i_19_5 S, i_19_6 S, i_19_7 S, v_24 S, r_24_0 S, r_24_1 S, r_24_2 S, r_24_3 S, i_24_4 S, j_24_5 S, v_28 S, r_28_0 S, r_28_1 S, r_28_2 S, v_30 S, r_30_0 S, r_30_1 S, r_30_2 S, r_30_3 S, i_30_4 S, i_30_5 S, v_33 S, r_33_0 S, r_33_1 S, r_33_2 S, r_33_3 S, i_33_4 S, i_33_5 S, v_37 S, r_37_0 S, r_37_1 S, i_37_2 S, i_37_3 S, i_37_4 S, f_X7_leastSet_b41, f_X7_leastSet_b55, f_X7_leastSet_b72, e2, z1, nn_succ]
        · intro s hs hs'
          exact absurd hs.symm (nn_ne_neg (by omega))
    · have hbc := hB' s l3 l2
      have hne : ¬ b = -1 := by rw [l3]; exact nn_ne_neg (by omega)
      by_cases hlt : bc ≤ costP F k i
      · refine ⟨(b, bc), ?_, u2 (Or.inr ⟨s, l3, l2, by rw [← hbc]; exact hlt⟩), ?_⟩
        · show f_X7_leastSet_b8 (N + 1) 30 p (nn k) b bc (nn i) (st w I J) = _
          rw [e1]
          simp (disch := omega) only [bd_eq, pu_ap, if_true, if_false, not_true_eq_false, not_false_eq_true, eq_self, v_0 S, r_0_0 S, r_0_1 S, r_0_2 S, r_0_3 S, r_0_4 S, r_0_5 S, r_0_6 S, r_0_7 S, r_0_8 S, r_0_9 S, r_0_10 S, r_0_11 S, r_0_12 S, n_0_13 S, i_0_14 S, i_0_15 S, i_0_16 S, i_0_17 S, v_1 S, r_1_0 S, i_1_1 S, i_1_2 S, i_1_3 S, i_1_4 S, i_1_5 S, i_1_6 S, v_3 S, r_3_0 S, r_3_1 S, r_3_2 S, r_3_3 S, i_3_4 S, i_3_5 S, v_8 S, r_8_0 S, r_8_1 S, r_8_2 S, r_8_3 S, i_8_4 S, i_8_5 S, v_13 S, r_13_0 S, r_13_1 S, i_13_2 S, v_16 S, r_16_0 S, r_16_1 S, i_16_2 S, v_19 S, r_19_0 S, r_19_1 S, r_19_2 S, r_19_3 S, i_19_4 S, i_19_5 S, i_19_6 S, i_19_7 S, v_24 S, r_24_0 S, r_24_1 S, r_24_2 S, r_24_3 S, i_24_4 S, j_24_5 S, v_28 S, r_28_0 S, r_28_1 S, r_28_2 S, v_30 S, r_30_0 S, r_30_1 S, r_30_2 S, r_30_3 S, i_30_4 S, i_30_5 S, v_33 S, r_33_0 S, r_33_1 S, r_33_2 S, r_33_3 S, i_33_4 S, i_33_5 S, v_37 S, r_37_0 S, r_37_1 S, i_37_2 S, i_37_3 S, i_37_4 S, f_X7_leastSet_b41, f_X7_leastSet_b55, f_X7_leastSet_b72, hne, hlt, nn_succ]
        · intro s' hs hs'
          have : nn s = nn s' := l3.symm.trans hs
          rw [nn_eq (by omega) (by omega)] at this
          rw [← this]; exact hbc
      · have hlt' : costP F k i < costP F k s := by rw [← hbc]; exact Int32.not_le.mp hlt
        by_cases hg : enoB c (sz F) (nn i) p
        · rw [bI_t hg] at e2
          refine ⟨(nn i, costP F k i), ?_, u1 ⟨Or.inr ⟨s, l3, l2, hlt'⟩, hg⟩, ?_⟩
          · show f_X7_leastSet_b8 (N + 1) 30 p (nn k) b bc (nn i) (st w I J) = _
            rw [e1]
            simp (disch := omega) only [bd_eq, pu_ap, if_true, if_false, not_true_eq_false, not_false_eq_true, eq_self, v_0 S, r_0_0 S, r_0_1 S, r_0_2 S, r_0_3 S, r_0_4 S, r_0_5 S, r_0_6 S, r_0_7 S, r_0_8 S, r_0_9 S, r_0_10 S, r_0_11 S, r_0_12 S, n_0_13 S, i_0_14 S, i_0_15 S, i_0_16 S, i_0_17 S, v_1 S, r_1_0 S, i_1_1 S, i_1_2 S, i_1_3 S, i_1_4 S, i_1_5 S, i_1_6 S, v_3 S, r_3_0 S, r_3_1 S, r_3_2 S, r_3_3 S, i_3_4 S, i_3_5 S, v_8 S, r_8_0 S, r_8_1 S, r_8_2 S, r_8_3 S, i_8_4 S, i_8_5 S, v_13 S, r_13_0 S, r_13_1 S, i_13_2 S, v_16 S, r_16_0 S, r_16_1 S, i_16_2 S, v_19 S, r_19_0 S, r_19_1 S, r_19_2 S, r_19_3 S, i_19_4 S, i_19_5 S, i_19_6 S, i_19_7 S, v_24 S, r_24_0 S, r_24_1 S, r_24_2 S, r_24_3 S, i_24_4 S, j_24_5 S, v_28 S, r_28_0 S, r_28_1 S, r_28_2 S, v_30 S, r_30_0 S, r_30_1 S, r_30_2 S, r_30_3 S, i_30_4 S, i_30_5 S, v_33 S, r_33_0 S, r_33_1 S, r_33_2 S, r_33_3 S, i_33_4 S, i_33_5 S, v_37 S, r_37_0 S, r_37_1 S, i_37_2 S, i_37_3 S, i_37_4 S, f_X7_leastSet_b41, f_X7_leastSet_b55, f_X7_leastSet_b72, hne, hlt, e2, z1, nn_succ]
          · intro s' hs hs'
            have : nn i = nn s' := hs
            rw [nn_eq (by omega) (by omega)] at this
            rw [this]
        · rw [bI_f hg] at e2
          refine ⟨(b, bc), ?_, u2 (Or.inl hg), ?_⟩
          · show f_X7_leastSet_b8 (N + 1) 30 p (nn k) b bc (nn i) (st w I J) = _
            rw [e1]
            simp (disch := omega) only [bd_eq, pu_ap, if_true, if_false, not_true_eq_false, not_false_eq_true, eq_self, v_0 S, r_0_0 S, r_0_1 S, r_0_2 S, r_0_3 S, r_0_4 S, r_0_5 S, r_0_6 S, r_0_7 S, r_0_8 S, r_0_9 S, r_0_10 S, r_0_11 S, r_0_12 S, n_0_13 S, i_0_14 S, i_0_15 S, i_0_16 S, i_0_17 S, v_1 S, r_1_0 S, i_1_1 S, i_1_2 S, i_1_3 S, i_1_4 S, i_1_5 S, i_1_6 S, v_3 S, r_3_0 S, r_3_1 S, r_3_2 S, r_3_3 S, i_3_4 S, i_3_5 S, v_8 S, r_8_0 S, r_8_1 S, r_8_2 S, r_8_3 S, i_8_4 S, i_8_5 S, v_13 S, r_13_0 S, r_13_1 S, i_13_2 S, v_16 S, r_16_0 S, r_16_1 S, i_16_2 S, v_19 S, r_19_0 S, r_19_1 S, r_19_2 S, r_19_3 S, i_19_4 S, i_19_5 S, i_19_6 S, i_19_7 S, v_24 S, r_24_0 S, r_24_1 S, r_24_2 S, r_24_3 S, i_24_4 S, j_24_5 S, v_28 S, r_28_0 S, r_28_1 S, r_28_2 S, v_30 S, r_30_0 S, r_30_1 S, r_30_2 S, r_30_3 S, i_30_4 S, i_30_5 S, v_33 S, r_33_0 S, r_33_1 S, r_33_2 S, r_33_3 S, i_33_4 S, i_33_5 S, v_37 S, r_37_0 S, r_37_1 S, i_37_2 S, i_37_3 S, i_37_4 S, f_X7_leastSet_b41, f_X7_leastSet_b55, f_X7_leastSet_b72, hne, hlt, e2, z1, nn_succ]
          · intro s' hs hs'
            have : nn s = nn s' := l3.symm.trans hs
            rw [nn_eq (by omega) (by omega)] at this
            rw [← this]; exact hbc
  · intro N ⟨b, bc⟩ ⟨hL, hB⟩
    refine ⟨b, ?_, hL⟩
    have hn : 2 ^ sz F - 1 < 2 ^ sz F := by omega
    simp (disch := omega) only [bd_eq, pu_ap, if_true, if_false, not_true_eq_false, not_false_eq_true, eq_self, v_0 S, r_0_0 S, r_0_1 S, r_0_2 S, r_0_3 S, r_0_4 S, r_0_5 S, r_0_6 S, r_0_7 S, r_0_8 S, r_0_9 S, r_0_10 S, r_0_11 S, r_0_12 S, n_0_13 S, i_0_14 S, i_0_15 S, i_0_16 S, i_0_17 S, v_1 S, r_1_0 S, i_1_1 S, i_1_2 S, i_1_3 S, i_1_4 S, i_1_5 S, i_1_6 S, v_3 S, r_3_0 S, r_3_1 S, r_3_2 S, r_3_3 S, i_3_4 S, i_3_5 S, v_8 S, r_8_0 S, r_8_1 S, r_8_2 S, r_8_3 S, i_8_4 S, i_8_5 S, v_13 S, r_13_0 S, r_13_1 S, i_13_2 S, v_16 S, r_16_0 S, r_16_1 S, i_16_2 S, v_19 S, r_19_0 S, r_19_1 S, r_19_2 S, r_19_3 S, i_19_4 S, i_19_5 S, i_19_6 S, i_19_7 S, v_24 S, r_24_0 S, r_24_1 S, r_24_2 S, r_24_3 S, i_24_4 S, j_24_5 S, v_28 S, r_28_0 S, r_28_1 S, r_28_2 S, v_30 S, r_30_0 S, r_30_1 S, r_30_2 S, r_30_3 S, i_30_4 S, i_30_5 S, v_33 S, r_33_0 S, r_33_1 S, r_33_2 S, r_33_3 S, i_33_4 S, i_33_5 S, v_37 S, r_37_0 S, r_37_1 S, i_37_2 S, i_37_3 S, i_37_4 S, f_X7_leastSet_b8, c_every S HF h8, nn_lt, hn]
end SETS
