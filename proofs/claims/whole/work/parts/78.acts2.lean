/-! PURE PART: take, mood, year, copies of states, in both -/
def faceN (F : Fo) (L : Lw) (A : At) (a b h : Nat) : Nat := (faceB F L A a b (nn h) (nn (mo A a))).toNatClampNeg
theorem faceN_s (F : Fo) (L : Lw) (A : At) (a b h : Nat) : faceB F L A a b (nn h) (nn (mo A a)) = nn (faceN F L A a b h) ∧ faceN F L A a b h < 64 := by
  obtain ⟨f, hf, e⟩ := faceB_face F L A a b (nn h) (nn (mo A a))
  unfold faceN
  rw [e, nn_cl (by omega)]
  exact ⟨rfl, hf⟩
def takeA (F : Fo) (L : Lw) (A : At) (a b h : Nat) : At := ((hg A + 1, yr A), mo A, up1 (tk A) a (tk A a + 1), up1 (sa A) b (sa A b + 1), up1 (pl A) (hg A) (a, b, h, faceN F L A a b h, yr A))
abbrev tkOK (F : Fo) (A : At) (a b : Nat) : Prop := ¬ nev F a (nn b) ∧ hg A < 40
def tkA (F : Fo) (L : Lw) (A : At) (a b h : Nat) : At := if tkOK F A a b then takeA F L A a b h else A
def yearA (A : At) : At := ((hg A, yr A + 1), fun _ => 0, tk A, sa A, pl A)
def mdA (A : At) (a m : Nat) : At := if nn (mo A a) = nn m then A else setMo A a m
theorem tk_W {F : Fo} {A : At} (W : AtW F A) (L : Lw) {a b h : Nat} (ha : a < sz F) (hb : b < sz F) (hh : h < 6) : AtW F (tkA F L A a b h) := by
  unfold tkA
  by_cases ok : tkOK F A a b
  · rw [if_pos ok]
    refine ⟨show hg A + 1 ≤ 40 from ok.2, W.2.1, fun i hi => ?_⟩
    have hi' : i < hg A + 1 := hi
    show P5W (sz F) (up1 (pl A) (hg A) (a, b, h, faceN F L A a b h, yr A) i)
    by_cases e : i = hg A
    · rw [e, up1_s]
      exact ⟨ha, hb, hh, (faceN_s F L A a b h).2, W.2.1⟩
    · rw [up1_n e]
      exact W.2.2 i (by omega)
  · rw [if_neg ok]
    exact W
theorem sm8_up {t : Nat → Nat} {a : Nat} (ha : a < 8) : sm8 (up1 t a (t a + 1)) = sm8 t + 1 := by
  unfold sm8 up1
  have h : a = 0 ∨ a = 1 ∨ a = 2 ∨ a = 3 ∨ a = 4 ∨ a = 5 ∨ a = 6 ∨ a = 7 := by omega
  rcases h with h | h | h | h | h | h | h | h <;> subst h <;> simp <;> omega
theorem nn_p2 (k : Nat) : nn k + 2 = nn (k + 2) := nn_add k 2
theorem nn_p3 (k : Nat) : nn k + 3 = nn (k + 3) := nn_add k 3
theorem nn_p4 (k : Nat) : nn k + 4 = nn (k + 4) := nn_add k 4
theorem i32_ss (x y : Int32) : x + 1 - (y + 1) = x - y := by
  have h : x - y + (y + 1) = x + 1 := by rw [← Int32.add_assoc, Int32.sub_add_cancel]
  rw [← h, Int32.add_sub_cancel]
theorem ix51 (k : Nat) : ((28 : Int32) + ((5 : Int32) * nn k)) + 1 = nn (28 + 5 * k + 1) := ix5 k 1
theorem ix52 (k : Nat) : ((28 : Int32) + ((5 : Int32) * nn k)) + 2 = nn (28 + 5 * k + 2) := ix5 k 2
theorem ix53 (k : Nat) : ((28 : Int32) + ((5 : Int32) * nn k)) + 3 = nn (28 + 5 * k + 3) := ix5 k 3
theorem ix54 (k : Nat) : ((28 : Int32) + ((5 : Int32) * nn k)) + 4 = nn (28 + 5 * k + 4) := ix5 k 4
section ACT2
variable {w : Wd} {I : Is} {J : Js} {e r : Nat} {F : Fo} {A : At} {L : Lw}
theorem nn40 {k : Nat} (h : k ≤ 40) : (nn k < 40) = (k < 40) := nn_lt (b := 40) (by omega) (by decide)
theorem nn40e {k : Nat} (h : k ≤ 40) : (nn k = 40) = (k = 40) := nn_eq (b := 40) (by omega) (by decide)
theorem c_hang (T : StS w e) (H : StR I e A) (h40 : hg A < 40) {a b h f : Nat} (ha : a < 8) (hb : b < 8) (hh : h < 6) (hf : f < 64) : f_X5_hang e (nn a) (nn b) (nn h) (nn f) (st w I J) = some (.inl (), st w (up2 (up2 (up2 (up2 I (e + 4) (hg A) (nn (pkN (a, b, h, f, yr A)))) e 4 (nn (hg A + 1))) (e + 2) a (nn (tk A a + 1))) (e + 3) b (nn (sa A b + 1))) J) := by
  have p := pk_mk (y := yr A) ha hb (show h < 8 by omega) hf
  simp (disch := omega) only [bd_eq, pu_ap, if_true, if_false, not_true_eq_false, not_false_eq_true, eq_self, f_X5_hang, f_X5_isFull, e_v T, e_i4 T, e_i5 T, e_r3 T, e_r1 T, e_r2 T, sr_hg H, sr_yr H, nn40, h40, p, e_s4 T, up2_a, e_w4 T, nn_succ, e_l2 T, e_l3 T, sr_tk H, sr_sa H, e_s2 T, e_s3 T]
theorem c_take (S : Sw w) (HF : FoC I F) (h8 : sz F ≤ 8) (T : StS w e) (he : 29 < e) (HA : StR I e A) (WA : AtW F A) (HL : LwC I L) (WL : LwW L) {a b h : Nat} (ha : a < sz F) (hb : b < sz F) (hh : h < 6) : ∃ I1, f_X6_take 28 e (nn a) (nn b) (nn h) (st w I J) = some (.inl (bI (tkOK F A a b)), st w I1 J) ∧ Ag [15, 29, e, e + 2, e + 3, e + 4] I I1 ∧ StR I1 e (tkA F L A a b h) := by
  have h40 := WA.1
  unfold tkA
  by_cases hv : nev F a (nn b)
  · have ok : ¬ tkOK F A a b := fun q => q.1 hv
    refine ⟨I, ?_, Ag.refl _ _, by rw [if_neg ok]; exact HA⟩
    rw [bI_f ok]
    simp (disch := omega) only [bd_eq, pu_ap, if_true, if_false, not_true_eq_false, not_false_eq_true, eq_self, v_0 S, r_0_0 S, r_0_1 S, r_0_2 S, r_0_3 S, r_0_4 S, r_0_5 S, r_0_6 S, r_0_7 S, r_0_8 S, r_0_9 S, r_0_10 S, r_0_11 S, r_0_12 S, n_0_13 S, i_0_14 S, i_0_15 S, i_0_16 S, i_0_17 S, v_1 S, r_1_0 S, i_1_1 S, i_1_2 S, i_1_3 S, i_1_4 S, i_1_5 S, i_1_6 S, v_3 S, r_3_0 S, r_3_1 S, r_3_2 S, r_3_3 S, i_3_4 S, i_3_5 S, v_8 S, r_8_0 S, r_8_1 S, r_8_2 S, r_8_3 S, i_8_4 S, i_8_5 S, v_13 S, r_13_0 S, r_13_1 S, i_13_2 S, v_16 S, r_16_0 S, r_16_1 S, i_16_2 S, v_19 S, r_19_0 S, r_19_1 S, r_19_2 S, r_19_3 S, i_19_4 S, i_19_5 S, i_19_6 S, i_19_7 S, v_24 S, r_24_0 S, r_24_1 S, r_24_2 S, r_24_3 S, i_24_4 S, j_24_5 S, v_28 S, r_28_0 S, r_28_1 S, r_28_2 S, v_30 S, r_30_0 S, r_30_1 S, r_30_2 S, r_30_3 S, i_30_4 S, i_30_5 S, v_33 S, r_33_0 S, r_33_1 S, r_33_2 S, r_33_3 S, i_33_4 S, i_33_5 S, v_37 S, r_37_0 S, r_37_1 S, i_37_2 S, i_37_3 S, i_37_4 S, f_X6_take, c_never S HF h8, bI_0, eq_true hv]
  · by_cases hf : hg A < 40
    · have ok : tkOK F A a b := ⟨hv, hf⟩
      obtain ⟨I2, e2, a2⟩ := c_faceBy (J := J) S HF h8 T he HA HL WL ha hb (nn h) (nn (mo A a))
      have HA2 : StR I2 e A := HA.ag a2 (by intro q hq; simp at hq; omega)
      obtain ⟨n1, n2⟩ := faceN_s F L A a b h
      rw [n1] at e2
      have e3 := c_hang (J := J) T HA2 hf (show a < 8 by omega) (show b < 8 by omega) hh n2
      rw [if_pos ok, bI_t ok]
      refine ⟨up2 (up2 (up2 (up2 I2 (e + 4) (hg A) (nn (pkN (a, b, h, faceN F L A a b h, yr A)))) e 4 (nn (hg A + 1))) (e + 2) a (nn (tk A a + 1))) (e + 3) b (nn (sa A b + 1)), ?_, ?_, ?_⟩
      · simp (disch := omega) only [bd_eq, pu_ap, if_true, if_false, not_true_eq_false, not_false_eq_true, eq_self, v_0 S, r_0_0 S, r_0_1 S, r_0_2 S, r_0_3 S, r_0_4 S, r_0_5 S, r_0_6 S, r_0_7 S, r_0_8 S, r_0_9 S, r_0_10 S, r_0_11 S, r_0_12 S, n_0_13 S, i_0_14 S, i_0_15 S, i_0_16 S, i_0_17 S, v_1 S, r_1_0 S, i_1_1 S, i_1_2 S, i_1_3 S, i_1_4 S, i_1_5 S, i_1_6 S, v_3 S, r_3_0 S, r_3_1 S, r_3_2 S, r_3_3 S, i_3_4 S, i_3_5 S, v_8 S, r_8_0 S, r_8_1 S, r_8_2 S, r_8_3 S, i_8_4 S, i_8_5 S, v_13 S, r_13_0 S, r_13_1 S, i_13_2 S, v_16 S, r_16_0 S, r_16_1 S, i_16_2 S, v_19 S, r_19_0 S, r_19_1 S, r_19_2 S, r_19_3 S, i_19_4 S, i_19_5 S, i_19_6 S, i_19_7 S, v_24 S, r_24_0 S, r_24_1 S, r_24_2 S, r_24_3 S, i_24_4 S, j_24_5 S, v_28 S, r_28_0 S, r_28_1 S, r_28_2 S, v_30 S, r_30_0 S, r_30_1 S, r_30_2 S, r_30_3 S, i_30_4 S, i_30_5 S, v_33 S, r_33_0 S, r_33_1 S, r_33_2 S, r_33_3 S, i_33_4 S, i_33_5 S, v_37 S, r_37_0 S, r_37_1 S, i_37_2 S, i_37_3 S, i_37_4 S, f_X6_take, c_never S HF h8, bI_0, eq_false hv, e_v T, f_X5_isFull, e_i4 T, sr_hg HA, nn40, hf, e_r0 T, e_l1 T, sr_mo HA, e2, e3]
      · exact ((((a2.mono (by simp)).up (by simp)).up (by simp)).up (by simp)).up (by simp)
      · refine ⟨?_, ?_, fun p hp => ⟨?_, ?_, ?_⟩, fun i hi => ?_⟩
        · rw [up2_a (by omega), up2_a (by omega), up2_s]
          rfl
        · rw [up2_a (by omega), up2_a (by omega), up2_k (by decide), up2_a (by omega)]
          exact HA2.2.1
        · rw [up2_a (by omega), up2_a (by omega), up2_a (by omega), up2_a (by omega)]
          exact (HA2.2.2.1 p hp).1
        · rw [up2_a (by omega)]
          show _ = nn (up1 (tk A) a (tk A a + 1) p)
          by_cases q : p = a
          · rw [q, up2_s, up1_s]
          · rw [up2_k q, up1_n q, up2_a (by omega), up2_a (by omega)]
            exact (HA2.2.2.1 p hp).2.1
        · show _ = nn (up1 (sa A) b (sa A b + 1) p)
          by_cases q : p = b
          · rw [q, up2_s, up1_s]
          · rw [up2_k q, up1_n q, up2_a (by omega), up2_a (by omega), up2_a (by omega)]
            exact (HA2.2.2.1 p hp).2.2
        · have hi' : i < hg A + 1 := hi
          rw [up2_a (by omega), up2_a (by omega), up2_a (by omega)]
          show _ = nn (pkN (up1 (pl A) (hg A) _ i))
          by_cases q : i = hg A
          · rw [q, up2_s, up1_s]
          · rw [up2_k q, up1_n q]
            exact HA2.2.2.2 i (by omega)
    · have ok : ¬ tkOK F A a b := fun q => hf q.2
      refine ⟨I, ?_, Ag.refl _ _, by rw [if_neg ok]; exact HA⟩
      rw [bI_f ok]
      simp (disch := omega) only [bd_eq, pu_ap, if_true, if_false, not_true_eq_false, not_false_eq_true, eq_self, v_0 S, r_0_0 S, r_0_1 S, r_0_2 S, r_0_3 S, r_0_4 S, r_0_5 S, r_0_6 S, r_0_7 S, r_0_8 S, r_0_9 S, r_0_10 S, r_0_11 S, r_0_12 S, n_0_13 S, i_0_14 S, i_0_15 S, i_0_16 S, i_0_17 S, v_1 S, r_1_0 S, i_1_1 S, i_1_2 S, i_1_3 S, i_1_4 S, i_1_5 S, i_1_6 S, v_3 S, r_3_0 S, r_3_1 S, r_3_2 S, r_3_3 S, i_3_4 S, i_3_5 S, v_8 S, r_8_0 S, r_8_1 S, r_8_2 S, r_8_3 S, i_8_4 S, i_8_5 S, v_13 S, r_13_0 S, r_13_1 S, i_13_2 S, v_16 S, r_16_0 S, r_16_1 S, i_16_2 S, v_19 S, r_19_0 S, r_19_1 S, r_19_2 S, r_19_3 S, i_19_4 S, i_19_5 S, i_19_6 S, i_19_7 S, v_24 S, r_24_0 S, r_24_1 S, r_24_2 S, r_24_3 S, i_24_4 S, j_24_5 S, v_28 S, r_28_0 S, r_28_1 S, r_28_2 S, v_30 S, r_30_0 S, r_30_1 S, r_30_2 S, r_30_3 S, i_30_4 S, i_30_5 S, v_33 S, r_33_0 S, r_33_1 S, r_33_2 S, r_33_3 S, i_33_4 S, i_33_5 S, v_37 S, r_37_0 S, r_37_1 S, i_37_2 S, i_37_3 S, i_37_4 S, f_X6_take, c_never S HF h8, bI_0, eq_false hv, e_v T, f_X5_isFull, e_i4 T, sr_hg HA, nn40, hf, show ((1 : Int32) = 0) = False from by decide]
theorem m_takes (S : Sw w) (HF : FoM I F) (h8 : sz F ≤ 8) (T : RoS w r) (hr : 415 < r) (HA : RwR I r 0 A) (WA : AtW F A) (HL : LwM I L) (WL : LwW L) {a b h : Nat} (ha : a < sz F) (hb : b < sz F) (hh : h < 6) : ∃ I1, f_X12_takesOne 49 r (nn a) (nn b) (nn h) (st w I J) = some (.inl (bI (tkOK F A a b)), st w I1 J) ∧ Ag [414, 415, r] I I1 ∧ RwR I1 r 0 (tkA F L A a b h) := by
  have h40 := WA.1
  unfold tkA
  by_cases hv : nev F a (nn b)
  · have ok : ¬ tkOK F A a b := fun q => q.1 hv
    refine ⟨I, ?_, Ag.refl _ _, by rw [if_neg ok]; exact HA⟩
    rw [bI_f ok]
    simp (disch := omega) only [bd_eq, pu_ap, if_true, if_false, not_true_eq_false, not_false_eq_true, eq_self, v_49 S, i_49_0 S, i_49_1 S, i_49_2 S, i_49_3 S, i_49_4 S, i_49_5 S, i_49_6 S, i_49_7 S, i_49_8 S, r_49_9 S, r_49_10 S, r_49_11 S, r_49_12 S, r_49_13 S, r_49_14 S, r_49_15 S, r_49_16 S, i_49_17 S, i_49_18 S, r_49_19 S, r_49_20 S, r_49_21 S, r_49_22 S, r_49_23 S, r_49_24 S, r_49_25 S, i_49_26 S, r_49_27 S, r_49_28 S, r_49_29 S, r_49_30 S, i_49_31 S, i_49_32 S, i_49_33 S, i_49_34 S, i_49_35 S, i_49_36 S, i_49_37 S, r_49_38 S, i_49_39 S, i_49_40 S, r_49_41 S, r_49_42 S, r_49_43 S, i_49_44 S, r_49_45 S, i_49_46 S, i_49_47 S, i_49_48 S, l_53_0 S, l_53_1 S, f_X12_takesOne, l_55 S, fm_sy HF, m_has, bI_0, eq_true hv]
  · by_cases hf : hg A < 40
    · have ok : tkOK F A a b := ⟨hv, hf⟩
      have hf' : ¬ hg A = 40 := by omega
      obtain ⟨I2, e2, a2⟩ := m_shownBy (J := J) S HF h8 T hr HA HL WL ha hb (nn h)
      have HA2 : RwR I2 r 0 A := HA.ag a2 (by simp; omega)
      obtain ⟨n1, n2⟩ := faceN_s F L A a b h
      rw [n1] at e2
      rw [if_pos ok, bI_t ok]
      refine ⟨up2 (up2 (up2 (up2 (up2 (up2 (up2 (up2 (up2 I2 r (28 + 5 * hg A + 3) (nn (faceN F L A a b h))) r (28 + 5 * hg A) (nn a)) r (28 + 5 * hg A + 1) (nn b)) r (28 + 5 * hg A + 2) (nn h)) r (28 + 5 * hg A + 4) (nn (yr A))) r (8 + a) (nn (tk A a + 1))) r (16 + b) (nn (sa A b + 1))) r 24 (nn (hg A + 1))) r 25 (nn (sm8 (tk A) + 1)), ?_, ?_, ?_⟩
      · simp (disch := omega) only [bd_eq, pu_ap, if_true, if_false, not_true_eq_false, not_false_eq_true, eq_self, v_49 S, i_49_0 S, i_49_1 S, i_49_2 S, i_49_3 S, i_49_4 S, i_49_5 S, i_49_6 S, i_49_7 S, i_49_8 S, r_49_9 S, r_49_10 S, r_49_11 S, r_49_12 S, r_49_13 S, r_49_14 S, r_49_15 S, r_49_16 S, i_49_17 S, i_49_18 S, r_49_19 S, r_49_20 S, r_49_21 S, r_49_22 S, r_49_23 S, r_49_24 S, r_49_25 S, i_49_26 S, r_49_27 S, r_49_28 S, r_49_29 S, r_49_30 S, i_49_31 S, i_49_32 S, i_49_33 S, i_49_34 S, i_49_35 S, i_49_36 S, i_49_37 S, r_49_38 S, i_49_39 S, i_49_40 S, r_49_41 S, r_49_42 S, r_49_43 S, i_49_44 S, r_49_45 S, i_49_46 S, i_49_47 S, i_49_48 S, l_53_0 S, l_53_1 S, f_X12_takesOne, l_55 S, fm_sy HF, m_has, bI_0, eq_false hv, o_l24 T, rr_hg HA, nn40e, hf', e2, ix50, nn_p2, nn_p3, nn_p4, o_s T, o_l27 T, up2_k, rr_yr HA2, ix8, ix16, o_l T, rr_tk HA2, rr_sa HA2, nn_succ, rr_hg HA2, o_s24 T, o_l25 T, rr_tn HA2, o_s25 T]
      · exact (((((((((a2.mono (by simp)).up (by simp)).up (by simp)).up (by simp)).up (by simp)).up (by simp)).up (by simp)).up (by simp)).up (by simp)).up (by simp)
      · have u := HA2
        obtain ⟨m1, ⟨m2, m3, m4, m5⟩, m6⟩ := HA2
        simp only [Nat.zero_add] at m1 m2 m3 m4 m5 m6
        refine ⟨fun p hp => ?_, ⟨?_, ?_, ?_, ?_⟩, fun i hi => ?_⟩
        · obtain ⟨z1, z2, z3⟩ := m1 p hp
          simp only [Nat.zero_add]
          refine ⟨?_, ?_, ?_⟩
          · simp (disch := omega) only [up2_k]
            exact z1
          · show _ = nn (up1 (tk A) a (tk A a + 1) p)
            by_cases q : p = a
            · subst q
              simp (disch := omega) only [up2_k, up2_s, up1_s]
            · simp (disch := omega) only [up2_k, up1_n]
              exact z2
          · show _ = nn (up1 (sa A) b (sa A b + 1) p)
            by_cases q : p = b
            · subst q
              simp (disch := omega) only [up2_k, up2_s, up1_s]
            · simp (disch := omega) only [up2_k, up1_n]
              exact z3
        · simp (disch := omega) only [Nat.zero_add, up2_k, up2_s]
          rfl
        · simp (disch := omega) only [Nat.zero_add, up2_s]
          rw [show sm8 (tk (takeA F L A a b h)) = sm8 (tk A) + 1 from sm8_up (show a < 8 by omega)]
        · simp (disch := omega) only [Nat.zero_add, up2_k]
          rw [m4, show sm8 (tk (takeA F L A a b h)) = sm8 (tk A) + 1 from sm8_up (show a < 8 by omega), show hg (takeA F L A a b h) = hg A + 1 from rfl, ← nn_succ, ← nn_succ]
          exact (i32_ss _ _).symm
        · simp (disch := omega) only [Nat.zero_add, up2_k]
          exact m5
        · have hi' : i < hg A + 1 := hi
          simp only [Nat.zero_add]
          by_cases q : i = hg A
          · subst q
            have ep : pl (takeA F L A a b h) (hg A) = (a, b, h, faceN F L A a b h, yr A) := up1_s
            simp only [pA, pB, pH, pF, pY, ep]
            refine ⟨?_, ?_, ?_, ?_, ?_⟩ <;> simp (disch := omega) only [up2_k, up2_s]
          · have ep : pl (takeA F L A a b h) i = pl A i := up1_n q
            simp only [pA, pB, pH, pF, pY, ep]
            simp (disch := omega) only [up2_k]
            exact m6 i (by omega)
    · have ok : ¬ tkOK F A a b := fun q => hf q.2
      have hf' : hg A = 40 := by omega
      refine ⟨I, ?_, Ag.refl _ _, by rw [if_neg ok]; exact HA⟩
      rw [bI_f ok]
      simp (disch := omega) only [bd_eq, pu_ap, if_true, if_false, not_true_eq_false, not_false_eq_true, eq_self, v_49 S, i_49_0 S, i_49_1 S, i_49_2 S, i_49_3 S, i_49_4 S, i_49_5 S, i_49_6 S, i_49_7 S, i_49_8 S, r_49_9 S, r_49_10 S, r_49_11 S, r_49_12 S, r_49_13 S, r_49_14 S, r_49_15 S, r_49_16 S, i_49_17 S, i_49_18 S, r_49_19 S, r_49_20 S, r_49_21 S, r_49_22 S, r_49_23 S, r_49_24 S, r_49_25 S, i_49_26 S, r_49_27 S, r_49_28 S, r_49_29 S, r_49_30 S, i_49_31 S, i_49_32 S, i_49_33 S, i_49_34 S, i_49_35 S, i_49_36 S, i_49_37 S, r_49_38 S, i_49_39 S, i_49_40 S, r_49_41 S, r_49_42 S, r_49_43 S, i_49_44 S, r_49_45 S, i_49_46 S, i_49_47 S, i_49_48 S, l_53_0 S, l_53_1 S, f_X12_takesOne, l_55 S, fm_sy HF, m_has, bI_0, eq_false hv, o_l24 T, rr_hg HA, nn40e, hf']
-- the year turns
theorem c_turnYear (T : StS w e) (H : StR I e A) : ∃ I1, f_X5_turnYear e (st w I J) = some (.inl (), st w I1 J) ∧ Ag [e, e + 1] I I1 ∧ StR I1 e (yearA A) := by
  simp (disch := omega) only [bd_eq, pu_ap, if_true, if_false, not_true_eq_false, not_false_eq_true, eq_self, f_X5_turnYear, e_i5 T, sr_yr H, e_w5 T, nn_succ]
  refine loopQ (fun N i (I1 : Is) => f_X5_turnYear_b12 N e (nn i) (st w I1 J)) 8 (fun i I1 => Ag [e + 1] (up2 I e 5 (nn (yr A + 1))) I1 ∧ ∀ p, p < i → I1 (e + 1) p = 0) (fun z => ∃ I1, z = some (.inl (), st w I1 J) ∧ Ag [e, e + 1] I I1 ∧ StR I1 e (yearA A)) ?_ ?_ 8 0 (up2 I e 5 (nn (yr A + 1))) NF (by omega) (NF_gt (by omega)) ⟨Ag.refl _ _, fun k hk => by omega⟩
  · intro N i I1 hi ⟨a1, h1⟩
    left
    have hn : ¬ (8 : Int32) ≤ nn i := by
      rw [show (8 : Int32) = nn 8 from rfl, nn_le (by omega) (by omega)]
      omega
    refine ⟨up2 I1 (e + 1) i 0, ?_, a1.up (by simp), fun p hp => ?_⟩
    · simp (disch := omega) only [bd_eq, pu_ap, if_true, if_false, not_true_eq_false, not_false_eq_true, eq_self, f_X5_turnYear_b12, hn, e_r0 T, e_s1 T, nn_succ]
    · by_cases q : p = i
      · rw [q, up2_s]
      · rw [up2_k q]
        exact h1 p (by omega)
  · intro N I1 ⟨a1, h1⟩
    refine ⟨I1, ?_, ?_, ?_⟩
    · simp (disch := omega) only [bd_eq, pu_ap, if_true, if_false, not_true_eq_false, not_false_eq_true, eq_self, f_X5_turnYear_b12, show ((8 : Int32) ≤ nn 8) = True from by decide]
    · exact (((Ag.refl _ I).up (by simp)).trans (a1.mono (by simp)))
    · refine ⟨?_, ?_, fun p hp => ⟨h1 p hp, ?_, ?_⟩, fun i hi => ?_⟩
      · rw [a1.at 4 (by simp), up2_k (by decide)]
        exact H.1
      · rw [a1.at 5 (by simp), up2_s]
        rfl
      · rw [a1.at p (by simp), up2_a (by omega)]
        exact (H.2.2.1 p hp).2.1
      · rw [a1.at p (by simp), up2_a (by omega)]
        exact (H.2.2.1 p hp).2.2
      · rw [a1.at i (by simp), up2_a (by omega)]
        exact H.2.2.2 i hi
theorem m_yearEnds (T : RoS w r) (H : RwR I r 0 A) : ∃ I1, f_X12_yearEnds r (st w I J) = some (.inl (), st w I1 J) ∧ Ag [r] I I1 ∧ RwR I1 r 0 (yearA A) := by
  simp (disch := omega) only [bd_eq, pu_ap, if_true, if_false, not_true_eq_false, not_false_eq_true, eq_self, f_X12_yearEnds, o_l27 T, rr_yr H, o_s27 T, nn_succ]
  refine loopQ (fun N i (I1 : Is) => f_X12_yearEnds_b10 N r (nn i) (st w I1 J)) 8 (fun i I1 => Ag [r] I I1 ∧ (∀ p, p < i → I1 r p = 0) ∧ (∀ p, 8 ≤ p → p ≠ 27 → I1 r p = I r p) ∧ I1 r 27 = nn (yr A + 1)) (fun z => ∃ I1, z = some (.inl (), st w I1 J) ∧ Ag [r] I I1 ∧ RwR I1 r 0 (yearA A)) ?_ ?_ 8 0 (up2 I r 27 (nn (yr A + 1))) NF (by omega) (NF_gt (by omega)) ⟨(Ag.refl _ _).up (by simp), fun k hk => by omega, fun p _ hp => up2_k hp, up2_s⟩
  · intro N i I1 hi ⟨a1, h1, h2, h3⟩
    left
    have hn : ¬ (8 : Int32) ≤ nn i := by
      rw [show (8 : Int32) = nn 8 from rfl, nn_le (by omega) (by omega)]
      omega
    refine ⟨up2 I1 r i 0, ?_, a1.up (by simp), fun p hp => ?_, fun p hp hq => ?_, ?_⟩
    · simp (disch := omega) only [bd_eq, pu_ap, if_true, if_false, not_true_eq_false, not_false_eq_true, eq_self, f_X12_yearEnds_b10, hn, ix0, o_s T, nn_succ]
    · by_cases q : p = i
      · rw [q, up2_s]
      · rw [up2_k q]
        exact h1 p (by omega)
    · rw [up2_k (by omega)]
      exact h2 p hp hq
    · rw [up2_k (by omega)]
      exact h3
  · intro N I1 ⟨a1, h1, h2, h3⟩
    refine ⟨I1, ?_, a1, ?_⟩
    · simp (disch := omega) only [bd_eq, pu_ap, if_true, if_false, not_true_eq_false, not_false_eq_true, eq_self, f_X12_yearEnds_b10, show ((8 : Int32) ≤ nn 8) = True from by decide]
    · obtain ⟨m1, ⟨m2, m3, m4, m5⟩, m6⟩ := H
      simp only [Nat.zero_add] at m1 m2 m3 m4 m5 m6
      refine ⟨fun p hp => ?_, ⟨?_, ?_, ?_, ?_⟩, fun i hi => ?_⟩
      · obtain ⟨z1, z2, z3⟩ := m1 p hp
        simp only [Nat.zero_add]
        refine ⟨h1 p hp, ?_, ?_⟩
        · rw [h2 _ (by omega) (by omega)]; exact z2
        · rw [h2 _ (by omega) (by omega)]; exact z3
      · simp only [Nat.zero_add]
        rw [h2 _ (by omega) (by omega)]; exact m2
      · simp only [Nat.zero_add]
        rw [h2 _ (by omega) (by omega)]; exact m3
      · simp only [Nat.zero_add]
        rw [h2 _ (by omega) (by omega)]; exact m4
      · simp only [Nat.zero_add]
        exact h3
      · simp only [Nat.zero_add]
        rw [h2 _ (by omega) (by omega), h2 _ (by omega) (by omega), h2 _ (by omega) (by omega), h2 _ (by omega) (by omega), h2 _ (by omega) (by omega)]
        exact m6 i hi
-- moods
theorem StR.mood (H : StR I e A) {a m : Nat} (ha : a < 8) : StR (up2 I (e + 1) a (nn m)) e (mdA A a m) := by
  unfold mdA
  by_cases hq : nn (mo A a) = nn m
  · rw [if_pos hq]
    refine ⟨?_, ?_, fun p hp => ⟨?_, ?_, ?_⟩, fun i hi => ?_⟩
    · rw [up2_a (by omega)]; exact H.1
    · rw [up2_a (by omega)]; exact H.2.1
    · by_cases q : p = a
      · rw [q, up2_s, hq]
      · rw [up2_k q]; exact (H.2.2.1 p hp).1
    · rw [up2_a (by omega)]; exact (H.2.2.1 p hp).2.1
    · rw [up2_a (by omega)]; exact (H.2.2.1 p hp).2.2
    · rw [up2_a (by omega)]; exact H.2.2.2 i hi
  · rw [if_neg hq]
    refine ⟨?_, ?_, fun p hp => ⟨?_, ?_, ?_⟩, fun i hi => ?_⟩
    · rw [up2_a (by omega)]; exact H.1
    · rw [up2_a (by omega)]; exact H.2.1
    · show _ = nn (up1 (mo A) a m p)
      by_cases q : p = a
      · rw [q, up2_s, up1_s]
      · rw [up2_k q, up1_n q]; exact (H.2.2.1 p hp).1
    · rw [up2_a (by omega)]; exact (H.2.2.1 p hp).2.1
    · rw [up2_a (by omega)]; exact (H.2.2.1 p hp).2.2
    · rw [up2_a (by omega)]; exact H.2.2.2 i hi
theorem c_setMood (T : StS w e) (H : StR I e A) {a m : Nat} (ha : a < 8) : f_X5_setMood e (nn a) (nn m) (st w I J) = some (.inl (bI (¬ nn (mo A a) = nn m)), st w (up2 I (e + 1) a (nn m)) J) := by
  by_cases hq : nn (mo A a) = nn m
  · rw [bI_f (fun h => h hq)]
    simp (disch := omega) only [bd_eq, pu_ap, if_true, if_false, not_true_eq_false, not_false_eq_true, eq_self, f_X5_setMood, f_X5_setMood_b15, e_r0 T, e_l1 T, sr_mo H, hq, e_s1 T, rz0]
  · rw [bI_t hq]
    simp (disch := omega) only [bd_eq, pu_ap, if_true, if_false, not_true_eq_false, not_false_eq_true, eq_self, f_X5_setMood, f_X5_setMood_b15, e_r0 T, e_l1 T, sr_mo H, hq, e_s1 T, rz1]
-- the class copies a state
theorem cp_st {a0 a1 m0 m1 k : Nat} {x : Int32} (hx : x = nn k) (hk : k < 2147483648) (h0 : a0 < w.1) (h1 : a1 < w.1) (s0 : w.2.2.1 a0 = .inl (0, m0, 0)) (s1 : w.2.2.1 a1 = .inl (0, m1, 0)) (hm0 : k ≤ m0) (hm1 : k ≤ m1) : cp_ a0 0 a1 0 x (st w I J) = some (.inl (), st w (up1 I a1 (va_cpy (I a0) (I a1) 0 0 k)) J) := by
  subst hx
  have z : (0 : Int32).toNatClampNeg = 0 := by decide
  have q := m_cp (n := w.1) (q := w.2.1) (I := I) (J := J) (R := w.2.2.2) (sp := 0) (dp := 0) (k := nn k) h0 h1 s0 s1 ⟨by decide, by decide, nn_nneg hk, by rw [z, nn_cl hk]; omega, by rw [z, nn_cl hk]; omega⟩
  rw [z, nn_cl hk] at q
  exact q
theorem c_copyFrom {e' : Nat} (T : StS w e) (T' : StS w e') (hd : e + 4 < e' ∨ e' + 4 < e) (H : StR I e' A) (h40 : hg A ≤ 40) : ∃ I1, f_X5_copyFrom e e' (st w I J) = some (.inl (), st w I1 J) ∧ Ag [e, e + 1, e + 2, e + 3, e + 4] I I1 ∧ StR I1 e A := by
  have b0 := T.1
  have b1 := T'.1
  have c1 := fun (I : Is) => cp_st (I := I) (J := J) (x := 8) (k := 8) rfl (by decide) (show e' + 1 < w.1 by omega) (show e + 1 < w.1 by omega) T'.2.2.1.1 T.2.2.1.1 (by decide) (by decide)
  have c2 := fun (I : Is) => cp_st (I := I) (J := J) (x := 8) (k := 8) rfl (by decide) (show e' + 2 < w.1 by omega) (show e + 2 < w.1 by omega) T'.2.2.1.2.1 T.2.2.1.2.1 (by decide) (by decide)
  have c3 := fun (I : Is) => cp_st (I := I) (J := J) (x := 8) (k := 8) rfl (by decide) (show e' + 3 < w.1 by omega) (show e + 3 < w.1 by omega) T'.2.2.1.2.2.1 T.2.2.1.2.2.1 (by decide) (by decide)
  have c4 := fun (I : Is) => cp_st (I := I) (J := J) (x := 40) (k := 40) rfl (by decide) (show e' + 4 < w.1 by omega) (show e + 4 < w.1 by omega) T'.2.2.1.2.2.2 T.2.2.1.2.2.2 (by decide) (by decide)
  refine ⟨up2 (up2 (up1 (up1 (up1 (up1 I (e + 1) (va_cpy (I (e' + 1)) (I (e + 1)) 0 0 8)) (e + 2) (va_cpy (I (e' + 2)) (I (e + 2)) 0 0 8)) (e + 3) (va_cpy (I (e' + 3)) (I (e + 3)) 0 0 8)) (e + 4) (va_cpy (I (e' + 4)) (I (e + 4)) 0 0 40)) e 4 (nn (hg A))) e 5 (nn (yr A)), ?_, ?_, ?_⟩
  · unfold f_X5_copyFrom
    rw [bd_st (e_r0 T'), bd_st (e_r0 T), bd_st (c1 _), bd_st (e_r1 T'), bd_st (e_r1 T), bd_st (c2 _), bd_st (e_r2 T'), bd_st (e_r2 T), bd_st (c3 _), bd_st (e_r3 T'), bd_st (e_r3 T), bd_st (c4 _), bd_st (e_i4 T'), bd_st (e_w4 T), bd_st (e_i5 T'), bd_st (e_w5 T)]
    simp (disch := omega) only [up1_n, up2_a, sr_hg H, sr_yr H]
    rfl
  · intro a ha
    simp only [List.mem_cons, List.not_mem_nil, or_false, not_or] at ha
    obtain ⟨x0, x1, x2, x3, x4⟩ := ha
    rw [up2_ra x0, up2_ra x0, up1_n x4, up1_n x3, up1_n x2, up1_n x1]
  · refine ⟨?_, ?_, fun p hp => ⟨?_, ?_, ?_⟩, fun i hi => ?_⟩
    · rw [up2_k (by decide), up2_s]
    · rw [up2_s]
    · rw [up2_a (by omega), up2_a (by omega)]
      simp (disch := omega) only [up1_n, up1_s, va_cpy]
      rw [if_pos (by omega), Nat.zero_add, Nat.sub_zero]
      exact (H.2.2.1 p hp).1
    · rw [up2_a (by omega), up2_a (by omega)]
      simp (disch := omega) only [up1_n, up1_s, va_cpy]
      rw [if_pos (by omega), Nat.zero_add, Nat.sub_zero]
      exact (H.2.2.1 p hp).2.1
    · rw [up2_a (by omega), up2_a (by omega)]
      simp (disch := omega) only [up1_n, up1_s, va_cpy]
      rw [if_pos (by omega), Nat.zero_add, Nat.sub_zero]
      exact (H.2.2.1 p hp).2.2
    · rw [up2_a (by omega), up2_a (by omega)]
      simp (disch := omega) only [up1_n, up1_s, va_cpy]
      rw [if_pos (by omega), Nat.zero_add, Nat.sub_zero]
      exact H.2.2.2 i hi
end ACT2
