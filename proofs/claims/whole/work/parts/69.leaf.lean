/-! PURE PART: small methods of both sides -/
/-- a loop by its invariant; it may leave early -/
theorem loopQ {α β : Type} (B : Nat → Nat → α → β) (e : Nat) (P : Nat → α → Prop) (Q : β → Prop)
    (hs : ∀ N i x, i < e → P i x → (∃ y, B (N + 1) i x = B N (i + 1) y ∧ P (i + 1) y) ∨ Q (B (N + 1) i x)) (he : ∀ N x, P e x → Q (B (N + 1) e x)) :
    ∀ d i x N, i + d = e → d < N → P i x → Q (B N i x) := by
  intro d
  induction d with
  | zero =>
    intro i x N hi hN hP
    obtain ⟨N, rfl⟩ : ∃ M, N = M + 1 := ⟨N - 1, by omega⟩
    have : i = e := by omega
    subst this
    exact he N x hP
  | succ d ih =>
    intro i x N hi hN hP
    obtain ⟨N, rfl⟩ : ∃ M, N = M + 1 := ⟨N - 1, by omega⟩
    rcases hs N i x (by omega) hP with ⟨y, h1, h2⟩ | h
    · rw [h1]
      exact ih (i + 1) y N (by omega) (by omega) h2
    · exact h
theorem nn_xor (a b : Nat) : nn a ^^^ nn b = nn (a ^^^ b) := by
  refine Int32.toBitVec_inj.1 ?_
  show (Int32.ofNat a ^^^ Int32.ofNat b).toBitVec = (Int32.ofNat (a ^^^ b)).toBitVec
  rw [Int32.toBitVec_xor, Int32.toBitVec_ofNat', Int32.toBitVec_ofNat', Int32.toBitVec_ofNat', BitVec.ofNat_xor]
theorem xor64 {a b : Nat} (ha : a < 64) (hb : b < 64) : a ^^^ b < 64 := Nat.xor_lt_two_pow (n := 6) ha hb
theorem ones_all : ∀ z, z < 256 → lp (fun i (x : Int32) => x + ((nn z >>> (nn i &&& 31)) &&& 1)) 8 0 0 = bc32 (nn z) := by decide +kernel
theorem m_ones {z : Nat} (hz : z < 256) {σ : PS} : f_X12_ones (nn z) σ = some (.inl (bc32 (nn z)), σ) := by
  rw [← ones_all z hz]
  unfold f_X12_ones
  refine loopL (fun N i x => f_X12_ones_b4 N (nn z) x (nn i) σ) 8 (fun i (x : Int32) => x + ((nn z >>> (nn i &&& 31)) &&& 1)) (fun x => some (.inl x, σ)) ?_ ?_ 0 (by decide) (NF_gt (by decide))
  · intro N i x hi
    have h1 : ¬ (8 : Int32) ≤ nn i := by
      rw [show (8 : Int32) = nn 8 from rfl, nn_le (by decide) (by omega)]
      omega
    simp (disch := omega) only [bd_eq, pu_ap, if_true, if_false, not_true_eq_false, not_false_eq_true, eq_self, f_X12_ones_b4, h1, nn_succ]
  · intro N x
    simp (disch := omega) only [bd_eq, pu_ap, if_true, if_false, not_true_eq_false, not_false_eq_true, eq_self, f_X12_ones_b4, show ((8 : Int32) ≤ nn 8) = True from by decide]
theorem m_onesx {a b : Nat} (ha : a < 64) (hb : b < 64) {σ : PS} : f_X12_ones (nn a ^^^ nn b) σ = some (.inl (bc32 (nn a ^^^ nn b)), σ) := by
  rw [nn_xor]
  exact m_ones (Nat.lt_trans (xor64 ha hb) (by decide))
theorem m_onesy {a b : Nat} (ha : a < 64) (hb : b < 64) {σ : PS} : f_X12_ones (nn a ^^^ nn b) σ = some (.inl (bc32 (nn b ^^^ nn a)), σ) := by
  rw [m_onesx ha hb, Int32.xor_comm]
abbrev nev (F : Fo) (a : Nat) (y : Int32) : Prop := ((nn (sy F a) >>> (y &&& 31)) &&& 1) = 1
abbrev alk (F : Fo) (x y : Int32) : Prop := ¬ nn (ak F) < bc32 (x ^^^ y)
theorem m_has {x y : Int32} {σ : PS} : f_X12_has x y σ = some (.inl (bI (((x >>> (y &&& 31)) &&& 1) = 1)), σ) := by
  unfold f_X12_has bI
  by_cases h : ((x >>> (y &&& 31)) &&& 1) = 1
  · rw [if_pos h, if_pos h]; rfl
  · rw [if_neg h, if_neg h]; rfl
section LEAF
variable {w : Wd} {I : Is} {J : Js} {e : Nat} {F : Fo} {A : At}
theorem c_never (S : Sw w) (H : FoC I F) (h8 : sz F ≤ 8) {a : Nat} (ha : a < sz F) (y : Int32) : f_X2_never 3 (nn a) y (st w I J) = some (.inl (bI (nev F a y)), st w I J) := by
  by_cases h : nev F a y
  · rw [bI_t h]
    simp (disch := omega) only [bd_eq, pu_ap, if_true, if_false, not_true_eq_false, not_false_eq_true, eq_self, v_0 S, r_0_0 S, r_0_1 S, r_0_2 S, r_0_3 S, r_0_4 S, r_0_5 S, r_0_6 S, r_0_7 S, r_0_8 S, r_0_9 S, r_0_10 S, r_0_11 S, r_0_12 S, n_0_13 S, i_0_14 S, i_0_15 S, i_0_16 S, i_0_17 S, v_1 S, r_1_0 S, i_1_1 S, i_1_2 S, i_1_3 S, i_1_4 S, i_1_5 S, i_1_6 S, v_3 S, r_3_0 S, r_3_1 S, r_3_2 S, r_3_3 S, i_3_4 S, i_3_5 S, v_8 S, r_8_0 S, r_8_1 S, r_8_2 S, r_8_3 S, i_8_4 S, i_8_5 S, v_13 S, r_13_0 S, r_13_1 S, i_13_2 S, v_16 S, r_16_0 S, r_16_1 S, i_16_2 S, v_19 S, r_19_0 S, r_19_1 S, r_19_2 S, r_19_3 S, i_19_4 S, i_19_5 S, i_19_6 S, i_19_7 S, v_24 S, r_24_0 S, r_24_1 S, r_24_2 S, r_24_3 S, i_24_4 S, j_24_5 S, v_28 S, r_28_0 S, r_28_1 S, r_28_2 S, v_30 S, r_30_0 S, r_30_1 S, r_30_2 S, r_30_3 S, i_30_4 S, i_30_5 S, v_33 S, r_33_0 S, r_33_1 S, r_33_2 S, r_33_3 S, i_33_4 S, i_33_5 S, v_37 S, r_37_0 S, r_37_1 S, i_37_2 S, i_37_3 S, i_37_4 S, f_X2_never, l_7 S, fc_sy H, h]
  · rw [bI_f h]
    simp (disch := omega) only [bd_eq, pu_ap, if_true, if_false, not_true_eq_false, not_false_eq_true, eq_self, v_0 S, r_0_0 S, r_0_1 S, r_0_2 S, r_0_3 S, r_0_4 S, r_0_5 S, r_0_6 S, r_0_7 S, r_0_8 S, r_0_9 S, r_0_10 S, r_0_11 S, r_0_12 S, n_0_13 S, i_0_14 S, i_0_15 S, i_0_16 S, i_0_17 S, v_1 S, r_1_0 S, i_1_1 S, i_1_2 S, i_1_3 S, i_1_4 S, i_1_5 S, i_1_6 S, v_3 S, r_3_0 S, r_3_1 S, r_3_2 S, r_3_3 S, i_3_4 S, i_3_5 S, v_8 S, r_8_0 S, r_8_1 S, r_8_2 S, r_8_3 S, i_8_4 S, i_8_5 S, v_13 S, r_13_0 S, r_13_1 S, i_13_2 S, v_16 S, r_16_0 S, r_16_1 S, i_16_2 S, v_19 S, r_19_0 S, r_19_1 S, r_19_2 S, r_19_3 S, i_19_4 S, i_19_5 S, i_19_6 S, i_19_7 S, v_24 S, r_24_0 S, r_24_1 S, r_24_2 S, r_24_3 S, i_24_4 S, j_24_5 S, v_28 S, r_28_0 S, r_28_1 S, r_28_2 S, v_30 S, r_30_0 S, r_30_1 S, r_30_2 S, r_30_3 S, i_30_4 S, i_30_5 S, v_33 S, r_33_0 S, r_33_1 S, r_33_2 S, r_33_3 S, i_33_4 S, i_33_5 S, v_37 S, r_37_0 S, r_37_1 S, i_37_2 S, i_37_3 S, i_37_4 S, f_X2_never, l_7 S, fc_sy H, h]
theorem c_alike (S : Sw w) (H : FoC I F) (x y : Int32) : f_X2_alike 3 x y (st w I J) = some (.inl (bI (alk F x y)), st w I J) := by
  by_cases h : nn (ak F) < bc32 (x ^^^ y)
  · rw [bI_f (c := alk F x y) (fun q => q h)]
    simp (disch := omega) only [bd_eq, pu_ap, if_true, if_false, not_true_eq_false, not_false_eq_true, eq_self, v_0 S, r_0_0 S, r_0_1 S, r_0_2 S, r_0_3 S, r_0_4 S, r_0_5 S, r_0_6 S, r_0_7 S, r_0_8 S, r_0_9 S, r_0_10 S, r_0_11 S, r_0_12 S, n_0_13 S, i_0_14 S, i_0_15 S, i_0_16 S, i_0_17 S, v_1 S, r_1_0 S, i_1_1 S, i_1_2 S, i_1_3 S, i_1_4 S, i_1_5 S, i_1_6 S, v_3 S, r_3_0 S, r_3_1 S, r_3_2 S, r_3_3 S, i_3_4 S, i_3_5 S, v_8 S, r_8_0 S, r_8_1 S, r_8_2 S, r_8_3 S, i_8_4 S, i_8_5 S, v_13 S, r_13_0 S, r_13_1 S, i_13_2 S, v_16 S, r_16_0 S, r_16_1 S, i_16_2 S, v_19 S, r_19_0 S, r_19_1 S, r_19_2 S, r_19_3 S, i_19_4 S, i_19_5 S, i_19_6 S, i_19_7 S, v_24 S, r_24_0 S, r_24_1 S, r_24_2 S, r_24_3 S, i_24_4 S, j_24_5 S, v_28 S, r_28_0 S, r_28_1 S, r_28_2 S, v_30 S, r_30_0 S, r_30_1 S, r_30_2 S, r_30_3 S, i_30_4 S, i_30_5 S, v_33 S, r_33_0 S, r_33_1 S, r_33_2 S, r_33_3 S, i_33_4 S, i_33_5 S, v_37 S, r_37_0 S, r_37_1 S, i_37_2 S, i_37_3 S, i_37_4 S, f_X2_alike, fc_ak H, h]
  · rw [bI_t (c := alk F x y) h]
    simp (disch := omega) only [bd_eq, pu_ap, if_true, if_false, not_true_eq_false, not_false_eq_true, eq_self, v_0 S, r_0_0 S, r_0_1 S, r_0_2 S, r_0_3 S, r_0_4 S, r_0_5 S, r_0_6 S, r_0_7 S, r_0_8 S, r_0_9 S, r_0_10 S, r_0_11 S, r_0_12 S, n_0_13 S, i_0_14 S, i_0_15 S, i_0_16 S, i_0_17 S, v_1 S, r_1_0 S, i_1_1 S, i_1_2 S, i_1_3 S, i_1_4 S, i_1_5 S, i_1_6 S, v_3 S, r_3_0 S, r_3_1 S, r_3_2 S, r_3_3 S, i_3_4 S, i_3_5 S, v_8 S, r_8_0 S, r_8_1 S, r_8_2 S, r_8_3 S, i_8_4 S, i_8_5 S, v_13 S, r_13_0 S, r_13_1 S, i_13_2 S, v_16 S, r_16_0 S, r_16_1 S, i_16_2 S, v_19 S, r_19_0 S, r_19_1 S, r_19_2 S, r_19_3 S, i_19_4 S, i_19_5 S, i_19_6 S, i_19_7 S, v_24 S, r_24_0 S, r_24_1 S, r_24_2 S, r_24_3 S, i_24_4 S, j_24_5 S, v_28 S, r_28_0 S, r_28_1 S, r_28_2 S, v_30 S, r_30_0 S, r_30_1 S, r_30_2 S, r_30_3 S, i_30_4 S, i_30_5 S, v_33 S, r_33_0 S, r_33_1 S, r_33_2 S, r_33_3 S, i_33_4 S, i_33_5 S, v_37 S, r_37_0 S, r_37_1 S, i_37_2 S, i_37_3 S, i_37_4 S, f_X2_alike, fc_ak H, h]
theorem m_faceOf (S : Sw w) (H : FoM I F) (h8 : sz F ≤ 8) {p : Nat} (hp : p < sz F) : f_X12_faceOf 49 (nn p) (st w I J) = some (.inl (nn (fa F p)), st w I J) := by
  simp (disch := omega) only [bd_eq, pu_ap, if_true, if_false, not_true_eq_false, not_false_eq_true, eq_self, v_49 S, i_49_0 S, i_49_1 S, i_49_2 S, i_49_3 S, i_49_4 S, i_49_5 S, i_49_6 S, i_49_7 S, i_49_8 S, r_49_9 S, r_49_10 S, r_49_11 S, r_49_12 S, r_49_13 S, r_49_14 S, r_49_15 S, r_49_16 S, i_49_17 S, i_49_18 S, r_49_19 S, r_49_20 S, r_49_21 S, r_49_22 S, r_49_23 S, r_49_24 S, r_49_25 S, i_49_26 S, r_49_27 S, r_49_28 S, r_49_29 S, r_49_30 S, i_49_31 S, i_49_32 S, i_49_33 S, i_49_34 S, i_49_35 S, i_49_36 S, i_49_37 S, r_49_38 S, i_49_39 S, i_49_40 S, r_49_41 S, r_49_42 S, r_49_43 S, i_49_44 S, r_49_45 S, i_49_46 S, i_49_47 S, i_49_48 S, l_53_0 S, l_53_1 S, f_X12_faceOf, g_65 S, l_66_0 S, fm_fa H]
theorem m_alike (S : Sw w) (H : FoM I F) {a b : Nat} (ha : a < 64) (hb : b < 64) : f_X12_isAlike 49 (nn a) (nn b) (st w I J) = some (.inl (bI (alk F (nn a) (nn b))), st w I J) := by
  by_cases h : nn (ak F) < bc32 (nn a ^^^ nn b)
  · rw [bI_f (c := alk F (nn a) (nn b)) (fun q => q h)]
    simp (disch := omega) only [bd_eq, pu_ap, if_true, if_false, not_true_eq_false, not_false_eq_true, eq_self, v_49 S, i_49_0 S, i_49_1 S, i_49_2 S, i_49_3 S, i_49_4 S, i_49_5 S, i_49_6 S, i_49_7 S, i_49_8 S, r_49_9 S, r_49_10 S, r_49_11 S, r_49_12 S, r_49_13 S, r_49_14 S, r_49_15 S, r_49_16 S, i_49_17 S, i_49_18 S, r_49_19 S, r_49_20 S, r_49_21 S, r_49_22 S, r_49_23 S, r_49_24 S, r_49_25 S, i_49_26 S, r_49_27 S, r_49_28 S, r_49_29 S, r_49_30 S, i_49_31 S, i_49_32 S, i_49_33 S, i_49_34 S, i_49_35 S, i_49_36 S, i_49_37 S, r_49_38 S, i_49_39 S, i_49_40 S, r_49_41 S, r_49_42 S, r_49_43 S, i_49_44 S, r_49_45 S, i_49_46 S, i_49_47 S, i_49_48 S, l_53_0 S, l_53_1 S, f_X12_isAlike, m_onesx ha hb, fm_ak H, h]
  · rw [bI_t (c := alk F (nn a) (nn b)) h]
    simp (disch := omega) only [bd_eq, pu_ap, if_true, if_false, not_true_eq_false, not_false_eq_true, eq_self, v_49 S, i_49_0 S, i_49_1 S, i_49_2 S, i_49_3 S, i_49_4 S, i_49_5 S, i_49_6 S, i_49_7 S, i_49_8 S, r_49_9 S, r_49_10 S, r_49_11 S, r_49_12 S, r_49_13 S, r_49_14 S, r_49_15 S, r_49_16 S, i_49_17 S, i_49_18 S, r_49_19 S, r_49_20 S, r_49_21 S, r_49_22 S, r_49_23 S, r_49_24 S, r_49_25 S, i_49_26 S, r_49_27 S, r_49_28 S, r_49_29 S, r_49_30 S, i_49_31 S, i_49_32 S, i_49_33 S, i_49_34 S, i_49_35 S, i_49_36 S, i_49_37 S, r_49_38 S, i_49_39 S, i_49_40 S, r_49_41 S, r_49_42 S, r_49_43 S, i_49_44 S, r_49_45 S, i_49_46 S, i_49_47 S, i_49_48 S, l_53_0 S, l_53_1 S, f_X12_isAlike, m_onesx ha hb, fm_ak H, h]
theorem looks_s (S : Sw w) (H : FoM I F) (W : FoW F) {f N i b : Nat} (hf : f < 64) (hi : i < sz F) (hb : b < sz F) : f_X12_looksOf_b4 (N + 1) 49 (nn f) (nn b) (nn i) (st w I J) = f_X12_looksOf_b4 N 49 (nn f) (nn (if bc32 (nn (fa F b) ^^^ nn f) ≤ bc32 (nn (fa F i) ^^^ nn f) then b else i)) (nn (i + 1)) (st w I J) := by
  have h8 := W.1
  have hn : ¬ nn (sz F) ≤ nn i := by
    rw [nn_le (by omega) (by omega)]
    omega
  have h0 : I 53 0 = nn (sz F) := fm_sz H
  have q0 := l_53_0 (I := I) (J := J) S
  rw [h0] at q0
  have q1 := m_onesy hf (W.2.2 i hi).1 (σ := st w I J)
  have q2 := m_onesy hf (W.2.2 b hb).1 (σ := st w I J)
  have q3 := (v_49 S (F := f_X12_faceOf 49 (nn i))).trans (m_faceOf (J := J) S H h8 hi)
  have q4 := (v_49 S (F := f_X12_faceOf 49 (nn b))).trans (m_faceOf (J := J) S H h8 hb)
  rw [f_X12_looksOf_b4, bd_st (r_49_12 S), bd_st q0, if_neg hn, bd_st q3, bd_st q1, bd_st q4, bd_st q2]
  by_cases hc : bc32 (nn (fa F b) ^^^ nn f) ≤ bc32 (nn (fa F i) ^^^ nn f)
  · rw [if_pos hc, if_pos hc, f_X12_looksOf_b42, nn_succ]
  · rw [if_neg hc, if_neg hc, f_X12_looksOf_b42, nn_succ]
theorem m_looksOf (S : Sw w) (H : FoM I F) (W : FoW F) {f : Nat} (hf : f < 64) : f_X12_looksOf 49 (nn f) (st w I J) = some (.inl (nn (near F (nn f))), st w I J) := by
  have h8 := W.1
  unfold f_X12_looksOf near
  rcases Nat.eq_zero_or_pos (sz F) with h0 | h0
  · rw [h0]
    obtain ⟨M, hM⟩ := NF_s
    rw [hM]
    show f_X12_looksOf_b4 (M + 1) 49 (nn f) (nn 0) (nn 1) (st w I J) = some (.inl (nn 0), st w I J)
    simp (disch := omega) only [bd_eq, pu_ap, if_true, if_false, not_true_eq_false, not_false_eq_true, eq_self, v_49 S, i_49_0 S, i_49_1 S, i_49_2 S, i_49_3 S, i_49_4 S, i_49_5 S, i_49_6 S, i_49_7 S, i_49_8 S, r_49_9 S, r_49_10 S, r_49_11 S, r_49_12 S, r_49_13 S, r_49_14 S, r_49_15 S, r_49_16 S, i_49_17 S, i_49_18 S, r_49_19 S, r_49_20 S, r_49_21 S, r_49_22 S, r_49_23 S, r_49_24 S, r_49_25 S, i_49_26 S, r_49_27 S, r_49_28 S, r_49_29 S, r_49_30 S, i_49_31 S, i_49_32 S, i_49_33 S, i_49_34 S, i_49_35 S, i_49_36 S, i_49_37 S, r_49_38 S, i_49_39 S, i_49_40 S, r_49_41 S, r_49_42 S, r_49_43 S, i_49_44 S, r_49_45 S, i_49_46 S, i_49_47 S, i_49_48 S, l_53_0 S, l_53_1 S, f_X12_looksOf_b4, fm_sz H, h0, nn_le]
    rfl
  · refine (loopP (fun N i b => f_X12_looksOf_b4 N 49 (nn f) (nn b) (nn i) (st w I J)) (sz F) (fun i b => b < i) (fun i b => if bc32 (nn (fa F b) ^^^ nn f) ≤ bc32 (nn (fa F i) ^^^ nn f) then b else i) (fun b => some (.inl (nn b), st w I J)) ?_ ?_ (sz F - 1) 1 0 NF (by omega) (NF_gt (by omega)) (by omega)).1
    · intro N i b hi hb
      refine ⟨looks_s S H W hf hi (by omega), ?_⟩
      by_cases hc : bc32 (nn (fa F b) ^^^ nn f) ≤ bc32 (nn (fa F i) ^^^ nn f)
      · rw [if_pos hc]; omega
      · rw [if_neg hc]; omega
    · intro N b hb
      simp (disch := omega) only [bd_eq, pu_ap, if_true, if_false, not_true_eq_false, not_false_eq_true, eq_self, v_49 S, i_49_0 S, i_49_1 S, i_49_2 S, i_49_3 S, i_49_4 S, i_49_5 S, i_49_6 S, i_49_7 S, i_49_8 S, r_49_9 S, r_49_10 S, r_49_11 S, r_49_12 S, r_49_13 S, r_49_14 S, r_49_15 S, r_49_16 S, i_49_17 S, i_49_18 S, r_49_19 S, r_49_20 S, r_49_21 S, r_49_22 S, r_49_23 S, r_49_24 S, r_49_25 S, i_49_26 S, r_49_27 S, r_49_28 S, r_49_29 S, r_49_30 S, i_49_31 S, i_49_32 S, i_49_33 S, i_49_34 S, i_49_35 S, i_49_36 S, i_49_37 S, r_49_38 S, i_49_39 S, i_49_40 S, r_49_41 S, r_49_42 S, r_49_43 S, i_49_44 S, r_49_45 S, i_49_46 S, i_49_47 S, i_49_48 S, l_53_0 S, l_53_1 S, f_X12_looksOf_b4, fm_sz H, Int32.le_refl]
-- the model's rows
def RoS (w : Wd) (r : Nat) : Prop := r < w.1 ∧ w.2.2.1 r = .inl (0, 228, 0)
theorem RoS_497 (S : Sw w) : RoS w 497 := ⟨Nat.lt_of_lt_of_le (by decide) S.1, S.2.1 497 (by decide)⟩
theorem RoS_498 (S : Sw w) : RoS w 498 := ⟨Nat.lt_of_lt_of_le (by decide) S.1, S.2.1 498 (by decide)⟩
theorem o_l {r k : Nat} (T : RoS w r) (h : k < 228) : al 0 r (nn k) (st w I J) = some (.inl (I r k), st w I J) := a_al T.1 T.2 (by decide) h
theorem o_s {r k : Nat} {v : Int32} (T : RoS w r) (h : k < 228) : as_ r (nn k) v (st w I J) = some (.inl (), st w (up2 I r k v) J) := a_as T.1 T.2 (by decide) h
theorem o_l24 {r : Nat} (T : RoS w r) : al 0 r 24 (st w I J) = some (.inl (I r 24), st w I J) := o_l (k := 24) T (by decide)
theorem o_l25 {r : Nat} (T : RoS w r) : al 0 r 25 (st w I J) = some (.inl (I r 25), st w I J) := o_l (k := 25) T (by decide)
theorem o_l26 {r : Nat} (T : RoS w r) : al 0 r 26 (st w I J) = some (.inl (I r 26), st w I J) := o_l (k := 26) T (by decide)
theorem o_l27 {r : Nat} (T : RoS w r) : al 0 r 27 (st w I J) = some (.inl (I r 27), st w I J) := o_l (k := 27) T (by decide)
theorem o_s24 {r : Nat} {v : Int32} (T : RoS w r) : as_ r 24 v (st w I J) = some (.inl (), st w (up2 I r 24 v) J) := o_s (k := 24) T (by decide)
theorem o_s25 {r : Nat} {v : Int32} (T : RoS w r) : as_ r 25 v (st w I J) = some (.inl (), st w (up2 I r 25 v) J) := o_s (k := 25) T (by decide)
theorem o_s26 {r : Nat} {v : Int32} (T : RoS w r) : as_ r 26 v (st w I J) = some (.inl (), st w (up2 I r 26 v) J) := o_s (k := 26) T (by decide)
theorem o_s27 {r : Nat} {v : Int32} (T : RoS w r) : as_ r 27 v (st w I J) = some (.inl (), st w (up2 I r 27 v) J) := o_s (k := 27) T (by decide)
theorem rr_hg {r : Nat} (H : RwR I r 0 A) : I r 24 = nn (hg A) := by have h := H.2.1.1; rwa [Nat.zero_add] at h
theorem rr_tn {r : Nat} (H : RwR I r 0 A) : I r 25 = nn (sm8 (tk A)) := by have h := H.2.1.2.1; rwa [Nat.zero_add] at h
theorem rr_bu {r : Nat} (H : RwR I r 0 A) : I r 26 = nn (sm8 (tk A)) - nn (hg A) := by have h := H.2.1.2.2.1; rwa [Nat.zero_add] at h
theorem rr_yr {r : Nat} (H : RwR I r 0 A) : I r 27 = nn (yr A) := by have h := H.2.1.2.2.2; rwa [Nat.zero_add] at h
theorem rr_mo {r p : Nat} (H : RwR I r 0 A) (h : p < 8) : I r p = nn (mo A p) := by have h := (H.1 p h).1; rwa [Nat.zero_add] at h
theorem rr_tk {r p : Nat} (H : RwR I r 0 A) (h : p < 8) : I r (8 + p) = nn (tk A p) := by have h := (H.1 p h).2.1; rwa [Nat.zero_add] at h
theorem rr_sa {r p : Nat} (H : RwR I r 0 A) (h : p < 8) : I r (16 + p) = nn (sa A p) := by have h := (H.1 p h).2.2; rwa [Nat.zero_add] at h
theorem rr_pl {r i : Nat} (H : RwR I r 0 A) (h : i < hg A) : I r (28 + 5 * i) = nn (pA A i) ∧ I r (28 + 5 * i + 1) = nn (pB A i) ∧ I r (28 + 5 * i + 2) = nn (pH A i) ∧ I r (28 + 5 * i + 3) = nn (pF A i) ∧ I r (28 + 5 * i + 4) = nn (pY A i) := by
  have h := H.2.2 i h
  simp only [Nat.zero_add] at h
  exact h
theorem ix5 (k j : Nat) : ((28 : Int32) + ((5 : Int32) * nn k)) + nn j = nn (28 + 5 * k + j) := by
  show (nn 28 + nn 5 * nn k) + nn j = _
  rw [nn_mul, nn_add, nn_add]
theorem ix50 (k : Nat) : ((28 : Int32) + ((5 : Int32) * nn k)) = nn (28 + 5 * k) := by
  show (nn 28 + nn 5 * nn k) = _
  rw [nn_mul, nn_add]
theorem ix8 (k : Nat) : (8 : Int32) + nn k = nn (8 + k) := nn_add 8 k
theorem ix16 (k : Nat) : (16 : Int32) + nn k = nn (16 + k) := nn_add 16 k
theorem ix0 (k : Nat) : (0 : Int32) + nn k = nn k := by rw [show (0 : Int32) = nn 0 from rfl, nn_add, Nat.zero_add]
theorem m_plate {r : Nat} (T : RoS w r) {i j : Nat} (hi : i < 40) (hj : j < 5) : f_X12_plateOf r (nn i) (nn j) (st w I J) = some (.inl (I r (28 + 5 * i + j)), st w I J) := by
  simp (disch := omega) only [bd_eq, pu_ap, if_true, if_false, not_true_eq_false, not_false_eq_true, eq_self, f_X12_plateOf, ix5, o_l T]
theorem m_pA {r : Nat} (T : RoS w r) (H : RwR I r 0 A) (h40 : hg A ≤ 40) {i : Nat} (hi : i < hg A) : f_X12_plateOf r (nn i) 0 (st w I J) = some (.inl (nn (pA A i)), st w I J) := by
  rw [← (rr_pl H hi).1]
  exact m_plate T (j := 0) (by omega) (by decide)
theorem m_pB {r : Nat} (T : RoS w r) (H : RwR I r 0 A) (h40 : hg A ≤ 40) {i : Nat} (hi : i < hg A) : f_X12_plateOf r (nn i) 1 (st w I J) = some (.inl (nn (pB A i)), st w I J) := by
  rw [← (rr_pl H hi).2.1]
  exact m_plate T (j := 1) (by omega) (by decide)
theorem m_pH {r : Nat} (T : RoS w r) (H : RwR I r 0 A) (h40 : hg A ≤ 40) {i : Nat} (hi : i < hg A) : f_X12_plateOf r (nn i) 2 (st w I J) = some (.inl (nn (pH A i)), st w I J) := by
  rw [← (rr_pl H hi).2.2.1]
  exact m_plate T (j := 2) (by omega) (by decide)
theorem m_pF {r : Nat} (T : RoS w r) (H : RwR I r 0 A) (h40 : hg A ≤ 40) {i : Nat} (hi : i < hg A) : f_X12_plateOf r (nn i) 3 (st w I J) = some (.inl (nn (pF A i)), st w I J) := by
  rw [← (rr_pl H hi).2.2.2.1]
  exact m_plate T (j := 3) (by omega) (by decide)
theorem m_pY {r : Nat} (T : RoS w r) (H : RwR I r 0 A) (h40 : hg A ≤ 40) {i : Nat} (hi : i < hg A) : f_X12_plateOf r (nn i) 4 (st w I J) = some (.inl (nn (pY A i)), st w I J) := by
  rw [← (rr_pl H hi).2.2.2.2]
  exact m_plate T (j := 4) (by omega) (by decide)
end LEAF
