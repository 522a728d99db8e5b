/-! PURE PART: lost, busiest, bids, in both -/
section Q4
variable {w : Wd} {I I' : Is} {J J' : Js} {F : Fo} {A : At} {L : Lw} {D : Dt}
-- plates of a burned hall left out
def hdS (F : Fo) (x : Int32) (q : P5) (y : Int32) : Int32 := if nn q.2.2.1 = x ∨ ¬ alk F (nn q.2.2.2.1) (nn (fa F q.2.1)) then y else y ||| ((1 : Int32) <<< (nn q.2.1 &&& 31))
theorem hadP_eq (F : Fo) (A : At) (x : Int32) : hadP F A x = lp (fun i y => hdS F x (pl A i) y) (hg A) 0 0 := rfl
theorem bz_keep (A : At) (h : Nat) : ∀ i j, i ≤ j → (bz A h i).2 j = pl A j
  | 0, _, _ => rfl
  | i + 1, j, hj => by
    rw [bz_s]
    unfold bzS
    have ih := bz_keep A h i j (by omega)
    have l := bz_le A h i
    split
    · exact ih
    · show up1 (bz A h i).2 (bz A h i).1 ((bz A h i).2 i) j = _
      rw [up1_n (by omega)]
      exact ih
theorem had_burn {F : Fo} {A : At} (W : AtW F A) {h : Nat} (hh : h < 6) : hadP F (burnA A h) (-1) = hadP F A (nn h) := by
  rw [hadP_eq, hadP_eq]
  show lp (fun i y => hdS F (-1) ((bz A h (hg A)).2 i) y) (bz A h (hg A)).1 0 0 = _
  have key : ∀ i, i ≤ hg A → lp (fun j y => hdS F (-1) ((bz A h i).2 j) y) (bz A h i).1 0 0 = lp (fun j y => hdS F (nn h) (pl A j) y) i 0 0 := by
    intro i
    induction i with
    | zero => exact fun _ => rfl
    | succ i ih =>
      intro hi
      have ih := ih (by omega)
      rw [lp_end, Nat.zero_add, ← ih, bz_s]
      unfold bzS
      have hq := bz_keep A h i i (Nat.le_refl _)
      have hb : (pl A i).2.2.1 < 6 := (W.2.2 i (by omega)).2.2.1
      rw [hq]
      by_cases hc : (pl A i).2.2.1 = h
      · rw [if_pos hc]
        unfold hdS
        rw [if_pos (Or.inl (by rw [hc]))]
      · rw [if_neg hc]
        show lp (fun j y => hdS F (-1) (up1 (bz A h i).2 (bz A h i).1 (pl A i) j) y) ((bz A h i).1 + 1) 0 0 = _
        rw [lp_end, Nat.zero_add, up1_s, lp_congr (g := fun j y => hdS F (-1) ((bz A h i).2 j) y) (fun j y h1 h2 => by rw [up1_n (by omega)])]
        have n1 : ¬ nn (pl A i).2.2.1 = -1 := nn_ne_neg (by omega)
        have n2 : ¬ nn (pl A i).2.2.1 = nn h := by rw [nn_eq (by omega) (by omega)]; exact hc
        have e : ∀ y, hdS F (-1) (pl A i) y = hdS F (nn h) (pl A i) y := fun y => by
          unfold hdS
          by_cases hk : alk F (nn (pl A i).2.2.2.1) (nn (fa F (pl A i).2.1))
          · rw [if_neg (fun q => q.elim n1 (fun q => q hk)), if_neg (fun q => q.elim n2 (fun q => q hk))]
          · rw [if_pos (Or.inr hk), if_pos (Or.inr hk)]
        exact e _
  exact key (hg A) (Nat.le_refl _)
theorem b_lost (S : Sw w) (W : WD D) {h : Nat} (hh : h < 6) : ∀ I I' J J', RC w I J D → RM I' D → I' 49 0 = 0 → ∃ v I2 I3, (f_X6_hadBits 28 43 (-1) (st w I J) = some (.inl (hadP (dF D) (dA D) (-1)), st w I J) ∧ f_X6_hadBits 28 43 (nn h) (st w I J) = some (.inl (hadP (dF D) (dA D) (nn h)), st w I J)) ∧ f_X12_copies 497 498 (st w I' J') = some (.inl (), st w I3 J') ∧ f_X12_burns 498 (nn h) (st w I3 J') = some (.inl v, st w I2 J') ∧ (f_X12_hadBy 49 497 (st w I2 J') = some (.inl (hadP (dF D) (dA D) (-1)), st w I2 J') ∧ f_X12_hadBy 49 498 (st w I2 J') = some (.inl (hadP (dF D) (dA D) (nn h)), st w I2 J')) ∧ AgM I' I2 := by
  intro I I' J J' HC HM H0
  have HCs := HC
  have HMs := HM
  obtain ⟨⟨HF, HA, HL, HW, HT, -⟩, -, -⟩ := HC
  obtain ⟨⟨MF, MA, ML, MW, MT, -⟩, -, -⟩ := HM
  have Ws := W
  obtain ⟨WF, ⟨WA, -, WB, -⟩, -, WL, WW, -⟩ := W
  have h8 := WF.1
  have h40 := WA.1
  have T := StS_43 S
  have U := RoS_497 S
  obtain ⟨Ic, ec, ac, hc⟩ := m_copies (I := I') (J := J') U (RoS_498 S) (by decide)
  have MT2 : RwR Ic 498 0 (dA D) := MA.row hc h40
  obtain ⟨I2, e2, a2, h2⟩ := m_burns (J := J') (RoS_498 S) MT2 WA hh
  have a3 : Ag [498] I' I2 := ac.trans a2
  have MF2 := MF.ag h8 a3 (by decide)
  have MA2 := MA.ag a3 (by decide)
  refine ⟨_, I2, Ic, ⟨c_hadBits S HF h8 T HA WA (-1), c_hadBits S HF h8 T HA WA (nn h)⟩, ec, e2, ⟨m_hadBy S MF2 WF U MA2 WA, ?_⟩, AgM.of a3 (by decide) (by decide)⟩
  rw [← had_burn WA hh]
  exact m_hadBy S MF2 WF (RoS_498 S) h2 (burn_W WA h)
-- the busiest
def cntA (A : At) (p : Nat) : Nat := lp (fun i y => if pA A i = p then y + 1 else y) (hg A) 0 0
theorem cntA_le (A : At) (p : Nat) : cntA A p ≤ hg A := by
  unfold cntA
  have := lp_inv (f := fun i y => if pA A i = p then y + 1 else y) (fun i y => y ≤ i) (d := hg A) (i := 0) (x := 0) (Nat.le_refl _) (fun j y _ _ h => by
    show (if pA A j = p then y + 1 else y) ≤ j + 1
    split <;> omega)
  omega
theorem cntA_pos {A : At} {i : Nat} (hi : i < hg A) : 0 < cntA A (pA A i) := by
  unfold cntA
  have key : ∀ n, i < n → 0 < lp (fun j y => if pA A j = pA A i then y + 1 else y) n 0 0 := by
    intro n
    induction n with
    | zero => intro h; omega
    | succ n ih =>
      intro h
      rw [lp_end, Nat.zero_add]
      by_cases e : n = i
      · rw [e, if_pos rfl]
        omega
      · have := ih (by omega)
        split <;> omega
  exact key _ hi
theorem c_hangBy {e : Nat} (T : StS w e) (HA : StR I e A) (WA : AtW F A) (h8 : sz F ≤ 8) {p : Nat} (hp : p < 8) : f_X5_hangingBy e (nn p) (st w I J) = some (.inl (nn (cntA A p)), st w I J) := by
  have h40 := WA.1
  unfold f_X5_hangingBy cntA
  refine loopL (fun N i (y : Nat) => f_X5_hangingBy_b4 N e (nn p) (nn y) (nn i) (st w I J)) (hg A) (fun i y => if pA A i = p then y + 1 else y) (fun y => some (.inl (nn y), st w I J)) ?_ ?_ 0 (Nat.zero_le _) (NF_gt (by omega))
  · intro N i y hi
    have hn : ¬ hg A ≤ i := by omega
    obtain ⟨b1, -⟩ := pl_b WA hi
    have q : (nn (pA A i) = nn p) = (pA A i = p) := nn_eq (by omega) (by omega)
    by_cases hc : pA A i = p
    · simp (disch := omega) only [bd_eq, pu_ap, if_true, if_false, not_true_eq_false, not_false_eq_true, eq_self, f_X5_hangingBy_b4, f_X5_hangingBy_b24, e_v T, e_i4 T, sr_hg HA, nn_le, hn, c_taker T HA WA h8, q, eq_true hc, nn_succ]
    · simp (disch := omega) only [bd_eq, pu_ap, if_true, if_false, not_true_eq_false, not_false_eq_true, eq_self, f_X5_hangingBy_b4, f_X5_hangingBy_b24, e_v T, e_i4 T, sr_hg HA, nn_le, hn, c_taker T HA WA h8, q, eq_false hc, nn_succ]
  · intro N y
    simp (disch := omega) only [bd_eq, pu_ap, if_true, if_false, not_true_eq_false, not_false_eq_true, eq_self, f_X5_hangingBy_b4, e_i4 T, sr_hg HA, Int32.le_refl]
theorem m_busyIn (S : Sw w) (MA : RwR I 497 0 A) (WA : AtW F A) (h8 : sz F ≤ 8) {p : Nat} (hp : p < 8) (k37 : Nat → Int32 → Int32 → Int32 → Int32 → Mo Int32) (x b z : Int32) : f_X12_busiest_b54 k37 NF 49 x b z (nn p) 0 0 (st w I J) = (if (z < nn (cntA A p) : Prop) then (f_X12_busiest_b112 k37 49 x (nn p) (nn (cntA A p)) (nn p)) else f_X12_busiest_b112 k37 49 x b z (nn p)) (st w I J) := by
  have h40 := WA.1
  have U := RoS_497 S
  unfold cntA
  refine loopL (fun N i (y : Nat) => f_X12_busiest_b54 k37 N 49 x b z (nn p) (nn y) (nn i) (st w I J)) (hg A) (fun i y => if pA A i = p then y + 1 else y) (fun y => (if (z < nn y : Prop) then (f_X12_busiest_b112 k37 49 x (nn p) (nn y) (nn p)) else f_X12_busiest_b112 k37 49 x b z (nn p)) (st w I J)) ?_ ?_ 0 (Nat.zero_le _) (NF_gt (by omega))
  · intro N i y hi
    have hn : ¬ hg A ≤ i := by omega
    obtain ⟨b1, -⟩ := pl_b WA hi
    have q : (nn (pA A i) = nn p) = (pA A i = p) := nn_eq (by omega) (by omega)
    by_cases hc : pA A i = p
    · simp (disch := omega) only [bd_eq, pu_ap, if_true, if_false, not_true_eq_false, not_false_eq_true, eq_self, v_49 S, i_49_0 S, i_49_1 S, i_49_2 S, i_49_3 S, i_49_4 S, i_49_5 S, i_49_6 S, i_49_7 S, i_49_8 S, r_49_9 S, r_49_10 S, r_49_11 S, r_49_12 S, r_49_13 S, r_49_14 S, r_49_15 S, r_49_16 S, i_49_17 S, i_49_18 S, r_49_19 S, r_49_20 S, r_49_21 S, r_49_22 S, r_49_23 S, r_49_24 S, r_49_25 S, i_49_26 S, r_49_27 S, r_49_28 S, r_49_29 S, r_49_30 S, i_49_31 S, i_49_32 S, i_49_33 S, i_49_34 S, i_49_35 S, i_49_36 S, i_49_37 S, r_49_38 S, i_49_39 S, i_49_40 S, r_49_41 S, r_49_42 S, r_49_43 S, i_49_44 S, r_49_45 S, i_49_46 S, i_49_47 S, i_49_48 S, l_53_0 S, l_53_1 S, f_X12_busiest_b54, f_X12_busiest_b88, o_l24 U, rr_hg MA, nn_le, hn, m_pA U MA h40, q, eq_true hc, nn_succ]
    · simp (disch := omega) only [bd_eq, pu_ap, if_true, if_false, not_true_eq_false, not_false_eq_true, eq_self, v_49 S, i_49_0 S, i_49_1 S, i_49_2 S, i_49_3 S, i_49_4 S, i_49_5 S, i_49_6 S, i_49_7 S, i_49_8 S, r_49_9 S, r_49_10 S, r_49_11 S, r_49_12 S, r_49_13 S, r_49_14 S, r_49_15 S, r_49_16 S, i_49_17 S, i_49_18 S, r_49_19 S, r_49_20 S, r_49_21 S, r_49_22 S, r_49_23 S, r_49_24 S, r_49_25 S, i_49_26 S, r_49_27 S, r_49_28 S, r_49_29 S, r_49_30 S, i_49_31 S, i_49_32 S, i_49_33 S, i_49_34 S, i_49_35 S, i_49_36 S, i_49_37 S, r_49_38 S, i_49_39 S, i_49_40 S, r_49_41 S, r_49_42 S, r_49_43 S, i_49_44 S, r_49_45 S, i_49_46 S, i_49_47 S, i_49_48 S, l_53_0 S, l_53_1 S, f_X12_busiest_b54, f_X12_busiest_b88, o_l24 U, rr_hg MA, nn_le, hn, m_pA U MA h40, q, eq_false hc, nn_succ, Int32.add_zero]
  · intro N y
    simp (disch := omega) only [bd_eq, pu_ap, if_true, if_false, not_true_eq_false, not_false_eq_true, eq_self, v_49 S, i_49_0 S, i_49_1 S, i_49_2 S, i_49_3 S, i_49_4 S, i_49_5 S, i_49_6 S, i_49_7 S, i_49_8 S, r_49_9 S, r_49_10 S, r_49_11 S, r_49_12 S, r_49_13 S, r_49_14 S, r_49_15 S, r_49_16 S, i_49_17 S, i_49_18 S, r_49_19 S, r_49_20 S, r_49_21 S, r_49_22 S, r_49_23 S, r_49_24 S, r_49_25 S, i_49_26 S, r_49_27 S, r_49_28 S, r_49_29 S, r_49_30 S, i_49_31 S, i_49_32 S, i_49_33 S, i_49_34 S, i_49_35 S, i_49_36 S, i_49_37 S, r_49_38 S, i_49_39 S, i_49_40 S, r_49_41 S, r_49_42 S, r_49_43 S, i_49_44 S, r_49_45 S, i_49_46 S, i_49_47 S, i_49_48 S, l_53_0 S, l_53_1 S, f_X12_busiest_b54, o_l24 U, rr_hg MA, Int32.le_refl]
theorem b_busiest (S : Sw w) (W : WD D) {k : Nat} (hk : k < 2) : Bod w D (f_X11_busiest_b13 NF 0 (nn k) (-1) (-1) 0) (f_X12_busiest_b37 NF 49 (nn k) (-1) 0 0) := by
  intro I I' J J' HC HM H0
  have HCs := HC
  have HMs := HM
  obtain ⟨⟨HF, HA, HL, HW, HT, -⟩, -, -⟩ := HC
  obtain ⟨⟨MF, MA, ML, MW, MT, -⟩, -, -⟩ := HM
  have Ws := W
  obtain ⟨WF, ⟨WA, -, WB, -⟩, -, WL, WW, -⟩ := W
  have h8 := WF.1
  have h40 := WA.1
  have T := StS_43 S
  have U := RoS_497 S
  have q0 : (nn k = (0 : Int32)) = (k = 0) := nn_eq (b := 0) (by omega) (by omega)
  have cl := cntA_le (dA D)
  have lm : ∃ b z, f_X12_busiest_b37 NF 49 (nn k) (-1) 0 0 (st w I' J') = some (.inl (if k = 0 ∨ b = -1 then b else z), st w I' J') ∧ ((b = -1 ∧ ∀ t, t < sz (dF D) → cntA (dA D) t = 0) ∨ ∃ s, s < sz (dF D) ∧ b = nn s ∧ z = nn (cntA (dA D) s) ∧ 0 < cntA (dA D) s ∧ (∀ t, t < sz (dF D) → cntA (dA D) t ≤ cntA (dA D) s) ∧ ∀ t, t < s → cntA (dA D) t < cntA (dA D) s) := by
    refine loopQ (fun N i (z : Int32 × Nat) => f_X12_busiest_b37 N 49 (nn k) z.1 (nn z.2) (nn i) (st w I' J')) (sz (dF D)) (fun i z => z.2 ≤ 40 ∧ ((z.1 = -1 ∧ z.2 = 0 ∧ ∀ t, t < i → cntA (dA D) t = 0) ∨ ∃ s, s < i ∧ z.1 = nn s ∧ z.2 = cntA (dA D) s ∧ 0 < cntA (dA D) s ∧ (∀ t, t < i → cntA (dA D) t ≤ cntA (dA D) s) ∧ ∀ t, t < s → cntA (dA D) t < cntA (dA D) s)) (fun r => ∃ b z, r = some (.inl (if k = 0 ∨ b = -1 then b else z), st w I' J') ∧ ((b = -1 ∧ ∀ t, t < sz (dF D) → cntA (dA D) t = 0) ∨ ∃ s, s < sz (dF D) ∧ b = nn s ∧ z = nn (cntA (dA D) s) ∧ 0 < cntA (dA D) s ∧ (∀ t, t < sz (dF D) → cntA (dA D) t ≤ cntA (dA D) s) ∧ ∀ t, t < s → cntA (dA D) t < cntA (dA D) s)) ?_ ?_ (sz (dF D)) 0 (-1, 0) NF (by omega) (NF_gt (by omega)) ⟨by omega, Or.inl ⟨rfl, rfl, fun t ht => by omega⟩⟩
    · intro N i ⟨b, z⟩ hi ⟨hz, hB⟩
      left
      have hz : z ≤ 40 := hz
      have hn : ¬ sz (dF D) ≤ i := by omega
      have c1 := cl i
      have e0 : f_X12_busiest_b37 (N + 1) 49 (nn k) b (nn z) (nn i) (st w I' J') = (if (nn z < nn (cntA (dA D) i) : Prop) then (f_X12_busiest_b112 (f_X12_busiest_b37 N) 49 (nn k) (nn i) (nn (cntA (dA D) i)) (nn i)) else f_X12_busiest_b112 (f_X12_busiest_b37 N) 49 (nn k) b (nn z) (nn i)) (st w I' J') := by
        rw [← m_busyIn S MA WA h8 (show i < 8 by omega)]
        simp (disch := omega) only [bd_eq, pu_ap, if_true, if_false, not_true_eq_false, not_false_eq_true, eq_self, v_49 S, i_49_0 S, i_49_1 S, i_49_2 S, i_49_3 S, i_49_4 S, i_49_5 S, i_49_6 S, i_49_7 S, i_49_8 S, r_49_9 S, r_49_10 S, r_49_11 S, r_49_12 S, r_49_13 S, r_49_14 S, r_49_15 S, r_49_16 S, i_49_17 S, i_49_18 S, r_49_19 S, r_49_20 S, r_49_21 S, r_49_22 S, r_49_23 S, r_49_24 S, r_49_25 S, i_49_26 S, r_49_27 S, r_49_28 S, r_49_29 S, r_49_30 S, i_49_31 S, i_49_32 S, i_49_33 S, i_49_34 S, i_49_35 S, i_49_36 S, i_49_37 S, r_49_38 S, i_49_39 S, i_49_40 S, r_49_41 S, r_49_42 S, r_49_43 S, i_49_44 S, r_49_45 S, i_49_46 S, i_49_47 S, i_49_48 S, l_53_0 S, l_53_1 S, fm_sz MF, fm_ak MF, fm_fa MF, fm_te MF, fm_pr MF, fm_sy MF, l_55 S, g_65 S, l_66_0 S, l_66_1 S, l_66_2 S, o_l24 U, o_l25 U, o_l26 U, o_l27 U, rr_hg MA, rr_yr MA, rr_tn MA, rr_bu MA, m_pA U MA h40, m_pB U MA h40, m_pH U MA h40, m_pF U MA h40, m_pY U MA h40, m_faceOf S MF h8, m_looksOf S MF WF, m_alike S MF, m_has, ix0, ix8, ix16, o_l U, rr_mo MA, rr_tk MA, rr_sa MA, nn_le, nn_succ, bI_0, Int32.or_zero, Int32.add_zero, Int32.le_refl, f_X12_busiest_b37, hn]
      have q : (nn z < nn (cntA (dA D) i)) = (z < cntA (dA D) i) := nn_lt (by omega) (by omega)
      by_cases hc : z < cntA (dA D) i
      · refine ⟨(nn i, cntA (dA D) i), ?_, by show cntA (dA D) i ≤ 40; omega, Or.inr ⟨i, Nat.lt_succ_self _, rfl, rfl, by omega, fun t ht => ?_, fun t ht => ?_⟩⟩
        · show f_X12_busiest_b37 (N + 1) 49 (nn k) b (nn z) (nn i) (st w I' J') = _
          rw [e0, if_pos (by rw [q]; exact hc), f_X12_busiest_b112, nn_succ]
        · by_cases e : t = i
          · rw [e]; exact Nat.le_refl _
          · rcases hB with ⟨-, h2, h3⟩ | ⟨s, s1, s2, s3, s4, s5, s6⟩
            · rw [h3 t (by omega)]; omega
            · have h2 : z = cntA (dA D) s := s3
              have := s5 t (by omega)
              omega
        · rcases hB with ⟨-, h2, h3⟩ | ⟨s, s1, s2, s3, s4, s5, s6⟩
          · rw [h3 t ht]; omega
          · have h2 : z = cntA (dA D) s := s3
            have := s5 t ht
            omega
      · refine ⟨(b, z), ?_, hz, ?_⟩
        · show f_X12_busiest_b37 (N + 1) 49 (nn k) b (nn z) (nn i) (st w I' J') = _
          rw [e0, if_neg (by rw [q]; exact hc), f_X12_busiest_b112, nn_succ]
        · rcases hB with ⟨h1, h2, h3⟩ | ⟨s, s1, s2, s3, s4, s5, s6⟩
          · have h2 : z = 0 := h2
            refine Or.inl ⟨h1, h2, fun t ht => ?_⟩
            by_cases e : t = i
            · rw [e]; omega
            · exact h3 t (by omega)
          · have h2 : z = cntA (dA D) s := s3
            refine Or.inr ⟨s, by omega, s2, s3, s4, fun t ht => ?_, s6⟩
            by_cases e : t = i
            · rw [e]; omega
            · exact s5 t (by omega)
    · intro N ⟨b, z⟩ ⟨hz, hB⟩
      refine ⟨b, nn z, ?_, ?_⟩
      · by_cases k0 : k = 0
        · simp (disch := omega) only [bd_eq, pu_ap, if_true, if_false, not_true_eq_false, not_false_eq_true, eq_self, v_49 S, i_49_0 S, i_49_1 S, i_49_2 S, i_49_3 S, i_49_4 S, i_49_5 S, i_49_6 S, i_49_7 S, i_49_8 S, r_49_9 S, r_49_10 S, r_49_11 S, r_49_12 S, r_49_13 S, r_49_14 S, r_49_15 S, r_49_16 S, i_49_17 S, i_49_18 S, r_49_19 S, r_49_20 S, r_49_21 S, r_49_22 S, r_49_23 S, r_49_24 S, r_49_25 S, i_49_26 S, r_49_27 S, r_49_28 S, r_49_29 S, r_49_30 S, i_49_31 S, i_49_32 S, i_49_33 S, i_49_34 S, i_49_35 S, i_49_36 S, i_49_37 S, r_49_38 S, i_49_39 S, i_49_40 S, r_49_41 S, r_49_42 S, r_49_43 S, i_49_44 S, r_49_45 S, i_49_46 S, i_49_47 S, i_49_48 S, l_53_0 S, l_53_1 S, fm_sz MF, fm_ak MF, fm_fa MF, fm_te MF, fm_pr MF, fm_sy MF, l_55 S, g_65 S, l_66_0 S, l_66_1 S, l_66_2 S, o_l24 U, o_l25 U, o_l26 U, o_l27 U, rr_hg MA, rr_yr MA, rr_tn MA, rr_bu MA, m_pA U MA h40, m_pB U MA h40, m_pH U MA h40, m_pF U MA h40, m_pY U MA h40, m_faceOf S MF h8, m_looksOf S MF WF, m_alike S MF, m_has, ix0, ix8, ix16, o_l U, rr_mo MA, rr_tk MA, rr_sa MA, nn_le, nn_succ, bI_0, Int32.or_zero, Int32.add_zero, Int32.le_refl, f_X12_busiest_b37, q0, eq_true k0, true_or]
        · by_cases hb : b = -1
          · simp (disch := omega) only [bd_eq, pu_ap, if_true, if_false, not_true_eq_false, not_false_eq_true, eq_self, v_49 S, i_49_0 S, i_49_1 S, i_49_2 S, i_49_3 S, i_49_4 S, i_49_5 S, i_49_6 S, i_49_7 S, i_49_8 S, r_49_9 S, r_49_10 S, r_49_11 S, r_49_12 S, r_49_13 S, r_49_14 S, r_49_15 S, r_49_16 S, i_49_17 S, i_49_18 S, r_49_19 S, r_49_20 S, r_49_21 S, r_49_22 S, r_49_23 S, r_49_24 S, r_49_25 S, i_49_26 S, r_49_27 S, r_49_28 S, r_49_29 S, r_49_30 S, i_49_31 S, i_49_32 S, i_49_33 S, i_49_34 S, i_49_35 S, i_49_36 S, i_49_37 S, r_49_38 S, i_49_39 S, i_49_40 S, r_49_41 S, r_49_42 S, r_49_43 S, i_49_44 S, r_49_45 S, i_49_46 S, i_49_47 S, i_49_48 S, l_53_0 S, l_53_1 S, fm_sz MF, fm_ak MF, fm_fa MF, fm_te MF, fm_pr MF, fm_sy MF, l_55 S, g_65 S, l_66_0 S, l_66_1 S, l_66_2 S, o_l24 U, o_l25 U, o_l26 U, o_l27 U, rr_hg MA, rr_yr MA, rr_tn MA, rr_bu MA, m_pA U MA h40, m_pB U MA h40, m_pH U MA h40, m_pF U MA h40, m_pY U MA h40, m_faceOf S MF h8, m_looksOf S MF WF, m_alike S MF, m_has, ix0, ix8, ix16, o_l U, rr_mo MA, rr_tk MA, rr_sa MA, nn_le, nn_succ, bI_0, Int32.or_zero, Int32.add_zero, Int32.le_refl, f_X12_busiest_b37, q0, eq_false k0, eq_true hb, or_true]
          · simp (disch := omega) only [bd_eq, pu_ap, if_true, if_false, not_true_eq_false, not_false_eq_true, eq_self, v_49 S, i_49_0 S, i_49_1 S, i_49_2 S, i_49_3 S, i_49_4 S, i_49_5 S, i_49_6 S, i_49_7 S, i_49_8 S, r_49_9 S, r_49_10 S, r_49_11 S, r_49_12 S, r_49_13 S, r_49_14 S, r_49_15 S, r_49_16 S, i_49_17 S, i_49_18 S, r_49_19 S, r_49_20 S, r_49_21 S, r_49_22 S, r_49_23 S, r_49_24 S, r_49_25 S, i_49_26 S, r_49_27 S, r_49_28 S, r_49_29 S, r_49_30 S, i_49_31 S, i_49_32 S, i_49_33 S, i_49_34 S, i_49_35 S, i_49_36 S, i_49_37 S, r_49_38 S, i_49_39 S, i_49_40 S, r_49_41 S, r_49_42 S, r_49_43 S, i_49_44 S, r_49_45 S, i_49_46 S, i_49_47 S, i_49_48 S, l_53_0 S, l_53_1 S, fm_sz MF, fm_ak MF, fm_fa MF, fm_te MF, fm_pr MF, fm_sy MF, l_55 S, g_65 S, l_66_0 S, l_66_1 S, l_66_2 S, o_l24 U, o_l25 U, o_l26 U, o_l27 U, rr_hg MA, rr_yr MA, rr_tn MA, rr_bu MA, m_pA U MA h40, m_pB U MA h40, m_pH U MA h40, m_pF U MA h40, m_pY U MA h40, m_faceOf S MF h8, m_looksOf S MF WF, m_alike S MF, m_has, ix0, ix8, ix16, o_l U, rr_mo MA, rr_tk MA, rr_sa MA, nn_le, nn_succ, bI_0, Int32.or_zero, Int32.add_zero, Int32.le_refl, f_X12_busiest_b37, q0, eq_false k0, eq_false hb, or_false]
      · rcases hB with ⟨h1, h2, h3⟩ | ⟨s, s1, s2, s3, s4, s5, s6⟩
        · exact Or.inl ⟨h1, h3⟩
        · refine Or.inr ⟨s, s1, s2, ?_, s4, s5, s6⟩
          rw [show z = cntA (dA D) s from s3]
  obtain ⟨b, z, e2, l2⟩ := lm
  rcases Nat.eq_zero_or_pos (hg (dA D)) with h0 | h0
  · have all0 : ∀ t, cntA (dA D) t = 0 := fun t => by have := cl t; omega
    rcases l2 with ⟨h1, h2⟩ | ⟨s, s1, s2, s3, s4, s5, s6⟩
    · subst h1
      rw [if_pos (Or.inr rfl)] at e2
      refine QQ.mk (-1) ?_ e2
      obtain ⟨M, hM⟩ := NF_s
      rw [hM]
      have z0 : (nn 0 ≤ (0 : Int32)) = True := by decide
      by_cases k0 : k = 0
      · simp (disch := omega) only [bd_eq, pu_ap, if_true, if_false, not_true_eq_false, not_false_eq_true, eq_self, v_0 S, r_0_0 S, r_0_1 S, r_0_2 S, r_0_3 S, r_0_4 S, r_0_5 S, r_0_6 S, r_0_7 S, r_0_8 S, r_0_9 S, r_0_10 S, r_0_11 S, r_0_12 S, n_0_13 S, i_0_14 S, i_0_15 S, i_0_16 S, i_0_17 S, v_1 S, r_1_0 S, i_1_1 S, i_1_2 S, i_1_3 S, i_1_4 S, i_1_5 S, i_1_6 S, v_3 S, r_3_0 S, r_3_1 S, r_3_2 S, r_3_3 S, i_3_4 S, i_3_5 S, v_8 S, r_8_0 S, r_8_1 S, r_8_2 S, r_8_3 S, i_8_4 S, i_8_5 S, v_13 S, r_13_0 S, r_13_1 S, i_13_2 S, v_16 S, r_16_0 S, r_16_1 S, i_16_2 S, v_19 S, r_19_0 S, r_19_1 S, r_19_2 S, r_19_3 S, i_19_4 S, i_19_5 S, i_19_6 S, i_19_7 S, v_24 S, r_24_0 S, r_24_1 S, r_24_2 S, r_24_3 S, i_24_4 S, j_24_5 S, v_28 S, r_28_0 S, r_28_1 S, r_28_2 S, v_30 S, r_30_0 S, r_30_1 S, r_30_2 S, r_30_3 S, i_30_4 S, i_30_5 S, v_33 S, r_33_0 S, r_33_1 S, r_33_2 S, r_33_3 S, i_33_4 S, i_33_5 S, v_37 S, r_37_0 S, r_37_1 S, i_37_2 S, i_37_3 S, i_37_4 S, fc_sz HF, fc_ak HF, fc_fa HF, fc_te HF, fc_pr HF, fc_sy HF, l_4 S, l_5 S, l_6 S, l_7 S, e_v T, e_i4 T, e_i5 T, e_r0 T, e_r1 T, e_r2 T, e_r3 T, e_l1 T, e_l2 T, e_l3 T, sr_hg HA, sr_yr HA, sr_mo HA, sr_tk HA, sr_sa HA, c_taker T HA WA h8, c_sitter T HA WA h8, c_hallOf T HA WA h8, c_faceOn T HA WA h8, c_yearOf T HA WA h8, c_nearest S HF WF, c_never S HF h8, c_alike S HF, nn_le, nn_succ, bI_0, Int32.or_zero, Int32.add_zero, Int32.le_refl, f_X11_busiest_b13, f_X11_busiest_b64, h0, z0, q0, eq_true k0]
      · simp (disch := omega) only [bd_eq, pu_ap, if_true, if_false, not_true_eq_false, not_false_eq_true, eq_self, v_0 S, r_0_0 S, r_0_1 S, r_0_2 S, r_0_3 S, r_0_4 S, r_0_5 S, r_0_6 S, r_0_7 S, r_0_8 S, r_0_9 S, r_0_10 S, r_0_11 S, r_0_12 S, n_0_13 S, i_0_14 S, i_0_15 S, i_0_16 S, i_0_17 S, v_1 S, r_1_0 S, i_1_1 S, i_1_2 S, i_1_3 S, i_1_4 S, i_1_5 S, i_1_6 S, v_3 S, r_3_0 S, r_3_1 S, r_3_2 S, r_3_3 S, i_3_4 S, i_3_5 S, v_8 S, r_8_0 S, r_8_1 S, r_8_2 S, r_8_3 S, i_8_4 S, i_8_5 S, v_13 S, r_13_0 S, r_13_1 S, i_13_2 S, v_16 S, r_16_0 S, r_16_1 S, i_16_2 S, v_19 S, r_19_0 S, r_19_1 S, r_19_2 S, r_19_3 S, i_19_4 S, i_19_5 S, i_19_6 S, i_19_7 S, v_24 S, r_24_0 S, r_24_1 S, r_24_2 S, r_24_3 S, i_24_4 S, j_24_5 S, v_28 S, r_28_0 S, r_28_1 S, r_28_2 S, v_30 S, r_30_0 S, r_30_1 S, r_30_2 S, r_30_3 S, i_30_4 S, i_30_5 S, v_33 S, r_33_0 S, r_33_1 S, r_33_2 S, r_33_3 S, i_33_4 S, i_33_5 S, v_37 S, r_37_0 S, r_37_1 S, i_37_2 S, i_37_3 S, i_37_4 S, fc_sz HF, fc_ak HF, fc_fa HF, fc_te HF, fc_pr HF, fc_sy HF, l_4 S, l_5 S, l_6 S, l_7 S, e_v T, e_i4 T, e_i5 T, e_r0 T, e_r1 T, e_r2 T, e_r3 T, e_l1 T, e_l2 T, e_l3 T, sr_hg HA, sr_yr HA, sr_mo HA, sr_tk HA, sr_sa HA, c_taker T HA WA h8, c_sitter T HA WA h8, c_hallOf T HA WA h8, c_faceOn T HA WA h8, c_yearOf T HA WA h8, c_nearest S HF WF, c_never S HF h8, c_alike S HF, nn_le, nn_succ, bI_0, Int32.or_zero, Int32.add_zero, Int32.le_refl, f_X11_busiest_b13, f_X11_busiest_b64, h0, z0, q0, eq_false k0]
    · have := all0 s
      omega
  · have sz0 : 0 < sz (dF D) := by
      obtain ⟨b1, -⟩ := pl_b WA h0
      omega
    have lc : ∃ s, s < sz (dF D) ∧ f_X11_busiest_b13 NF 0 (nn k) (-1) (-1) 0 (st w I J) = some (.inl (if k = 0 then nn s else nn (cntA (dA D) s)), st w I J) ∧ (∀ t, t < sz (dF D) → cntA (dA D) t ≤ cntA (dA D) s) ∧ ∀ t, t < s → cntA (dA D) t < cntA (dA D) s := by
      have hg0 : ¬ nn (hg (dA D)) ≤ 0 := by rw [show (0 : Int32) = nn 0 from rfl, nn_le (by omega) (by omega)]; omega
      refine loopQ (fun N i (z : Int32 × Int32) => f_X11_busiest_b13 N 0 (nn k) z.1 z.2 (nn i) (st w I J)) (sz (dF D)) (fun i z => (i = 0 ∧ z.1 = -1 ∧ z.2 = -1) ∨ ∃ s, s < i ∧ z.1 = nn s ∧ z.2 = nn (cntA (dA D) s) ∧ (∀ t, t < i → cntA (dA D) t ≤ cntA (dA D) s) ∧ ∀ t, t < s → cntA (dA D) t < cntA (dA D) s) (fun r => ∃ s, s < sz (dF D) ∧ r = some (.inl (if k = 0 then nn s else nn (cntA (dA D) s)), st w I J) ∧ (∀ t, t < sz (dF D) → cntA (dA D) t ≤ cntA (dA D) s) ∧ ∀ t, t < s → cntA (dA D) t < cntA (dA D) s) ?_ ?_ (sz (dF D)) 0 (-1, -1) NF (by omega) (NF_gt (by omega)) (Or.inl ⟨rfl, rfl, rfl⟩)
      · intro N i ⟨b, z⟩ hi hB
        left
        have hn : ¬ sz (dF D) ≤ i := by omega
        have e1 := c_hangBy (J := J) (p := i) T HA WA h8 (by omega)
        have c1 := cl i
        rcases hB with ⟨h1, h2, h3⟩ | ⟨s, s1, s2, s3, s5, s6⟩
        · subst h1
          have h2 : b = -1 := h2
          have h3 : z = -1 := h3
          subst h2
          subst h3
          have hq : ¬ nn (cntA (dA D) 0) ≤ -1 := by
            obtain ⟨m, hm⟩ : ∃ m, m = cntA (dA D) 0 := ⟨_, rfl⟩
            rw [← hm, Int32.le_iff_toInt_le, nn_int (by omega), show (-1 : Int32).toInt = -1 from by decide]
            omega
          refine ⟨(nn 0, nn (cntA (dA D) 0)), ?_, Or.inr ⟨0, by omega, rfl, rfl, fun t ht => ?_, fun t ht => by omega⟩⟩
          · simp (disch := omega) only [bd_eq, pu_ap, if_true, if_false, not_true_eq_false, not_false_eq_true, eq_self, v_0 S, r_0_0 S, r_0_1 S, r_0_2 S, r_0_3 S, r_0_4 S, r_0_5 S, r_0_6 S, r_0_7 S, r_0_8 S, r_0_9 S, r_0_10 S, r_0_11 S, r_0_12 S, n_0_13 S, i_0_14 S, i_0_15 S, i_0_16 S, i_0_17 S, v_1 S, r_1_0 S, i_1_1 S, i_1_2 S, i_1_3 S, i_1_4 S, i_1_5 S, i_1_6 S, v_3 S, r_3_0 S, r_3_1 S, r_3_2 S, r_3_3 S, i_3_4 S, i_3_5 S, v_8 S, r_8_0 S, r_8_1 S, r_8_2 S, r_8_3 S, i_8_4 S, i_8_5 S, v_13 S, r_13_0 S, r_13_1 S, i_13_2 S, v_16 S, r_16_0 S, r_16_1 S, i_16_2 S, v_19 S, r_19_0 S, r_19_1 S, r_19_2 S, r_19_3 S, i_19_4 S, i_19_5 S, i_19_6 S, i_19_7 S, v_24 S, r_24_0 S, r_24_1 S, r_24_2 S, r_24_3 S, i_24_4 S, j_24_5 S, v_28 S, r_28_0 S, r_28_1 S, r_28_2 S, v_30 S, r_30_0 S, r_30_1 S, r_30_2 S, r_30_3 S, i_30_4 S, i_30_5 S, v_33 S, r_33_0 S, r_33_1 S, r_33_2 S, r_33_3 S, i_33_4 S, i_33_5 S, v_37 S, r_37_0 S, r_37_1 S, i_37_2 S, i_37_3 S, i_37_4 S, fc_sz HF, fc_ak HF, fc_fa HF, fc_te HF, fc_pr HF, fc_sy HF, l_4 S, l_5 S, l_6 S, l_7 S, e_v T, e_i4 T, e_i5 T, e_r0 T, e_r1 T, e_r2 T, e_r3 T, e_l1 T, e_l2 T, e_l3 T, sr_hg HA, sr_yr HA, sr_mo HA, sr_tk HA, sr_sa HA, c_taker T HA WA h8, c_sitter T HA WA h8, c_hallOf T HA WA h8, c_faceOn T HA WA h8, c_yearOf T HA WA h8, c_nearest S HF WF, c_never S HF h8, c_alike S HF, nn_le, nn_succ, bI_0, Int32.or_zero, Int32.add_zero, Int32.le_refl, f_X11_busiest_b13, f_X11_busiest_b58, hg0, hn, e1, hq]
          · rw [show t = 0 by omega]; exact Nat.le_refl _
        · have s2 : b = nn s := s2
          have s3 : z = nn (cntA (dA D) s) := s3
          have c2 := cl s
          subst s2
          subst s3
          have q : (nn (cntA (dA D) i) ≤ nn (cntA (dA D) s)) = (cntA (dA D) i ≤ cntA (dA D) s) := nn_le (by omega) (by omega)
          by_cases hc : cntA (dA D) i ≤ cntA (dA D) s
          · refine ⟨(nn s, nn (cntA (dA D) s)), ?_, Or.inr ⟨s, by omega, rfl, rfl, fun t ht => ?_, s6⟩⟩
            · simp (disch := omega) only [bd_eq, pu_ap, if_true, if_false, not_true_eq_false, not_false_eq_true, eq_self, v_0 S, r_0_0 S, r_0_1 S, r_0_2 S, r_0_3 S, r_0_4 S, r_0_5 S, r_0_6 S, r_0_7 S, r_0_8 S, r_0_9 S, r_0_10 S, r_0_11 S, r_0_12 S, n_0_13 S, i_0_14 S, i_0_15 S, i_0_16 S, i_0_17 S, v_1 S, r_1_0 S, i_1_1 S, i_1_2 S, i_1_3 S, i_1_4 S, i_1_5 S, i_1_6 S, v_3 S, r_3_0 S, r_3_1 S, r_3_2 S, r_3_3 S, i_3_4 S, i_3_5 S, v_8 S, r_8_0 S, r_8_1 S, r_8_2 S, r_8_3 S, i_8_4 S, i_8_5 S, v_13 S, r_13_0 S, r_13_1 S, i_13_2 S, v_16 S, r_16_0 S, r_16_1 S, i_16_2 S, v_19 S, r_19_0 S, r_19_1 S, r_19_2 S, r_19_3 S, i_19_4 S, i_19_5 S, i_19_6 S, i_19_7 S, v_24 S, r_24_0 S, r_24_1 S, r_24_2 S, r_24_3 S, i_24_4 S, j_24_5 S, v_28 S, r_28_0 S, r_28_1 S, r_28_2 S, v_30 S, r_30_0 S, r_30_1 S, r_30_2 S, r_30_3 S, i_30_4 S, i_30_5 S, v_33 S, r_33_0 S, r_33_1 S, r_33_2 S, r_33_3 S, i_33_4 S, i_33_5 S, v_37 S, r_37_0 S, r_37_1 S, i_37_2 S, i_37_3 S, i_37_4 S, fc_sz HF, fc_ak HF, fc_fa HF, fc_te HF, fc_pr HF, fc_sy HF, l_4 S, l_5 S, l_6 S, l_7 S, e_v T, e_i4 T, e_i5 T, e_r0 T, e_r1 T, e_r2 T, e_r3 T, e_l1 T, e_l2 T, e_l3 T, sr_hg HA, sr_yr HA, sr_mo HA, sr_tk HA, sr_sa HA, c_taker T HA WA h8, c_sitter T HA WA h8, c_hallOf T HA WA h8, c_faceOn T HA WA h8, c_yearOf T HA WA h8, c_nearest S HF WF, c_never S HF h8, c_alike S HF, nn_le, nn_succ, bI_0, Int32.or_zero, Int32.add_zero, Int32.le_refl, f_X11_busiest_b13, f_X11_busiest_b58, hg0, hn, e1, q, eq_true hc]
            · by_cases e : t = i
              · rw [e]; exact hc
              · exact s5 t (by omega)
          · refine ⟨(nn i, nn (cntA (dA D) i)), ?_, Or.inr ⟨i, by omega, rfl, rfl, fun t ht => ?_, fun t ht => ?_⟩⟩
            · simp (disch := omega) only [bd_eq, pu_ap, if_true, if_false, not_true_eq_false, not_false_eq_true, eq_self, v_0 S, r_0_0 S, r_0_1 S, r_0_2 S, r_0_3 S, r_0_4 S, r_0_5 S, r_0_6 S, r_0_7 S, r_0_8 S, r_0_9 S, r_0_10 S, r_0_11 S, r_0_12 S, n_0_13 S, i_0_14 S, i_0_15 S, i_0_16 S, i_0_17 S, v_1 S, r_1_0 S, i_1_1 S, i_1_2 S, i_1_3 S, i_1_4 S, i_1_5 S, i_1_6 S, v_3 S, r_3_0 S, r_3_1 S, r_3_2 S, r_3_3 S, i_3_4 S, i_3_5 S, v_8 S, r_8_0 S, r_8_1 S, r_8_2 S, r_8_3 S, i_8_4 S, i_8_5 S, v_13 S, r_13_0 S, r_13_1 S, i_13_2 S, v_16 S, r_16_0 S, r_16_1 S, i_16_2 S, v_19 S, r_19_0 S, r_19_1 S, r_19_2 S, r_19_3 S, i_19_4 S, i_19_5 S, i_19_6 S, i_19_7 S, v_24 S, r_24_0 S, r_24_1 S, r_24_2 S, r_24_3 S, i_24_4 S, j_24_5 S, v_28 S, r_28_0 S, r_28_1 S, r_28_2 S, v_30 S, r_30_0 S, r_30_1 S, r_30_2 S, r_30_3 S, i_30_4 S, i_30_5 S, v_33 S, r_33_0 S, r_33_1 S, r_33_2 S, r_33_3 S, i_33_4 S, i_33_5 S, v_37 S, r_37_0 S, r_37_1 S, i_37_2 S, i_37_3 S, i_37_4 S, fc_sz HF, fc_ak HF, fc_fa HF, fc_te HF, fc_pr HF, fc_sy HF, l_4 S, l_5 S, l_6 S, l_7 S, e_v T, e_i4 T, e_i5 T, e_r0 T, e_r1 T, e_r2 T, e_r3 T, e_l1 T, e_l2 T, e_l3 T, sr_hg HA, sr_yr HA, sr_mo HA, sr_tk HA, sr_sa HA, c_taker T HA WA h8, c_sitter T HA WA h8, c_hallOf T HA WA h8, c_faceOn T HA WA h8, c_yearOf T HA WA h8, c_nearest S HF WF, c_never S HF h8, c_alike S HF, nn_le, nn_succ, bI_0, Int32.or_zero, Int32.add_zero, Int32.le_refl, f_X11_busiest_b13, f_X11_busiest_b58, hg0, hn, e1, q, eq_false hc]
            · by_cases e : t = i
              · rw [e]; exact Nat.le_refl _
              · have := s5 t (by omega)
                omega
            · have := s5 t ht
              omega
      · intro N ⟨b, z⟩ hB
        rcases hB with ⟨h1, -⟩ | ⟨s, s1, s2, s3, s5, s6⟩
        · omega
        · have s2 : b = nn s := s2
          have s3 : z = nn (cntA (dA D) s) := s3
          subst s2
          subst s3
          refine ⟨s, s1, ?_, s5, s6⟩
          by_cases k0 : k = 0
          · simp (disch := omega) only [bd_eq, pu_ap, if_true, if_false, not_true_eq_false, not_false_eq_true, eq_self, v_0 S, r_0_0 S, r_0_1 S, r_0_2 S, r_0_3 S, r_0_4 S, r_0_5 S, r_0_6 S, r_0_7 S, r_0_8 S, r_0_9 S, r_0_10 S, r_0_11 S, r_0_12 S, n_0_13 S, i_0_14 S, i_0_15 S, i_0_16 S, i_0_17 S, v_1 S, r_1_0 S, i_1_1 S, i_1_2 S, i_1_3 S, i_1_4 S, i_1_5 S, i_1_6 S, v_3 S, r_3_0 S, r_3_1 S, r_3_2 S, r_3_3 S, i_3_4 S, i_3_5 S, v_8 S, r_8_0 S, r_8_1 S, r_8_2 S, r_8_3 S, i_8_4 S, i_8_5 S, v_13 S, r_13_0 S, r_13_1 S, i_13_2 S, v_16 S, r_16_0 S, r_16_1 S, i_16_2 S, v_19 S, r_19_0 S, r_19_1 S, r_19_2 S, r_19_3 S, i_19_4 S, i_19_5 S, i_19_6 S, i_19_7 S, v_24 S, r_24_0 S, r_24_1 S, r_24_2 S, r_24_3 S, i_24_4 S, j_24_5 S, v_28 S, r_28_0 S, r_28_1 S, r_28_2 S, v_30 S, r_30_0 S, r_30_1 S, r_30_2 S, r_30_3 S, i_30_4 S, i_30_5 S, v_33 S, r_33_0 S, r_33_1 S, r_33_2 S, r_33_3 S, i_33_4 S, i_33_5 S, v_37 S, r_37_0 S, r_37_1 S, i_37_2 S, i_37_3 S, i_37_4 S, fc_sz HF, fc_ak HF, fc_fa HF, fc_te HF, fc_pr HF, fc_sy HF, l_4 S, l_5 S, l_6 S, l_7 S, e_v T, e_i4 T, e_i5 T, e_r0 T, e_r1 T, e_r2 T, e_r3 T, e_l1 T, e_l2 T, e_l3 T, sr_hg HA, sr_yr HA, sr_mo HA, sr_tk HA, sr_sa HA, c_taker T HA WA h8, c_sitter T HA WA h8, c_hallOf T HA WA h8, c_faceOn T HA WA h8, c_yearOf T HA WA h8, c_nearest S HF WF, c_never S HF h8, c_alike S HF, nn_le, nn_succ, bI_0, Int32.or_zero, Int32.add_zero, Int32.le_refl, f_X11_busiest_b13, f_X11_busiest_b64, hg0, q0, eq_true k0]
          · simp (disch := omega) only [bd_eq, pu_ap, if_true, if_false, not_true_eq_false, not_false_eq_true, eq_self, v_0 S, r_0_0 S, r_0_1 S, r_0_2 S, r_0_3 S, r_0_4 S, r_0_5 S, r_0_6 S, r_0_7 S, r_0_8 S, r_0_9 S, r_0_10 S, r_0_11 S, r_0_12 S, n_0_13 S, i_0_14 S, i_0_15 S, i_0_16 S, i_0_17 S, v_1 S, r_1_0 S, i_1_1 S, i_1_2 S, i_1_3 S, i_1_4 S, i_1_5 S, i_1_6 S, v_3 S, r_3_0 S, r_3_1 S, r_3_2 S, r_3_3 S, i_3_4 S, i_3_5 S, v_8 S, r_8_0 S, r_8_1 S, r_8_2 S, r_8_3 S, i_8_4 S, i_8_5 S, v_13 S, r_13_0 S, r_13_1 S, i_13_2 S, v_16 S, r_16_0 S, r_16_1 S, i_16_2 S, v_19 S, r_19_0 S, r_19_1 S, r_19_2 S, r_19_3 S, i_19_4 S, i_19_5 S, i_19_6 S, i_19_7 S, v_24 S, r_24_0 S, r_24_1 S, r_24_2 S, r_24_3 S, i_24_4 S, j_24_5 S, v_28 S, r_28_0 S, r_28_1 S, r_28_2 S, v_30 S, r_30_0 S, r_30_1 S, r_30_2 S, r_30_3 S, i_30_4 S, i_30_5 S, v_33 S, r_33_0 S, r_33_1 S, r_33_2 S, r_33_3 S, i_33_4 S, i_33_5 S, v_37 S, r_37_0 S, r_37_1 S, i_37_2 S, i_37_3 S, i_37_4 S, fc_sz HF, fc_ak HF, fc_fa HF, fc_te HF, fc_pr HF, fc_sy HF, l_4 S, l_5 S, l_6 S, l_7 S, e_v T, e_i4 T, e_i5 T, e_r0 T, e_r1 T, e_r2 T, e_r3 T, e_l1 T, e_l2 T, e_l3 T, sr_hg HA, sr_yr HA, sr_mo HA, sr_tk HA, sr_sa HA, c_taker T HA WA h8, c_sitter T HA WA h8, c_hallOf T HA WA h8, c_faceOn T HA WA h8, c_yearOf T HA WA h8, c_nearest S HF WF, c_never S HF h8, c_alike S HF, nn_le, nn_succ, bI_0, Int32.or_zero, Int32.add_zero, Int32.le_refl, f_X11_busiest_b13, f_X11_busiest_b64, hg0, q0, eq_false k0]
    obtain ⟨s, p1, e1, p2, p3⟩ := lc
    rcases l2 with ⟨h1, h2⟩ | ⟨t, s1, s2, s3, s4, s5, s6⟩
    · obtain ⟨b1, -⟩ := pl_b WA h0
      have := h2 _ b1
      have := cntA_pos h0
      omega
    · have hst : s = t := by
        rcases Nat.lt_trichotomy s t with h | h | h
        · have := s6 s h
          have := p2 t s1
          omega
        · exact h
        · have := p3 t h
          have := s5 s p1
          omega
      subst hst
      rw [s2, s3] at e2
      refine QQ.mk _ e1 ?_
      rw [e2]
      by_cases k0 : k = 0
      · rw [if_pos (Or.inl k0), if_pos k0]
      · rw [if_neg (fun q => q.elim k0 (nn_ne_neg (by omega))), if_neg k0]
end Q4
