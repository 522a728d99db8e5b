/-! PURE PART: a law and what comes out by it, in both -/
abbrev Lw : Type := Nat × (Nat → Nat × Nat)
def lwN (L : Lw) : Nat := L.1
def lwO (L : Lw) (k : Nat) : Nat := (L.2 k).1
def lwV (L : Lw) (k : Nat) : Nat := (L.2 k).2
def lwC (L : Lw) (k : Nat) : Nat := if lwO L k = 0 then lwV L k else if lwO L k = 1 then 1000 + lwV L k else 1998 + lwO L k
def lwU : Lw := (3, fun k => if k = 0 then (1, 0) else if k = 1 then (1, 2) else (2, 0))
/-- heights of the stack along a law -/
def LwH (L : Lw) (t : Nat → Nat) : Prop := t 0 = 0 ∧ t (lwN L) = 1 ∧ (∀ k, t k ≤ 24) ∧ ∀ k, k < lwN L → (lwO L k < 2 → t k < 24 ∧ t (k + 1) = t k + 1) ∧ (2 ≤ lwO L k → 2 ≤ t k ∧ t (k + 1) + 1 = t k)
def LwW (L : Lw) : Prop := lwN L ≤ 150 ∧ (∀ k, k < lwN L → lwO L k ≤ 8 ∧ (lwO L k = 0 → lwV L k ≤ 999) ∧ (lwO L k = 1 → lwV L k < 8)) ∧ ∃ t, LwH L t
def LwC (I : Is) (L : Lw) : Prop := I 13 2 = nn (lwN L) ∧ ∀ k, k < lwN L → I 14 k = nn (lwC L k)
def LwM (I : Is) (L : Lw) : Prop := (I 49 17 = nn (lwN L) ∧ ∀ k, k < lwN L → I (75 + k) 0 = nn (lwO L k) ∧ I (75 + k) 1 = nn (lwV L k)) ∨ (I 49 17 = nn 0 ∧ L = lwU)
def jn (op : Nat) (x y : Int32) : Int32 := if op = 2 then x + y else if op = 3 then x - y else if op = 4 then x * y else if op = 5 then (if y = 0 then 0 else x / y) else if op = 6 then (if y = 0 then 0 else x - x / y * y) else if op = 7 then mn32 x y else mx32 x y
theorem sw_at {α : Type} {x : Int32} {lo : Int} {bs : List (Mo α)} {d : Mo α} (k : Nat) (h : x.toInt = lo + (k : Int)) : sw x lo bs d = (bs[k]?).getD d := by
  unfold sw
  have h1 : ¬ x.toInt < lo := by omega
  have h2 : (x.toInt - lo).toNat = k := by omega
  rw [if_neg h1, h2]
theorem div_m1 (x : Int32) : x / (-1) = -x := by
  refine Int32.toInt_inj.1 ?_
  have h1 : (-1 : Int32).toInt = -1 := by decide
  have h2 : (x / (-1)).toInt = (x.toInt.tdiv (-1 : Int32).toInt).bmod (2 ^ 32) := Int32.toInt_div x (-1)
  have h3 : (-x).toInt = (-x.toInt).bmod (2 ^ 32) := Int32.toInt_neg x
  rw [h2, h1, h3, Int.tdiv_neg, Int.tdiv_one]
theorem rem_m1 (x : Int32) : x - x / (-1) * (-1) = 0 := by
  rw [div_m1, Int32.neg_mul_comm]
  have h1 : - (-1 : Int32) = 1 := by decide
  rw [h1, Int32.mul_one, Int32.sub_self]
theorem op_cases {op : Nat} (h2 : 2 ≤ op) (h8 : op ≤ 8) : op = 2 ∨ op = 3 ∨ op = 4 ∨ op = 5 ∨ op = 6 ∨ op = 7 ∨ op = 8 := by omega
theorem m_less (x y : Int32) {σ : PS} : f_X12_less x y σ = some (.inl (mn32 x y), σ) := by
  unfold f_X12_less mn32
  by_cases h : y < x
  · rw [if_pos (Int32.le_of_lt h), if_pos h]; rfl
  · rw [if_neg h]
    by_cases h' : y ≤ x
    · rw [if_pos h', Int32.le_antisymm h' (Int32.not_lt.mp h)]; rfl
    · rw [if_neg h']; rfl
theorem m_more (x y : Int32) {σ : PS} : f_X12_more x y σ = some (.inl (mx32 x y), σ) := by
  unfold f_X12_more mx32
  by_cases h : x < y
  · rw [if_pos (Int32.le_of_lt h), if_pos h]; rfl
  · rw [if_neg h]
    by_cases h' : x ≤ y
    · rw [if_pos h', Int32.le_antisymm h' (Int32.not_lt.mp h)]; rfl
    · rw [if_neg h']; rfl
theorem c_joined {op : Nat} (h2 : 2 ≤ op) (h8 : op ≤ 8) (x y : Int32) {σ : PS} : f_X4_joined (nn (1998 + op)) x y σ = some (.inl (jn op x y), σ) := by
  unfold f_X4_joined
  rcases op_cases h2 h8 with h | h | h | h | h | h | h <;> subst h
  · rw [sw_at 0 (by decide)]; rfl
  · rw [sw_at 1 (by decide)]; rfl
  · rw [sw_at 2 (by decide)]; rfl
  · rw [sw_at 3 (by decide)]
    by_cases h : y = 0
    · simp [h, jn, pu]
    · simp [h, jn, pu, dv, bd]
  · rw [sw_at 4 (by decide)]
    by_cases h : y = 0
    · simp [h, jn, pu]
    · simp [h, jn, pu, rm_, bd]
  · rw [sw_at 5 (by decide)]; exact m_less x y
  · rw [sw_at 6 (by decide)]; exact m_more x y
theorem m_by {op : Nat} (h2 : 2 ≤ op) (h8 : op ≤ 8) (x y : Int32) {σ : PS} : f_X12_by (nn op) x y σ = some (.inl (jn op x y), σ) := by
  unfold f_X12_by
  rcases op_cases h2 h8 with h | h | h | h | h | h | h <;> subst h
  · rw [sw_at 0 (by decide)]; rfl
  · rw [sw_at 1 (by decide)]; rfl
  · rw [sw_at 2 (by decide)]; rfl
  · rw [sw_at 3 (by decide)]
    by_cases h : y = 0
    · simp [h, jn, pu]
    · by_cases h' : y = -1
      · simp [h', jn, pu, div_m1]
      · simp [h, h', jn, pu, dv, bd]
  · rw [sw_at 4 (by decide)]
    by_cases h : y = 0
    · simp [h, jn, pu]
    · by_cases h' : y = -1
      · subst h'
        have e := rem_m1 x
        simp only [List.getElem?_cons_succ, List.getElem?_cons_zero, Option.getD_some, h, if_false, if_true]
        rw [show jn 6 x (-1) = x - x / (-1) * (-1) from rfl, e]
        rfl
      · simp [h, h', jn, pu, rm_, bd]
  · rw [sw_at 5 (by decide)]
    show bd (f_X12_less x y) (fun v3 => pu v3) σ = _
    rw [bd_eq, m_less]
    rfl
  · rw [sw_at 6 (by decide)]
    show bd (f_X12_more x y) (fun v3 => pu v3) σ = _
    rw [bd_eq, m_more]
    rfl
/-- one code over a stack -/
def lwS (gv : Nat → Int32) (L : Lw) (k : Nat) (z : Nat × (Nat → Int32)) : Nat × (Nat → Int32) :=
  if lwO L k < 2 then (z.1 + 1, up1 z.2 z.1 (if lwO L k = 0 then nn (lwV L k) else gv (lwV L k))) else (z.1 - 1, up1 z.2 (z.1 - 2) (jn (lwO L k) (z.2 (z.1 - 2)) (z.2 (z.1 - 1))))
def lwZ (gv : Nat → Int32) (L : Lw) (k : Nat) : Nat × (Nat → Int32) := lp (lwS gv L) k 0 (0, fun _ => 0)
def lwR (gv : Nat → Int32) (L : Lw) : Int32 := mx32 0 (mn32 63 ((lwZ gv L (lwN L)).2 0))
theorem lwZ_s (gv : Nat → Int32) (L : Lw) (k : Nat) : lwZ gv L (k + 1) = lwS gv L k (lwZ gv L k) := by
  unfold lwZ
  rw [lp_end, Nat.zero_add]
theorem mm63 (x : Int32) : mx32 0 (mn32 63 x) = mn32 63 (mx32 0 x) := by
  unfold mx32 mn32
  by_cases h : x < 63
  · rw [if_pos h]
    by_cases h' : (0 : Int32) < x
    · rw [if_pos h', if_pos h]
    · rw [if_neg h']
      rfl
  · rw [if_neg h, if_pos (show (0 : Int32) < 63 by decide)]
    have h' : (0 : Int32) < x := Int32.lt_of_lt_of_le (show (0 : Int32) < 63 by decide) (Int32.not_lt.mp h)
    rw [if_pos h', if_neg h]
theorem mm_face (x : Int32) : ∃ f, f < 64 ∧ mx32 0 (mn32 63 x) = nn f := by
  unfold mx32 mn32
  by_cases h : x < 63
  · rw [if_pos h]
    by_cases h' : (0 : Int32) < x
    · rw [if_pos h']
      obtain ⟨f, hf, rfl⟩ := nn_of (x := x) (fun hx => Int32.lt_irrefl (Int32.lt_trans h' hx))
      refine ⟨f, ?_, rfl⟩
      rw [show (63 : Int32) = nn 63 from rfl, nn_lt hf (by decide)] at h
      omega
    · rw [if_neg h']
      exact ⟨0, by decide, rfl⟩
  · rw [if_neg h, if_pos (show (0 : Int32) < 63 by decide)]
    exact ⟨63, by decide, rfl⟩
theorem lwR_face (gv : Nat → Int32) (L : Lw) : ∃ f, f < 64 ∧ lwR gv L = nn f := mm_face _
theorem code0 : ∀ v, v < 1000 → nn v < 2000 ∧ nn v - 1000 < nn 8 ∧ nn v - 1000 < 0 := by decide +kernel
theorem code1 : ∀ v, v < 8 → nn (1000 + v) < 2000 ∧ nn (1000 + v) - 1000 = nn v ∧ nn v < nn 8 ∧ ¬ nn v < 0 := by decide +kernel
theorem code2 : ∀ v, v < 7 → ¬ nn (1998 + (2 + v)) < 2000 := by decide +kernel
theorem top24 : ∀ t, t < 24 → ¬ (24 : Int32) ≤ nn t := by decide +kernel
theorem nn_m1 {t : Nat} (h : 0 < t) : nn t + (-1) = nn (t - 1) := sb_m1 h
section LAW
variable {w : Wd} {I : Is} {J : Js} {L : Lw}
theorem c_faceFor (S : Sw w) (H : LwC I L) (W : LwW L) {gv : Nat → Int32} (hg : ∀ k, k < 8 → I 29 k = gv k) : ∃ I', f_X4_faceFor 13 29 (st w I J) = some (.inl (lwR gv L), st w I' J) ∧ Ag [15] I I' := by
  obtain ⟨h150, hw, t, ht0, ht1, htb, hts⟩ := W
  have main := loopQ (fun N k (I' : Is) => f_X4_faceFor_b4 N 13 29 (nn (t k)) (nn k) (st w I' J)) (lwN L) (fun k I' => Ag [15] I I' ∧ (lwZ gv L k).1 = t k ∧ ∀ j, j < t k → I' 15 j = (lwZ gv L k).2 j) (fun b => ∃ I', b = some (.inl (lwR gv L), st w I' J) ∧ Ag [15] I I') ?_ ?_ (lwN L) 0 I NF (by omega) (NF_gt (by omega)) ⟨Ag.refl _ _, ht0.symm, fun j hj => by omega⟩
  · rw [ht0] at main
    exact main
  · intro N k I' hk ⟨hA, hz, hst⟩
    left
    have hn : ¬ lwN L ≤ k := by omega
    have hl : I' 13 2 = nn (lwN L) := (hA.at 2 (by decide)).trans H.1
    have hc : I' 14 k = nn (lwC L k) := (hA.at k (by decide)).trans (H.2 k hk)
    obtain ⟨w1, w2, w3⟩ := hw k hk
    obtain ⟨s1, s2⟩ := hts k hk
    by_cases h2 : lwO L k < 2
    · obtain ⟨h24, hnx⟩ := s1 h2
      have h24' := top24 _ h24
      rcases Nat.eq_zero_or_pos (lwO L k) with h0 | h0
      · have hcode : lwC L k = lwV L k := if_pos h0
        obtain ⟨a1, a2, a3⟩ := code0 (lwV L k) (by have := w2 h0; omega)
        refine ⟨up2 I' 15 (t k) (nn (lwV L k)), ?_, hA.up (by decide), ?_, ?_⟩
        · rw [hnx]
          simp (disch := omega) only [bd_eq, pu_ap, if_true, if_false, not_true_eq_false, not_false_eq_true, eq_self, v_0 S, r_0_0 S, r_0_1 S, r_0_2 S, r_0_3 S, r_0_4 S, r_0_5 S, r_0_6 S, r_0_7 S, r_0_8 S, r_0_9 S, r_0_10 S, r_0_11 S, r_0_12 S, n_0_13 S, i_0_14 S, i_0_15 S, i_0_16 S, i_0_17 S, v_1 S, r_1_0 S, i_1_1 S, i_1_2 S, i_1_3 S, i_1_4 S, i_1_5 S, i_1_6 S, v_3 S, r_3_0 S, r_3_1 S, r_3_2 S, r_3_3 S, i_3_4 S, i_3_5 S, v_8 S, r_8_0 S, r_8_1 S, r_8_2 S, r_8_3 S, i_8_4 S, i_8_5 S, v_13 S, r_13_0 S, r_13_1 S, i_13_2 S, v_16 S, r_16_0 S, r_16_1 S, i_16_2 S, v_19 S, r_19_0 S, r_19_1 S, r_19_2 S, r_19_3 S, i_19_4 S, i_19_5 S, i_19_6 S, i_19_7 S, v_24 S, r_24_0 S, r_24_1 S, r_24_2 S, r_24_3 S, i_24_4 S, j_24_5 S, v_28 S, r_28_0 S, r_28_1 S, r_28_2 S, v_30 S, r_30_0 S, r_30_1 S, r_30_2 S, r_30_3 S, i_30_4 S, i_30_5 S, v_33 S, r_33_0 S, r_33_1 S, r_33_2 S, r_33_3 S, i_33_4 S, i_33_5 S, v_37 S, r_37_0 S, r_37_1 S, i_37_2 S, i_37_3 S, i_37_4 S, f_X4_faceFor_b4, f_X4_faceFor_b110, f_X4_faceFor_b114, hl, nn_le, hn, l_14 S, hc, hcode, a1, h24', ln_29 S, a2, a3, s_15 S, nn_succ]
        · rw [lwZ_s, hnx, lwS, if_pos h2]
          show (lwZ gv L k).1 + 1 = _
          rw [hz]
        · intro j hj
          rw [lwZ_s, lwS, if_pos h2, if_pos h0, hz]
          by_cases hj' : j = t k
          · subst hj'
            rw [up2_s]
            exact up1_s.symm
          · rw [up2_k hj', hst j (by omega)]
            exact (up1_n hj').symm
      · have h1 : lwO L k = 1 := by omega
        have hcode : lwC L k = 1000 + lwV L k := by
          unfold lwC
          rw [if_neg (by omega), if_pos h1]
        have hv := w3 h1
        obtain ⟨a1, a2, a3, a4⟩ := code1 (lwV L k) hv
        have hgv : I' 29 (lwV L k) = gv (lwV L k) := (hA.at _ (by decide)).trans (hg _ hv)
        refine ⟨up2 I' 15 (t k) (gv (lwV L k)), ?_, hA.up (by decide), ?_, ?_⟩
        · rw [hnx]
          simp (disch := omega) only [bd_eq, pu_ap, if_true, if_false, not_true_eq_false, not_false_eq_true, eq_self, v_0 S, r_0_0 S, r_0_1 S, r_0_2 S, r_0_3 S, r_0_4 S, r_0_5 S, r_0_6 S, r_0_7 S, r_0_8 S, r_0_9 S, r_0_10 S, r_0_11 S, r_0_12 S, n_0_13 S, i_0_14 S, i_0_15 S, i_0_16 S, i_0_17 S, v_1 S, r_1_0 S, i_1_1 S, i_1_2 S, i_1_3 S, i_1_4 S, i_1_5 S, i_1_6 S, v_3 S, r_3_0 S, r_3_1 S, r_3_2 S, r_3_3 S, i_3_4 S, i_3_5 S, v_8 S, r_8_0 S, r_8_1 S, r_8_2 S, r_8_3 S, i_8_4 S, i_8_5 S, v_13 S, r_13_0 S, r_13_1 S, i_13_2 S, v_16 S, r_16_0 S, r_16_1 S, i_16_2 S, v_19 S, r_19_0 S, r_19_1 S, r_19_2 S, r_19_3 S, i_19_4 S, i_19_5 S, i_19_6 S, i_19_7 S, v_24 S, r_24_0 S, r_24_1 S, r_24_2 S, r_24_3 S, i_24_4 S, j_24_5 S, v_28 S, r_28_0 S, r_28_1 S, r_28_2 S, v_30 S, r_30_0 S, r_30_1 S, r_30_2 S, r_30_3 S, i_30_4 S, i_30_5 S, v_33 S, r_33_0 S, r_33_1 S, r_33_2 S, r_33_3 S, i_33_4 S, i_33_5 S, v_37 S, r_37_0 S, r_37_1 S, i_37_2 S, i_37_3 S, i_37_4 S, f_X4_faceFor_b4, f_X4_faceFor_b110, f_X4_faceFor_b114, hl, nn_le, hn, l_14 S, hc, hcode, a1, h24', ln_29 S, a2, a3, a4, l_29 S, hgv, s_15 S, nn_succ]
        · rw [lwZ_s, hnx, lwS, if_pos h2]
          show (lwZ gv L k).1 + 1 = _
          rw [hz]
        · intro j hj
          rw [lwZ_s, lwS, if_pos h2, if_neg (by omega), hz]
          by_cases hj' : j = t k
          · subst hj'
            rw [up2_s]
            exact up1_s.symm
          · rw [up2_k hj', hst j (by omega)]
            exact (up1_n hj').symm
    · obtain ⟨h24, hnx⟩ := s2 (by omega)
      have hcode : lwC L k = 1998 + lwO L k := by
        unfold lwC
        rw [if_neg (by omega), if_neg (by omega)]
      have a1 : ¬ nn (1998 + lwO L k) < 2000 := by
        have := code2 (lwO L k - 2) (by omega)
        rwa [show 2 + (lwO L k - 2) = lwO L k by omega] at this
      have hb := htb k
      have a2 : (2 : Int32) ≤ nn (t k) := by
        rw [show (2 : Int32) = nn 2 from rfl, nn_le (by decide) (by omega)]
        exact h24
      have e2 : t k - 1 - 1 = t k - 2 := by omega
      have hx1 := hst (t k - 2) (by omega)
      have hx2 := hst (t k - 1) (by omega)
      refine ⟨up2 I' 15 (t k - 2) (jn (lwO L k) (I' 15 (t k - 2)) (I' 15 (t k - 1))), ?_, hA.up (by decide), ?_, ?_⟩
      · rw [show t (k + 1) = t k - 1 by omega]
        simp (disch := omega) only [bd_eq, pu_ap, if_true, if_false, not_true_eq_false, not_false_eq_true, eq_self, v_0 S, r_0_0 S, r_0_1 S, r_0_2 S, r_0_3 S, r_0_4 S, r_0_5 S, r_0_6 S, r_0_7 S, r_0_8 S, r_0_9 S, r_0_10 S, r_0_11 S, r_0_12 S, n_0_13 S, i_0_14 S, i_0_15 S, i_0_16 S, i_0_17 S, v_1 S, r_1_0 S, i_1_1 S, i_1_2 S, i_1_3 S, i_1_4 S, i_1_5 S, i_1_6 S, v_3 S, r_3_0 S, r_3_1 S, r_3_2 S, r_3_3 S, i_3_4 S, i_3_5 S, v_8 S, r_8_0 S, r_8_1 S, r_8_2 S, r_8_3 S, i_8_4 S, i_8_5 S, v_13 S, r_13_0 S, r_13_1 S, i_13_2 S, v_16 S, r_16_0 S, r_16_1 S, i_16_2 S, v_19 S, r_19_0 S, r_19_1 S, r_19_2 S, r_19_3 S, i_19_4 S, i_19_5 S, i_19_6 S, i_19_7 S, v_24 S, r_24_0 S, r_24_1 S, r_24_2 S, r_24_3 S, i_24_4 S, j_24_5 S, v_28 S, r_28_0 S, r_28_1 S, r_28_2 S, v_30 S, r_30_0 S, r_30_1 S, r_30_2 S, r_30_3 S, i_30_4 S, i_30_5 S, v_33 S, r_33_0 S, r_33_1 S, r_33_2 S, r_33_3 S, i_33_4 S, i_33_5 S, v_37 S, r_37_0 S, r_37_1 S, i_37_2 S, i_37_3 S, i_37_4 S, f_X4_faceFor_b4, f_X4_faceFor_b114, hl, nn_le, hn, l_14 S, hc, hcode, a1, a2, nn_m1, nn_pred, e2, l_15 S, c_joined (show 2 ≤ lwO L k by omega) w1, s_15 S, nn_succ]
      · rw [lwZ_s, lwS, if_neg h2]
        show (lwZ gv L k).1 - 1 = _
        rw [hz]
        omega
      · intro j hj
        rw [lwZ_s, lwS, if_neg h2, hz]
        by_cases hj' : j = t k - 2
        · subst hj'
          rw [up2_s, hx1, hx2]
          exact up1_s.symm
        · rw [up2_k hj', hst j (by omega)]
          exact (up1_n hj').symm
  · intro N I' ⟨hA, hz, hst⟩
    have hl : I' 13 2 = nn (lwN L) := (hA.at 2 (by decide)).trans H.1
    refine ⟨I', ?_, hA⟩
    rw [ht1] at hst
    show f_X4_faceFor_b4 (N + 1) 13 29 (nn (t (lwN L))) (nn (lwN L)) (st w I' J) = _
    rw [ht1]
    simp (disch := omega) only [bd_eq, pu_ap, if_true, if_false, not_true_eq_false, not_false_eq_true, eq_self, v_0 S, r_0_0 S, r_0_1 S, r_0_2 S, r_0_3 S, r_0_4 S, r_0_5 S, r_0_6 S, r_0_7 S, r_0_8 S, r_0_9 S, r_0_10 S, r_0_11 S, r_0_12 S, n_0_13 S, i_0_14 S, i_0_15 S, i_0_16 S, i_0_17 S, v_1 S, r_1_0 S, i_1_1 S, i_1_2 S, i_1_3 S, i_1_4 S, i_1_5 S, i_1_6 S, v_3 S, r_3_0 S, r_3_1 S, r_3_2 S, r_3_3 S, i_3_4 S, i_3_5 S, v_8 S, r_8_0 S, r_8_1 S, r_8_2 S, r_8_3 S, i_8_4 S, i_8_5 S, v_13 S, r_13_0 S, r_13_1 S, i_13_2 S, v_16 S, r_16_0 S, r_16_1 S, i_16_2 S, v_19 S, r_19_0 S, r_19_1 S, r_19_2 S, r_19_3 S, i_19_4 S, i_19_5 S, i_19_6 S, i_19_7 S, v_24 S, r_24_0 S, r_24_1 S, r_24_2 S, r_24_3 S, i_24_4 S, j_24_5 S, v_28 S, r_28_0 S, r_28_1 S, r_28_2 S, v_30 S, r_30_0 S, r_30_1 S, r_30_2 S, r_30_3 S, i_30_4 S, i_30_5 S, v_33 S, r_33_0 S, r_33_1 S, r_33_2 S, r_33_3 S, i_33_4 S, i_33_5 S, v_37 S, r_37_0 S, r_37_1 S, i_37_2 S, i_37_3 S, i_37_4 S, f_X4_faceFor_b4, hl, Int32.le_refl, show (nn 1 = 1) = True from by decide, l_15_0 S, hst 0 (by decide)]
    rfl
theorem m_byLaw (S : Sw w) (H : LwM I L) (W : LwW L) {gv : Nat → Int32} (hg : ∀ k, k < 8 → I 415 k = gv k) : ∃ I', f_X12_byLaw 49 (st w I J) = some (.inl (lwR gv L), st w I' J) ∧ Ag [414] I I' := by
  obtain ⟨h150, hw, t, ht0, ht1, htb, hts⟩ := W
  have k0 : I 415 0 = gv 0 := hg 0 (by decide)
  have k2 : I 415 2 = gv 2 := hg 2 (by decide)
  unfold f_X12_byLaw
  simp (disch := omega) only [bd_eq, pu_ap, if_true, if_false, not_true_eq_false, not_false_eq_true, eq_self, v_49 S, i_49_0 S, i_49_1 S, i_49_2 S, i_49_3 S, i_49_4 S, i_49_5 S, i_49_6 S, i_49_7 S, i_49_8 S, r_49_9 S, r_49_10 S, r_49_11 S, r_49_12 S, r_49_13 S, r_49_14 S, r_49_15 S, r_49_16 S, i_49_17 S, i_49_18 S, r_49_19 S, r_49_20 S, r_49_21 S, r_49_22 S, r_49_23 S, r_49_24 S, r_49_25 S, i_49_26 S, r_49_27 S, r_49_28 S, r_49_29 S, r_49_30 S, i_49_31 S, i_49_32 S, i_49_33 S, i_49_34 S, i_49_35 S, i_49_36 S, i_49_37 S, r_49_38 S, i_49_39 S, i_49_40 S, r_49_41 S, r_49_42 S, r_49_43 S, i_49_44 S, r_49_45 S, i_49_46 S, i_49_47 S, i_49_48 S, l_53_0 S, l_53_1 S, l_415_0 S, l_415_2 S, s_414_0 S, k0, k2]
  rcases H with ⟨H1, H2⟩ | ⟨H1, rfl⟩
  · have main := loopQ (fun N k (I' : Is) => f_X12_byLaw_b23 N 49 (nn (t k)) (nn k) (st w I' J)) (lwN L) (fun k I' => Ag [414] I I' ∧ (lwZ gv L k).1 = t k ∧ ∀ j, j < t k → I' 414 j = (lwZ gv L k).2 j) (fun b => ∃ I', b = some (.inl (lwR gv L), st w I' J) ∧ Ag [414] I I') ?_ ?_ (lwN L) 0 (up2 I 414 0 (gv 0 + gv 2)) NF (by omega) (NF_gt (by omega)) ⟨(Ag.refl _ _).up (by decide), ht0.symm, fun j hj => by omega⟩
    · rw [ht0] at main
      exact main
    · intro N k I' hk ⟨hA, hz, hst⟩
      left
      have hn : ¬ lwN L ≤ k := by omega
      have hk160 : k < 160 := by omega
      have hl : I' 49 17 = nn (lwN L) := (hA.at 17 (by decide)).trans H1
      have ho : I' (75 + k) 0 = nn (lwO L k) := (hA.at 0 (by simp; omega)).trans (H2 k hk).1
      have hv' : I' (75 + k) 1 = nn (lwV L k) := (hA.at 1 (by simp; omega)).trans (H2 k hk).2
      obtain ⟨w1, w2, w3⟩ := hw k hk
      obtain ⟨s1, s2⟩ := hts k hk
      have hb := htb k
      by_cases h2 : lwO L k < 2
      · obtain ⟨h24, hnx⟩ := s1 h2
        have b2 : ¬ (2 : Int32) ≤ nn (lwO L k) := by
          rw [show (2 : Int32) = nn 2 from rfl, nn_le (by decide) (by omega)]
          omega
        rcases Nat.eq_zero_or_pos (lwO L k) with h0 | h0
        · have b3 : nn (lwO L k) = 0 := by rw [h0]; rfl
          refine ⟨up2 I' 414 (t k) (nn (lwV L k)), ?_, hA.up (by decide), ?_, ?_⟩
          · rw [hnx]
            simp (disch := omega) only [bd_eq, pu_ap, if_true, if_false, not_true_eq_false, not_false_eq_true, eq_self, v_49 S, i_49_0 S, i_49_1 S, i_49_2 S, i_49_3 S, i_49_4 S, i_49_5 S, i_49_6 S, i_49_7 S, i_49_8 S, r_49_9 S, r_49_10 S, r_49_11 S, r_49_12 S, r_49_13 S, r_49_14 S, r_49_15 S, r_49_16 S, i_49_17 S, i_49_18 S, r_49_19 S, r_49_20 S, r_49_21 S, r_49_22 S, r_49_23 S, r_49_24 S, r_49_25 S, i_49_26 S, r_49_27 S, r_49_28 S, r_49_29 S, r_49_30 S, i_49_31 S, i_49_32 S, i_49_33 S, i_49_34 S, i_49_35 S, i_49_36 S, i_49_37 S, r_49_38 S, i_49_39 S, i_49_40 S, r_49_41 S, r_49_42 S, r_49_43 S, i_49_44 S, r_49_45 S, i_49_46 S, i_49_47 S, i_49_48 S, l_53_0 S, l_53_1 S, f_X12_byLaw_b23, f_X12_byLaw_b83, f_X12_byLaw_b126, hl, nn_le, hn, g_74 S, l_75_0 S, l_75_1 S, ho, hv', show ((2 : Int32) ≤ 0) = False from by decide, b3, s_414 S, nn_succ]
          · rw [lwZ_s, hnx, lwS, if_pos h2]
            show (lwZ gv L k).1 + 1 = _
            rw [hz]
          · intro j hj
            rw [lwZ_s, lwS, if_pos h2, if_pos h0, hz]
            by_cases hj' : j = t k
            · subst hj'
              rw [up2_s]
              exact up1_s.symm
            · rw [up2_k hj', hst j (by omega)]
              exact (up1_n hj').symm
        · have h1 : lwO L k = 1 := by omega
          have hv := w3 h1
          have b3 : ¬ nn (lwO L k) = 0 := by rw [h1]; decide
          have hgv : I' 415 (lwV L k) = gv (lwV L k) := (hA.at _ (by decide)).trans (hg _ hv)
          refine ⟨up2 I' 414 (t k) (gv (lwV L k)), ?_, hA.up (by decide), ?_, ?_⟩
          · rw [hnx]
            simp (disch := omega) only [bd_eq, pu_ap, if_true, if_false, not_true_eq_false, not_false_eq_true, eq_self, v_49 S, i_49_0 S, i_49_1 S, i_49_2 S, i_49_3 S, i_49_4 S, i_49_5 S, i_49_6 S, i_49_7 S, i_49_8 S, r_49_9 S, r_49_10 S, r_49_11 S, r_49_12 S, r_49_13 S, r_49_14 S, r_49_15 S, r_49_16 S, i_49_17 S, i_49_18 S, r_49_19 S, r_49_20 S, r_49_21 S, r_49_22 S, r_49_23 S, r_49_24 S, r_49_25 S, i_49_26 S, r_49_27 S, r_49_28 S, r_49_29 S, r_49_30 S, i_49_31 S, i_49_32 S, i_49_33 S, i_49_34 S, i_49_35 S, i_49_36 S, i_49_37 S, r_49_38 S, i_49_39 S, i_49_40 S, r_49_41 S, r_49_42 S, r_49_43 S, i_49_44 S, r_49_45 S, i_49_46 S, i_49_47 S, i_49_48 S, l_53_0 S, l_53_1 S, f_X12_byLaw_b23, f_X12_byLaw_b83, f_X12_byLaw_b126, hl, nn_le, hn, g_74 S, l_75_0 S, l_75_1 S, ho, hv', b2, b3, l_415 S, hgv, s_414 S, nn_succ]
          · rw [lwZ_s, hnx, lwS, if_pos h2]
            show (lwZ gv L k).1 + 1 = _
            rw [hz]
          · intro j hj
            rw [lwZ_s, lwS, if_pos h2, if_neg (by omega), hz]
            by_cases hj' : j = t k
            · subst hj'
              rw [up2_s]
              exact up1_s.symm
            · rw [up2_k hj', hst j (by omega)]
              exact (up1_n hj').symm
      · obtain ⟨h24, hnx⟩ := s2 (by omega)
        have b2 : (2 : Int32) ≤ nn (lwO L k) := by
          rw [show (2 : Int32) = nn 2 from rfl, nn_le (by decide) (by omega)]
          omega
        have e2 : t k - 1 - 1 = t k - 2 := by omega
        have hx1 := hst (t k - 2) (by omega)
        have hx2 := hst (t k - 1) (by omega)
        refine ⟨up2 I' 414 (t k - 2) (jn (lwO L k) (I' 414 (t k - 2)) (I' 414 (t k - 1))), ?_, hA.up (by decide), ?_, ?_⟩
        · rw [show t (k + 1) = t k - 1 by omega]
          simp (disch := omega) only [bd_eq, pu_ap, if_true, if_false, not_true_eq_false, not_false_eq_true, eq_self, v_49 S, i_49_0 S, i_49_1 S, i_49_2 S, i_49_3 S, i_49_4 S, i_49_5 S, i_49_6 S, i_49_7 S, i_49_8 S, r_49_9 S, r_49_10 S, r_49_11 S, r_49_12 S, r_49_13 S, r_49_14 S, r_49_15 S, r_49_16 S, i_49_17 S, i_49_18 S, r_49_19 S, r_49_20 S, r_49_21 S, r_49_22 S, r_49_23 S, r_49_24 S, r_49_25 S, i_49_26 S, r_49_27 S, r_49_28 S, r_49_29 S, r_49_30 S, i_49_31 S, i_49_32 S, i_49_33 S, i_49_34 S, i_49_35 S, i_49_36 S, i_49_37 S, r_49_38 S, i_49_39 S, i_49_40 S, r_49_41 S, r_49_42 S, r_49_43 S, i_49_44 S, r_49_45 S, i_49_46 S, i_49_47 S, i_49_48 S, l_53_0 S, l_53_1 S, f_X12_byLaw_b23, f_X12_byLaw_b126, hl, nn_le, hn, g_74 S, l_75_0 S, l_75_1 S, ho, hv', b2, nn_m1, nn_pred, e2, l_414 S, m_by (show 2 ≤ lwO L k by omega) w1, s_414 S, nn_succ]
        · rw [lwZ_s, lwS, if_neg h2]
          show (lwZ gv L k).1 - 1 = _
          rw [hz]
          omega
        · intro j hj
          rw [lwZ_s, lwS, if_neg h2, hz]
          by_cases hj' : j = t k - 2
          · subst hj'
            rw [up2_s, hx1, hx2]
            exact up1_s.symm
          · rw [up2_k hj', hst j (by omega)]
            exact (up1_n hj').symm
    · intro N I' ⟨hA, hz, hst⟩
      have hl : I' 49 17 = nn (lwN L) := (hA.at 17 (by decide)).trans H1
      refine ⟨I', ?_, hA⟩
      rw [ht1] at hst
      show f_X12_byLaw_b23 (N + 1) 49 (nn (t (lwN L))) (nn (lwN L)) (st w I' J) = _
      rw [ht1]
      simp (disch := omega) only [bd_eq, pu_ap, if_true, if_false, not_true_eq_false, not_false_eq_true, eq_self, v_49 S, i_49_0 S, i_49_1 S, i_49_2 S, i_49_3 S, i_49_4 S, i_49_5 S, i_49_6 S, i_49_7 S, i_49_8 S, r_49_9 S, r_49_10 S, r_49_11 S, r_49_12 S, r_49_13 S, r_49_14 S, r_49_15 S, r_49_16 S, i_49_17 S, i_49_18 S, r_49_19 S, r_49_20 S, r_49_21 S, r_49_22 S, r_49_23 S, r_49_24 S, r_49_25 S, i_49_26 S, r_49_27 S, r_49_28 S, r_49_29 S, r_49_30 S, i_49_31 S, i_49_32 S, i_49_33 S, i_49_34 S, i_49_35 S, i_49_36 S, i_49_37 S, r_49_38 S, i_49_39 S, i_49_40 S, r_49_41 S, r_49_42 S, r_49_43 S, i_49_44 S, r_49_45 S, i_49_46 S, i_49_47 S, i_49_48 S, l_53_0 S, l_53_1 S, f_X12_byLaw_b23, hl, Int32.le_refl, l_414_0 S, hst 0 (by decide), m_more, m_less]
      unfold lwR
      rw [mm63]
  · refine ⟨up2 I 414 0 (gv 0 + gv 2), ?_, (Ag.refl _ _).up (by decide)⟩
    have e17 : (up2 I 414 0 (gv 0 + gv 2)) 49 17 = nn 0 := by rw [up2_a (by decide)]; exact H1
    obtain ⟨M, hM⟩ := NF_s
    rw [hM]
    show f_X12_byLaw_b23 (M + 1) 49 (nn 0) (nn 0) (st w (up2 I 414 0 (gv 0 + gv 2)) J) = _
    simp (disch := omega) only [bd_eq, pu_ap, if_true, if_false, not_true_eq_false, not_false_eq_true, eq_self, v_49 S, i_49_0 S, i_49_1 S, i_49_2 S, i_49_3 S, i_49_4 S, i_49_5 S, i_49_6 S, i_49_7 S, i_49_8 S, r_49_9 S, r_49_10 S, r_49_11 S, r_49_12 S, r_49_13 S, r_49_14 S, r_49_15 S, r_49_16 S, i_49_17 S, i_49_18 S, r_49_19 S, r_49_20 S, r_49_21 S, r_49_22 S, r_49_23 S, r_49_24 S, r_49_25 S, i_49_26 S, r_49_27 S, r_49_28 S, r_49_29 S, r_49_30 S, i_49_31 S, i_49_32 S, i_49_33 S, i_49_34 S, i_49_35 S, i_49_36 S, i_49_37 S, r_49_38 S, i_49_39 S, i_49_40 S, r_49_41 S, r_49_42 S, r_49_43 S, i_49_44 S, r_49_45 S, i_49_46 S, i_49_47 S, i_49_48 S, l_53_0 S, l_53_1 S, f_X12_byLaw_b23, e17, Int32.le_refl, l_414_0 S, up2_s, m_more, m_less]
    rw [show lwR gv lwU = mx32 0 (mn32 63 (gv 0 + gv 2)) from rfl, mm63]
end LAW
