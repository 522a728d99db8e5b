/-! PURE PART: hold and faces, in both -/
def T7 (F : Fo) (W : Wo) (p i v : Nat) : Nat := cnt (fun f => agrP F W f ∧ pcN (fa F p ^^^ f) = v) i
theorem T7_s (F : Fo) (W : Wo) (p i v : Nat) : T7 F W p (i + 1) v = T7 F W p i v + (if agrP F W i ∧ pcN (fa F p ^^^ i) = v then 1 else 0) := rfl
theorem T7_le (F : Fo) (W : Wo) (p i v : Nat) : T7 F W p i v ≤ i := cnt_le _ _
def mx7 (t : Nat → Nat) : Nat := max (max (max (max (max (max (t 0) (t 1)) (t 2)) (t 3)) (t 4)) (t 5)) (t 6)
theorem mx7_cg {t t' : Nat → Nat} (h : ∀ v, v < 7 → t v = t' v) : mx7 t = mx7 t' := by
  unfold mx7
  rw [h 0 (by omega), h 1 (by omega), h 2 (by omega), h 3 (by omega), h 4 (by omega), h 5 (by omega), h 6 (by omega)]
theorem mx7_le {t : Nat → Nat} {m : Nat} (h : ∀ v, v < 7 → t v ≤ m) : mx7 t ≤ m := by
  unfold mx7
  have h0 := h 0 (by omega)
  have h1 := h 1 (by omega)
  have h2 := h 2 (by omega)
  have h3 := h 3 (by omega)
  have h4 := h 4 (by omega)
  have h5 := h 5 (by omega)
  have h6 := h 6 (by omega)
  omega
theorem mx7_up {t t' : Nat → Nat} {v0 : Nat} (hv : v0 < 7) (h1 : t' v0 = t v0 + 1) (h2 : ∀ v, v ≠ v0 → t' v = t v) : mx7 t' = max (mx7 t) (t v0 + 1) := by
  unfold mx7
  rcases (show v0 = 0 ∨ v0 = 1 ∨ v0 = 2 ∨ v0 = 3 ∨ v0 = 4 ∨ v0 = 5 ∨ v0 = 6 by omega) with h | h | h | h | h | h | h <;> subst h
  · rw [h1, h2 1 (by decide), h2 2 (by decide), h2 3 (by decide), h2 4 (by decide), h2 5 (by decide), h2 6 (by decide)]; omega
  · rw [h1, h2 0 (by decide), h2 2 (by decide), h2 3 (by decide), h2 4 (by decide), h2 5 (by decide), h2 6 (by decide)]; omega
  · rw [h1, h2 0 (by decide), h2 1 (by decide), h2 3 (by decide), h2 4 (by decide), h2 5 (by decide), h2 6 (by decide)]; omega
  · rw [h1, h2 0 (by decide), h2 1 (by decide), h2 2 (by decide), h2 4 (by decide), h2 5 (by decide), h2 6 (by decide)]; omega
  · rw [h1, h2 0 (by decide), h2 1 (by decide), h2 2 (by decide), h2 3 (by decide), h2 5 (by decide), h2 6 (by decide)]; omega
  · rw [h1, h2 0 (by decide), h2 1 (by decide), h2 2 (by decide), h2 3 (by decide), h2 4 (by decide), h2 6 (by decide)]; omega
  · rw [h1, h2 0 (by decide), h2 1 (by decide), h2 2 (by decide), h2 3 (by decide), h2 4 (by decide), h2 5 (by decide)]; omega
theorem mx_nn {a b : Nat} (ha : a < 2147483648) (hb : b < 2147483648) : mx32 (nn a) (nn b) = nn (max a b) := by
  unfold mx32
  have q : (nn a < nn b) = (a < b) := nn_lt ha hb
  by_cases h : a < b
  · rw [if_pos (by rw [q]; exact h)]
    congr 1
    omega
  · rw [if_neg (by rw [q]; exact h)]
    congr 1
    omega
theorem mn_nn {a b : Nat} (ha : a < 2147483648) (hb : b < 2147483648) : mn32 (nn a) (nn b) = nn (min a b) := by
  unfold mn32
  have q : (nn b < nn a) = (b < a) := nn_lt hb ha
  by_cases h : b < a
  · rw [if_pos (by rw [q]; exact h)]
    congr 1
    omega
  · rw [if_neg (by rw [q]; exact h)]
    congr 1
    omega
theorem six_sub : ∀ v, v ≤ 6 → (6 : Int32) - nn v = nn (6 - v) := by decide
def wst (F : Fo) (W : Wo) (p : Nat) : Nat := mx7 (T7 F W p 64)
abbrev tld (W : Wo) (p : Nat) : Prop := ¬ ∀ k, k < W.1 → ¬ W.2.1 k = p
theorem said_t {F : Fo} {W : Wo} (WW : WoW F W) (p : Nat) : (saidW W p = -1) ↔ ¬ tld W p := by
  unfold saidW tld
  have key : ∀ n, n ≤ W.1 → ((∀ k, k < n → ¬ W.2.1 k = p) → lp (fun k x => if W.2.1 k = p then nn (W.2.2 k) else x) n 0 (-1) = -1) ∧ ((¬ ∀ k, k < n → ¬ W.2.1 k = p) → ∃ m, m ≤ 6 ∧ lp (fun k x => if W.2.1 k = p then nn (W.2.2 k) else x) n 0 (-1) = nn m) := by
    intro n
    induction n with
    | zero => exact fun _ => ⟨fun _ => rfl, fun h => absurd (fun k hk => absurd hk (Nat.not_lt_zero _)) h⟩
    | succ n ih =>
      intro hn
      obtain ⟨i1, i2⟩ := ih (by omega)
      refine ⟨fun h => ?_, fun h => ?_⟩
      · rw [lp_end, Nat.zero_add, if_neg (h n (by omega))]
        exact i1 fun k hk => h k (by omega)
      · rw [lp_end, Nat.zero_add]
        by_cases q : W.2.1 n = p
        · rw [if_pos q]
          exact ⟨_, (WW.2.1 n (by omega)).2, rfl⟩
        · rw [if_neg q]
          refine i2 fun h' => h fun k hk => ?_
          by_cases e : k = n
          · rw [e]; exact q
          · exact h' k (by omega)
  obtain ⟨k1, k2⟩ := key W.1 (Nat.le_refl _)
  by_cases h : ∀ k, k < W.1 → ¬ W.2.1 k = p
  · exact ⟨fun _ q => q h, fun _ => k1 h⟩
  · obtain ⟨m, hm, e⟩ := k2 h
    rw [e]
    exact ⟨fun q => absurd q (nn_ne_neg (by omega)), fun q => absurd h q⟩
section HOLD
variable {w : Wd} {I I' : Is} {J J' : Js} {F : Fo} {A : At} {W0 : Wo} {D : Dt}
theorem lt6 {i : Nat} (h : i < 7) : ¬ (6 : Int32) < nn i := by rw [show (6 : Int32) = nn 6 from rfl, nn_lt (by omega) (by omega)]; omega
theorem c_worstBy (S : Sw w) (HF : FoC I F) (WF : FoW F) (HW : WoC I J F W0) {p : Nat} (hp : p < sz F) : ∃ I1, f_X1_worstBy 24 (nn p) (st w I J) = some (.inl (nn (wst F W0 p)), st w I1 J) ∧ Ag [27] I I1 := by
  have h8 := WF.1
  have main : ∀ I0, Ag [27] I I0 → (∀ v, v < 7 → I0 27 v = 0) → ∃ I1, f_X1_worstBy_b25 NF 24 (nn p) 0 0 (st w I0 J) = some (.inl (nn (wst F W0 p)), st w I1 J) ∧ Ag [27] I I1 := by
    intro I0 a0 h0
    refine loopQ (fun N i (z : Nat × Is) => f_X1_worstBy_b25 N 24 (nn p) (nn z.1) (nn i) (st w z.2 J)) 64 (fun i z => Ag [27] I z.2 ∧ z.1 = mx7 (T7 F W0 p i) ∧ ∀ v, v < 7 → z.2 27 (6 - v) = nn (T7 F W0 p i v)) (fun r => ∃ I1, r = some (.inl (nn (wst F W0 p)), st w I1 J) ∧ Ag [27] I I1) ?_ ?_ 64 0 (0, I0) NF (by omega) (NF_gt (by omega)) ⟨a0, rfl, fun v hv => h0 (6 - v) (by omega)⟩
    · intro N i ⟨m, I1⟩ hi ⟨a1, hm, ht⟩
      left
      have hm : m = mx7 (T7 F W0 p i) := hm
      have ht : ∀ v, v < 7 → I1 27 (6 - v) = nn (T7 F W0 p i v) := ht
      have a1 : Ag [27] I I1 := a1
      have HF1 := HF.ag a1 (by decide)
      have HW1 : WoC I1 J F W0 := by
        unfold WoC
        rw [a1 24 (by decide), a1 25 (by decide)]
        exact HW
      have e2 := (v_24 S (F := f_X1_fits 24 (nn i))).trans (c_fits (J := J) S HW1 hi)
      by_cases h : agrP F W0 i
      · obtain ⟨pv, pv6⟩ := pc_s (fa F p ^^^ i) (xor64 (WF.2.2 p hp).1 hi)
        obtain ⟨v0, hv0⟩ : ∃ v0, v0 = pcN (fa F p ^^^ i) := ⟨_, rfl⟩
        rw [← hv0] at pv pv6
        have ic : f_X1_inCommon 24 (nn p) (nn i) (st w I1 J) = some (.inl (nn (6 - v0)), st w I1 J) := by
          have l4 := l_4 (I := I1) (J := J) (k := p) S (by omega)
          rw [fc_fa HF1 hp] at l4
          unfold f_X1_inCommon
          rw [bd_st (r_24_0 S), bd_st (r_3_0 S), bd_st l4, nn_xor, pv, six_sub v0 pv6]
          rfl
        have tl := T7_le F W0 p i v0
        have lv := l_27 (I := I1) (J := J) (k := 6 - v0) S (by omega)
        rw [ht v0 (by omega)] at lv
        have ml : mx7 (T7 F W0 p i) ≤ i := mx7_le fun v _ => T7_le F W0 p i v
        have up0 : T7 F W0 p (i + 1) v0 = T7 F W0 p i v0 + 1 := by rw [T7_s, if_pos ⟨h, hv0.symm⟩]
        have upn : ∀ v, v ≠ v0 → T7 F W0 p (i + 1) v = T7 F W0 p i v := fun v hv => by rw [T7_s, if_neg (fun q => hv (q.2.symm.trans hv0.symm)), Nat.add_zero]
        refine ⟨(mx7 (T7 F W0 p (i + 1)), up2 I1 27 (6 - v0) (nn (T7 F W0 p i v0 + 1))), ?_, a1.up (by decide), rfl, fun v hv => ?_⟩
        · show f_X1_worstBy_b25 (N + 1) 24 (nn p) (nn m) (nn i) (st w I1 J) = _
          have lv2 := l_27 (I := up2 I1 27 (6 - v0) (nn (T7 F W0 p i v0 + 1))) (J := J) (k := 6 - v0) S (by omega)
          rw [up2_s] at lv2
          rw [f_X1_worstBy_b25, if_neg (le64 hi), bd_st e2, bI_t h, if_neg (by decide), bd_st ((v_24 S).trans ic), bd_st (r_24_3 S), bd_st lv, nn_succ, bd_st (s_27 S (by omega)), bd_st (r_24_3 S), bd_st lv2, f_X1_worstBy_b70, nn_succ, mx7_up (by omega) up0 upn, hm, mx_nn (by omega) (by omega)]
        · show up2 I1 27 (6 - v0) (nn (T7 F W0 p i v0 + 1)) 27 (6 - v) = _
          by_cases e : v = v0
          · rw [e, up2_s, up0]
          · rw [up2_k (by omega), upn v e]
            exact ht v hv
      · have same : ∀ v, T7 F W0 p (i + 1) v = T7 F W0 p i v := fun v => by rw [T7_s, if_neg (fun q => h q.1), Nat.add_zero]
        refine ⟨(m, I1), ?_, a1, ?_, fun v hv => ?_⟩
        · show f_X1_worstBy_b25 (N + 1) 24 (nn p) (nn m) (nn i) (st w I1 J) = _
          rw [f_X1_worstBy_b25, if_neg (le64 hi), bd_st e2, bI_f h, if_pos rfl, f_X1_worstBy_b70, nn_succ]
        · show m = _
          rw [hm]
          exact (mx7_cg fun v _ => same v).symm
        · rw [same v]
          exact ht v hv
    · intro N ⟨m, I1⟩ ⟨a1, hm, ht⟩
      have hm : m = mx7 (T7 F W0 p 64) := hm
      refine ⟨I1, ?_, a1⟩
      show f_X1_worstBy_b25 (N + 1) 24 (nn p) (nn m) (nn 64) (st w I1 J) = _
      rw [f_X1_worstBy_b25, if_pos (show (64 : Int32) ≤ nn 64 by decide), hm]
      rfl
  unfold f_X1_worstBy
  refine loopQ (fun N i (I0 : Is) => f_X1_worstBy_b2 N 24 (nn p) (nn i) (st w I0 J)) 7 (fun i I0 => Ag [27] I I0 ∧ ∀ v, v < i → I0 27 v = 0) (fun r => ∃ I1, r = some (.inl (nn (wst F W0 p)), st w I1 J) ∧ Ag [27] I I1) ?_ ?_ 7 0 I NF (by omega) (NF_gt (by omega)) ⟨Ag.refl _ _, fun v hv => by omega⟩
  · intro N i I0 hi ⟨a0, h0⟩
    left
    refine ⟨up2 I0 27 i 0, ?_, a0.up (by decide), fun v hv => ?_⟩
    · show f_X1_worstBy_b2 (N + 1) 24 (nn p) (nn i) (st w I0 J) = _
      rw [f_X1_worstBy_b2, if_neg (lt6 hi), bd_st (r_24_3 S), bd_st (s_27 S (by omega)), nn_succ]
    · by_cases e : v = i
      · rw [e, up2_s]
      · rw [up2_k e]
        exact h0 v (by omega)
  · intro N I0 ⟨a0, h0⟩
    show ∃ I1, f_X1_worstBy_b2 (N + 1) 24 (nn p) (nn 7) (st w I0 J) = _ ∧ _
    rw [f_X1_worstBy_b2, if_pos (show (6 : Int32) < nn 7 by decide)]
    exact main I0 a0 h0
theorem m_worstAt (S : Sw w) (MF : FoM I F) (WF : FoW F) (MW : WoM I W0) (WW : WoW F W0) {p : Nat} (hp : p < sz F) : ∃ I1, f_X12_worstAt 49 (nn p) (st w I J) = some (.inl (nn (wst F W0 p)), st w I1 J) ∧ Ag [521] I I1 := by
  have h8 := WF.1
  have hl := WW.1
  have last : ∀ I0, (∀ v, v < 7 → I0 521 v = nn (T7 F W0 p 64 v)) → f_X12_worstAt_b66 NF 49 0 0 (st w I0 J) = some (.inl (nn (wst F W0 p)), st w I0 J) := by
    intro I0 h0
    have h := loopP (fun N i (y : Nat) => f_X12_worstAt_b66 N 49 (nn y) (nn i) (st w I0 J)) 7 (fun _ y => y ≤ 64) (fun v y => max y (T7 F W0 p 64 v)) (fun y => some (.inl (nn y), st w I0 J)) (by
      intro N i y hi hy
      have tl := T7_le F W0 p 64 i
      have lv := l_521 (I := I0) (J := J) (k := i) S hi
      rw [h0 i hi] at lv
      refine ⟨?_, by show max y _ ≤ 64; omega⟩
      rw [f_X12_worstAt_b66, if_neg (lt6 hi), bd_st (r_49_41 S), bd_st lv, bd_st (m_more _ _), mx_nn (by omega) (by omega), nn_succ]) (by
      intro N y _
      rw [f_X12_worstAt_b66, if_pos (show (6 : Int32) < nn 7 by decide)]
      rfl) 7 0 0 NF (by omega) (NF_gt (by decide)) (by decide)
    have e : lp (fun v y => max y (T7 F W0 p 64 v)) 7 0 0 = wst F W0 p := by
      simp only [lp, wst, mx7, Nat.zero_max, Nat.zero_add]
    have h1 := h.1
    rw [e] at h1
    exact h1
  have main : ∀ I0, Ag [521] I I0 → (∀ v, v < 7 → I0 521 v = 0) → ∃ I1, f_X12_worstAt_b25 NF 49 (nn p) 0 0 (st w I0 J) = some (.inl (nn (wst F W0 p)), st w I1 J) ∧ Ag [521] I I1 := by
    intro I0 a0 h0
    refine loopQ (fun N i (I1 : Is) => f_X12_worstAt_b25 N 49 (nn p) 0 (nn i) (st w I1 J)) 64 (fun i I1 => Ag [521] I I1 ∧ ∀ v, v < 7 → I1 521 v = nn (T7 F W0 p i v)) (fun r => ∃ I1, r = some (.inl (nn (wst F W0 p)), st w I1 J) ∧ Ag [521] I I1) ?_ ?_ 64 0 I0 NF (by omega) (NF_gt (by omega)) ⟨a0, fun v hv => h0 v hv⟩
    · intro N i I1 hi ⟨a1, ht⟩
      left
      have MF1 := MF.ag h8 a1 (by decide)
      have MW1 : WoM I1 W0 := by
        refine ⟨by rw [a1 49 (by decide)]; exact MW.1, fun k hk => ?_⟩
        rw [a1 (397 + k) (by simp; omega)]
        exact MW.2 k hk
      have e2 := (v_49 S (F := f_X12_isSaid 49 (nn i))).trans (m_isSaid (J := J) S MF1 WF MW1 WW hi)
      by_cases h : agrP F W0 i
      · obtain ⟨pv, pv6⟩ := pc_s (fa F p ^^^ i) (xor64 (WF.2.2 p hp).1 hi)
        obtain ⟨v0, hv0⟩ : ∃ v0, v0 = pcN (fa F p ^^^ i) := ⟨_, rfl⟩
        rw [← hv0] at pv pv6
        have fo := (v_49 S (F := f_X12_faceOf 49 (nn p))).trans (m_faceOf (J := J) S MF1 h8 hp)
        have on := m_onesy hi (WF.2.2 p hp).1 (σ := st w I1 J)
        rw [nn_xor (fa F p), pv] at on
        have lv := l_521 (I := I1) (J := J) (k := v0) S (by omega)
        rw [ht v0 (by omega)] at lv
        have up0 : T7 F W0 p (i + 1) v0 = T7 F W0 p i v0 + 1 := by rw [T7_s, if_pos ⟨h, hv0.symm⟩]
        have upn : ∀ v, v ≠ v0 → T7 F W0 p (i + 1) v = T7 F W0 p i v := fun v hv => by rw [T7_s, if_neg (fun q => hv (q.2.symm.trans hv0.symm)), Nat.add_zero]
        refine ⟨up2 I1 521 v0 (nn (T7 F W0 p i v0 + 1)), ?_, a1.up (by decide), fun v hv => ?_⟩
        · show f_X12_worstAt_b25 (N + 1) 49 (nn p) 0 (nn i) (st w I1 J) = _
          rw [f_X12_worstAt_b25, if_neg (le64 hi), bd_st e2, bI_t h, if_neg (by decide), bd_st (r_49_41 S), bd_st fo, bd_st on, bd_st lv, nn_succ, bd_st (s_521 S (by omega)), f_X12_worstAt_b58, nn_succ]
        · by_cases e : v = v0
          · rw [e, up2_s, up0]
          · rw [up2_k e, upn v e]
            exact ht v hv
      · have same : ∀ v, T7 F W0 p (i + 1) v = T7 F W0 p i v := fun v => by rw [T7_s, if_neg (fun q => h q.1), Nat.add_zero]
        refine ⟨I1, ?_, a1, fun v hv => ?_⟩
        · show f_X12_worstAt_b25 (N + 1) 49 (nn p) 0 (nn i) (st w I1 J) = _
          rw [f_X12_worstAt_b25, if_neg (le64 hi), bd_st e2, bI_f h, if_pos rfl, f_X12_worstAt_b58, nn_succ]
        · rw [same v]
          exact ht v hv
    · intro N I1 ⟨a1, ht⟩
      refine ⟨I1, ?_, a1⟩
      show f_X12_worstAt_b25 (N + 1) 49 (nn p) 0 (nn 64) (st w I1 J) = _
      rw [f_X12_worstAt_b25, if_pos (show (64 : Int32) ≤ nn 64 by decide)]
      exact last I1 ht
  unfold f_X12_worstAt
  refine loopQ (fun N i (I0 : Is) => f_X12_worstAt_b4 N 49 (nn p) 0 (nn i) (st w I0 J)) 7 (fun i I0 => Ag [521] I I0 ∧ ∀ v, v < i → I0 521 v = 0) (fun r => ∃ I1, r = some (.inl (nn (wst F W0 p)), st w I1 J) ∧ Ag [521] I I1) ?_ ?_ 7 0 I NF (by omega) (NF_gt (by omega)) ⟨Ag.refl _ _, fun v hv => by omega⟩
  · intro N i I0 hi ⟨a0, h0⟩
    left
    refine ⟨up2 I0 521 i 0, ?_, a0.up (by decide), fun v hv => ?_⟩
    · show f_X12_worstAt_b4 (N + 1) 49 (nn p) 0 (nn i) (st w I0 J) = _
      rw [f_X12_worstAt_b4, if_neg (lt6 hi), bd_st (r_49_41 S), bd_st (s_521 S (by omega)), nn_succ]
    · by_cases e : v = i
      · rw [e, up2_s]
      · rw [up2_k e]
        exact h0 v (by omega)
  · intro N I0 ⟨a0, h0⟩
    show ∃ I1, f_X12_worstAt_b4 (N + 1) 49 (nn p) 0 (nn 7) (st w I0 J) = _ ∧ _
    rw [f_X12_worstAt_b4, if_pos (show (6 : Int32) < nn 7 by decide)]
    exact main I0 a0 h0
theorem m_isTold (S : Sw w) (MW : WoM I W0) (WW : WoW F W0) (h8 : sz F ≤ 8) {p : Nat} (hp : p < 8) : f_X12_isTold 49 (nn p) (st w I J) = some (.inl (bI (tld W0 p)), st w I J) := by
  have hl := WW.1
  unfold f_X12_isTold
  refine loopQ (fun N i (_ : Unit) => f_X12_isTold_b2 N 49 (nn p) (nn i) (st w I J)) W0.1 (fun i _ => ∀ k, k < i → ¬ W0.2.1 k = p) (fun z => z = some (.inl (bI (tld W0 p)), st w I J)) ?_ ?_ W0.1 0 () NF (by omega) (NF_gt (by omega)) (fun k hk => by omega)
  · intro N i _ hi hP
    have hq : ¬ nn W0.1 ≤ nn i := by rw [nn_le (by omega) (by omega)]; omega
    obtain ⟨p1, p2⟩ := WW.2.1 i hi
    have i31 := i_49_31 (I := I) (J := J) S
    rw [MW.1] at i31
    have g1 := g_396 (I := I) (J := J) (k := i) S (by omega)
    have l0 := l_397_0 (I := I) (J := J) (p := i) S (by omega)
    rw [(MW.2 i hi).1] at l0
    have qp : (nn (W0.2.1 i) = nn p) = (W0.2.1 i = p) := nn_eq (by omega) (by omega)
    by_cases hc : W0.2.1 i = p
    · right
      show f_X12_isTold_b2 (N + 1) 49 (nn p) (nn i) (st w I J) = _
      rw [f_X12_isTold_b2, bd_st i31, if_neg hq, bd_st (r_49_21 S), bd_st g1, bd_st l0, if_pos (by rw [qp]; exact hc), bI_t (c := tld W0 p) (fun q => q i hi hc)]
      rfl
    · left
      refine ⟨(), ?_, fun k hk => ?_⟩
      · show f_X12_isTold_b2 (N + 1) 49 (nn p) (nn i) (st w I J) = _
        rw [f_X12_isTold_b2, bd_st i31, if_neg hq, bd_st (r_49_21 S), bd_st g1, bd_st l0, if_neg (by rw [qp]; exact hc), nn_succ]
      · by_cases e : k = i
        · rw [e]; exact hc
        · exact hP k (by omega)
  · intro N _ hP
    have i31 := i_49_31 (I := I) (J := J) S
    rw [MW.1] at i31
    show f_X12_isTold_b2 (N + 1) 49 (nn p) (nn W0.1) (st w I J) = _
    rw [f_X12_isTold_b2, bd_st i31, if_pos (Int32.le_refl _), bI_f (c := tld W0 p) (fun q => q hP)]
    rfl
theorem b_hold (S : Sw w) (W : WD D) {k : Nat} (hk : k < 2) : Bod w D (f_X11_hold_b13 NF 0 (nn k) (-1) (-1) 0) (f_X12_hold_b37 NF 49 (nn k) (-1) (-1) 0) := by
  intro I I' J J' HC HM H0
  have HCs := HC
  have HMs := HM
  obtain ⟨⟨HF, HA, HL, HW, HT, -⟩, -, -⟩ := HC
  obtain ⟨⟨MF, MA, ML, MW, MT, -⟩, -, -⟩ := HM
  have Ws := W
  obtain ⟨WF, ⟨WA, -, WB, -⟩, -, WL, WW, -⟩ := W
  have h8 := WF.1
  have h40 := WA.1
  have T := StS_43 S
  have U := RoS_497 S
  have q0 : (nn k = (0 : Int32)) = (k = 0) := nn_eq (b := 0) (by omega) (by omega)
  refine loopS HCs HMs Ws H0 (fun N i (x : Int32 × Int32) I => f_X11_hold_b13 N 0 (nn k) x.1 x.2 (nn i) (st w I J)) (fun N i (x : Int32 × Int32) I => f_X12_hold_b37 N 49 (nn k) x.1 x.2 (nn i) (st w I J')) (sz (dF D)) (fun _ x y _ _ => x = y) ?_ ?_ (-1, -1) (-1, -1) rfl (by omega)
  · intro N i ⟨b, l⟩ y I1 I2 hi hxy a1 a2 HC HM _
    subst hxy
    left
    obtain ⟨⟨HF, HA, HL, HW, HT, -⟩, -, -⟩ := HC
    obtain ⟨⟨MF, MA, ML, MW, MT, -⟩, -, -⟩ := HM
    have hq : ¬ nn (sz (dF D)) ≤ nn i := by rw [nn_le (by omega) (by omega)]; omega
    have s1 := i_3_4 (I := I1) (J := J) S
    rw [fc_sz HF] at s1
    have s2 := l_53_0 (I := I2) (J := J') S
    rw [fm_sz MF] at s2
    have l25 := l_25 (I := I1) (J := J) (k := i) S (by omega)
    rw [HW.2.1 i (by omega)] at l25
    have e2 := (v_49 S (F := f_X12_isTold 49 (nn i))).trans (m_isTold (J := J') S MW WW h8 (show i < 8 by omega))
    by_cases ht : tld (dW D) i
    · have hs : ¬ saidW (dW D) i = -1 := fun q => (said_t WW i).1 q ht
      refine ⟨(b, l), (b, l), I1, I2, ?_, ?_, Ag.refl _ _, AgM.refl _, rfl⟩
      · show f_X11_hold_b13 (N + 1) 0 (nn k) b l (nn i) (st w I1 J) = _
        rw [f_X11_hold_b13, bd_st (r_0_1 S), bd_st s1, if_neg hq, bd_st (r_0_6 S), bd_st (r_24_1 S), bd_st l25, if_neg hs, f_X11_hold_b67, nn_succ]
      · show f_X12_hold_b37 (N + 1) 49 (nn k) b l (nn i) (st w I2 J') = _
        rw [f_X12_hold_b37, bd_st (r_49_12 S), bd_st s2, if_neg hq, bd_st e2, bI_t ht, if_neg (by decide), f_X12_hold_b88, nn_succ]
    · have hs : saidW (dW D) i = -1 := (said_t WW i).2 ht
      obtain ⟨I3, e3, a3⟩ := c_worstBy (J := J) S HF WF HW hi
      obtain ⟨I4, e4, a4⟩ := m_worstAt (J := J') S MF WF MW WW hi
      have c1 : f_X11_hold_b13 (N + 1) 0 (nn k) b l (nn i) (st w I1 J) = (if (b = (-1) : Prop) then (f_X11_hold_b61 (f_X11_hold_b13 N) 0 (nn k) (nn i) (nn (wst (dF D) (dW D) i))) else if (l ≤ nn (wst (dF D) (dW D) i) : Prop) then (f_X11_hold_b67 (f_X11_hold_b13 N) 0 (nn k) b l (nn i)) else f_X11_hold_b61 (f_X11_hold_b13 N) 0 (nn k) (nn i) (nn (wst (dF D) (dW D) i))) (st w I3 J) := by
        rw [f_X11_hold_b13, bd_st (r_0_1 S), bd_st s1, if_neg hq, bd_st (r_0_6 S), bd_st (r_24_1 S), bd_st l25, if_pos hs, bd_st (r_0_6 S), bd_st ((v_24 S).trans e3)]
      have c2 : f_X12_hold_b37 (N + 1) 49 (nn k) b l (nn i) (st w I2 J') = (if (b = (-1) : Prop) then (f_X12_hold_b82 (f_X12_hold_b37 N) 49 (nn k) (nn i) (nn (wst (dF D) (dW D) i))) else if (nn (wst (dF D) (dW D) i) < l : Prop) then (f_X12_hold_b82 (f_X12_hold_b37 N) 49 (nn k) (nn i) (nn (wst (dF D) (dW D) i))) else f_X12_hold_b88 (f_X12_hold_b37 N) 49 (nn k) b l (nn i)) (st w I4 J') := by
        rw [f_X12_hold_b37, bd_st (r_49_12 S), bd_st s2, if_neg hq, bd_st e2, bI_f ht, if_pos rfl, bd_st ((v_49 S).trans e4)]
      by_cases hb : b = -1
      · refine ⟨(nn i, nn (wst (dF D) (dW D) i)), (nn i, nn (wst (dF D) (dW D) i)), I3, I4, ?_, ?_, a3.mono (by decide), AgM.of a4 (by decide) (by decide), rfl⟩
        · refine c1.trans ?_
          rw [if_pos hb, f_X11_hold_b61, f_X11_hold_b67, nn_succ]
        · refine c2.trans ?_
          rw [if_pos hb, f_X12_hold_b82, f_X12_hold_b88, nn_succ]
      · by_cases hl : l ≤ nn (wst (dF D) (dW D) i)
        · refine ⟨(b, l), (b, l), I3, I4, ?_, ?_, a3.mono (by decide), AgM.of a4 (by decide) (by decide), rfl⟩
          · refine c1.trans ?_
            rw [if_neg hb, if_pos hl, f_X11_hold_b67, nn_succ]
          · refine c2.trans ?_
            rw [if_neg hb, if_neg (Int32.not_lt.mpr hl), f_X12_hold_b88, nn_succ]
        · refine ⟨(nn i, nn (wst (dF D) (dW D) i)), (nn i, nn (wst (dF D) (dW D) i)), I3, I4, ?_, ?_, a3.mono (by decide), AgM.of a4 (by decide) (by decide), rfl⟩
          · refine c1.trans ?_
            rw [if_neg hb, if_neg hl, f_X11_hold_b61, f_X11_hold_b67, nn_succ]
          · refine c2.trans ?_
            rw [if_neg hb, if_pos (Int32.not_le.mp hl), f_X12_hold_b82, f_X12_hold_b88, nn_succ]
  · intro N ⟨b, l⟩ y I1 I2 hxy a1 a2 HC HM _
    subst hxy
    obtain ⟨⟨HF, HA, HL, HW, HT, -⟩, -, -⟩ := HC
    obtain ⟨⟨MF, MA, ML, MW, MT, -⟩, -, -⟩ := HM
    refine QQ.mk (if k = 0 then b else l) ?_ ?_
    · by_cases c0 : k = 0
      · simp (disch := omega) only [bd_eq, pu_ap, if_true, if_false, not_true_eq_false, not_false_eq_true, eq_self, v_0 S, r_0_0 S, r_0_1 S, r_0_2 S, r_0_3 S, r_0_4 S, r_0_5 S, r_0_6 S, r_0_7 S, r_0_8 S, r_0_9 S, r_0_10 S, r_0_11 S, r_0_12 S, n_0_13 S, i_0_14 S, i_0_15 S, i_0_16 S, i_0_17 S, v_1 S, r_1_0 S, i_1_1 S, i_1_2 S, i_1_3 S, i_1_4 S, i_1_5 S, i_1_6 S, v_3 S, r_3_0 S, r_3_1 S, r_3_2 S, r_3_3 S, i_3_4 S, i_3_5 S, v_8 S, r_8_0 S, r_8_1 S, r_8_2 S, r_8_3 S, i_8_4 S, i_8_5 S, v_13 S, r_13_0 S, r_13_1 S, i_13_2 S, v_16 S, r_16_0 S, r_16_1 S, i_16_2 S, v_19 S, r_19_0 S, r_19_1 S, r_19_2 S, r_19_3 S, i_19_4 S, i_19_5 S, i_19_6 S, i_19_7 S, v_24 S, r_24_0 S, r_24_1 S, r_24_2 S, r_24_3 S, i_24_4 S, j_24_5 S, v_28 S, r_28_0 S, r_28_1 S, r_28_2 S, v_30 S, r_30_0 S, r_30_1 S, r_30_2 S, r_30_3 S, i_30_4 S, i_30_5 S, v_33 S, r_33_0 S, r_33_1 S, r_33_2 S, r_33_3 S, i_33_4 S, i_33_5 S, v_37 S, r_37_0 S, r_37_1 S, i_37_2 S, i_37_3 S, i_37_4 S, fc_sz HF, fc_ak HF, fc_fa HF, fc_te HF, fc_pr HF, fc_sy HF, l_4 S, l_5 S, l_6 S, l_7 S, e_v T, e_i4 T, e_i5 T, e_r0 T, e_r1 T, e_r2 T, e_r3 T, e_l1 T, e_l2 T, e_l3 T, sr_hg HA, sr_yr HA, sr_mo HA, sr_tk HA, sr_sa HA, c_taker T HA WA h8, c_sitter T HA WA h8, c_hallOf T HA WA h8, c_faceOn T HA WA h8, c_yearOf T HA WA h8, c_nearest S HF WF, c_never S HF h8, c_alike S HF, nn_le, nn_succ, bI_0, Int32.or_zero, Int32.add_zero, Int32.le_refl, f_X11_hold_b13, q0, eq_true c0]
      · simp (disch := omega) only [bd_eq, pu_ap, if_true, if_false, not_true_eq_false, not_false_eq_true, eq_self, v_0 S, r_0_0 S, r_0_1 S, r_0_2 S, r_0_3 S, r_0_4 S, r_0_5 S, r_0_6 S, r_0_7 S, r_0_8 S, r_0_9 S, r_0_10 S, r_0_11 S, r_0_12 S, n_0_13 S, i_0_14 S, i_0_15 S, i_0_16 S, i_0_17 S, v_1 S, r_1_0 S, i_1_1 S, i_1_2 S, i_1_3 S, i_1_4 S, i_1_5 S, i_1_6 S, v_3 S, r_3_0 S, r_3_1 S, r_3_2 S, r_3_3 S, i_3_4 S, i_3_5 S, v_8 S, r_8_0 S, r_8_1 S, r_8_2 S, r_8_3 S, i_8_4 S, i_8_5 S, v_13 S, r_13_0 S, r_13_1 S, i_13_2 S, v_16 S, r_16_0 S, r_16_1 S, i_16_2 S, v_19 S, r_19_0 S, r_19_1 S, r_19_2 S, r_19_3 S, i_19_4 S, i_19_5 S, i_19_6 S, i_19_7 S, v_24 S, r_24_0 S, r_24_1 S, r_24_2 S, r_24_3 S, i_24_4 S, j_24_5 S, v_28 S, r_28_0 S, r_28_1 S, r_28_2 S, v_30 S, r_30_0 S, r_30_1 S, r_30_2 S, r_30_3 S, i_30_4 S, i_30_5 S, v_33 S, r_33_0 S, r_33_1 S, r_33_2 S, r_33_3 S, i_33_4 S, i_33_5 S, v_37 S, r_37_0 S, r_37_1 S, i_37_2 S, i_37_3 S, i_37_4 S, fc_sz HF, fc_ak HF, fc_fa HF, fc_te HF, fc_pr HF, fc_sy HF, l_4 S, l_5 S, l_6 S, l_7 S, e_v T, e_i4 T, e_i5 T, e_r0 T, e_r1 T, e_r2 T, e_r3 T, e_l1 T, e_l2 T, e_l3 T, sr_hg HA, sr_yr HA, sr_mo HA, sr_tk HA, sr_sa HA, c_taker T HA WA h8, c_sitter T HA WA h8, c_hallOf T HA WA h8, c_faceOn T HA WA h8, c_yearOf T HA WA h8, c_nearest S HF WF, c_never S HF h8, c_alike S HF, nn_le, nn_succ, bI_0, Int32.or_zero, Int32.add_zero, Int32.le_refl, f_X11_hold_b13, q0, eq_false c0]
    · by_cases c0 : k = 0
      · simp (disch := omega) only [bd_eq, pu_ap, if_true, if_false, not_true_eq_false, not_false_eq_true, eq_self, v_49 S, i_49_0 S, i_49_1 S, i_49_2 S, i_49_3 S, i_49_4 S, i_49_5 S, i_49_6 S, i_49_7 S, i_49_8 S, r_49_9 S, r_49_10 S, r_49_11 S, r_49_12 S, r_49_13 S, r_49_14 S, r_49_15 S, r_49_16 S, i_49_17 S, i_49_18 S, r_49_19 S, r_49_20 S, r_49_21 S, r_49_22 S, r_49_23 S, r_49_24 S, r_49_25 S, i_49_26 S, r_49_27 S, r_49_28 S, r_49_29 S, r_49_30 S, i_49_31 S, i_49_32 S, i_49_33 S, i_49_34 S, i_49_35 S, i_49_36 S, i_49_37 S, r_49_38 S, i_49_39 S, i_49_40 S, r_49_41 S, r_49_42 S, r_49_43 S, i_49_44 S, r_49_45 S, i_49_46 S, i_49_47 S, i_49_48 S, l_53_0 S, l_53_1 S, fm_sz MF, fm_ak MF, fm_fa MF, fm_te MF, fm_pr MF, fm_sy MF, l_55 S, g_65 S, l_66_0 S, l_66_1 S, l_66_2 S, o_l24 U, o_l25 U, o_l26 U, o_l27 U, rr_hg MA, rr_yr MA, rr_tn MA, rr_bu MA, m_pA U MA h40, m_pB U MA h40, m_pH U MA h40, m_pF U MA h40, m_pY U MA h40, m_faceOf S MF h8, m_looksOf S MF WF, m_alike S MF, m_has, ix0, ix8, ix16, o_l U, rr_mo MA, rr_tk MA, rr_sa MA, nn_le, nn_succ, bI_0, Int32.or_zero, Int32.add_zero, Int32.le_refl, f_X12_hold_b37, q0, eq_true c0]
      · simp (disch := omega) only [bd_eq, pu_ap, if_true, if_false, not_true_eq_false, not_false_eq_true, eq_self, v_49 S, i_49_0 S, i_49_1 S, i_49_2 S, i_49_3 S, i_49_4 S, i_49_5 S, i_49_6 S, i_49_7 S, i_49_8 S, r_49_9 S, r_49_10 S, r_49_11 S, r_49_12 S, r_49_13 S, r_49_14 S, r_49_15 S, r_49_16 S, i_49_17 S, i_49_18 S, r_49_19 S, r_49_20 S, r_49_21 S, r_49_22 S, r_49_23 S, r_49_24 S, r_49_25 S, i_49_26 S, r_49_27 S, r_49_28 S, r_49_29 S, r_49_30 S, i_49_31 S, i_49_32 S, i_49_33 S, i_49_34 S, i_49_35 S, i_49_36 S, i_49_37 S, r_49_38 S, i_49_39 S, i_49_40 S, r_49_41 S, r_49_42 S, r_49_43 S, i_49_44 S, r_49_45 S, i_49_46 S, i_49_47 S, i_49_48 S, l_53_0 S, l_53_1 S, fm_sz MF, fm_ak MF, fm_fa MF, fm_te MF, fm_pr MF, fm_sy MF, l_55 S, g_65 S, l_66_0 S, l_66_1 S, l_66_2 S, o_l24 U, o_l25 U, o_l26 U, o_l27 U, rr_hg MA, rr_yr MA, rr_tn MA, rr_bu MA, m_pA U MA h40, m_pB U MA h40, m_pH U MA h40, m_pF U MA h40, m_pY U MA h40, m_faceOf S MF h8, m_looksOf S MF WF, m_alike S MF, m_has, ix0, ix8, ix16, o_l U, rr_mo MA, rr_tk MA, rr_sa MA, nn_le, nn_succ, bI_0, Int32.or_zero, Int32.add_zero, Int32.le_refl, f_X12_hold_b37, q0, eq_false c0]
end HOLD
