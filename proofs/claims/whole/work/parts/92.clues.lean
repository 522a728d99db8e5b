/-! PURE PART: a face nobody took, whom to hold it against; faces a person's plates show -/
theorem lg_0 (x y : Int64) : (lg_cmp x y = 0) = (x = y) := by
  unfold lg_cmp
  by_cases h : x > y
  · rw [if_pos h]
    simp
    intro e
    subst e
    exact Int64.lt_irrefl h
  · rw [if_neg h]
    by_cases e : x = y
    · rw [if_pos e]
      simp [e]
    · rw [if_neg e]
      simp [e]
abbrev agrP (F : Fo) (W : Wo) (f : Nat) : Prop := ∀ k, k < W.1 → 6 - bc32 (nn (fa F (W.2.1 k)) ^^^ nn f) = nn (W.2.2 k)
def pcN (z : Nat) : Nat := (bc32 (nn z)).toNatClampNeg
theorem pc_s : ∀ z, z < 64 → bc32 (nn z) = nn (pcN z) ∧ pcN z ≤ 6 := by decide +kernel
theorem and_6 : ∀ s, s < 64 → ∀ f, f < 64 → nn (63 - s) &&& (nn f ^^^ (-1)) = nn (63 - (s ||| f)) ∧ s ||| f < 64 := by decide +kernel
theorem nn_and (a b : Nat) : nn a &&& nn b = nn (a &&& b) := by
  refine Int32.toBitVec_inj.1 ?_
  show (Int32.ofNat a &&& Int32.ofNat b).toBitVec = (Int32.ofNat (a &&& b)).toBitVec
  rw [Int32.toBitVec_and, Int32.toBitVec_ofNat', Int32.toBitVec_ofNat', Int32.toBitVec_ofNat', BitVec.ofNat_and]
abbrev U4 : Type := Nat × Int32 × Int32 × Nat
def uS (F : Fo) (W : Wo) (i : Nat) (z : U4) : U4 := if agrP F W i then (z.1 + 1, (if z.1 = 0 then nn i else z.2.1), z.2.2.1 &&& nn i, z.2.2.2 ||| i) else z
def uZ (F : Fo) (W : Wo) (i : Nat) : U4 := lp (uS F W) i 0 (0, -1, 63, 0)
theorem uZ_s (F : Fo) (W : Wo) (i : Nat) : uZ F W (i + 1) = uS F W i (uZ F W i) := by
  unfold uZ
  rw [lp_end, Nat.zero_add]
theorem uZ_1 (F : Fo) (W : Wo) : ∀ i, (uZ F W i).1 = cnt (agrP F W) i
  | 0 => rfl
  | i + 1 => by
    rw [uZ_s]
    unfold uS
    show _ = cnt (agrP F W) i + (if agrP F W i then 1 else 0)
    by_cases h : agrP F W i
    · rw [if_pos h, if_pos h, ← uZ_1 F W i]
    · rw [if_neg h, if_neg h, ← uZ_1 F W i]
      rfl
theorem uZ_4 (F : Fo) (W : Wo) : ∀ i, i ≤ 64 → (uZ F W i).2.2.2 < 64
  | 0, _ => (by decide : (0 : Nat) < 64)
  | i + 1, h => by
    rw [uZ_s]
    unfold uS
    have ih := uZ_4 F W i (by omega)
    split
    · exact (and_6 _ ih i (by omega)).2
    · exact ih
theorem uZ_2 (F : Fo) (W : Wo) {i : Nat} (hg : agrP F W i) (hb : ∀ j, j < i → ¬ agrP F W j) : ∀ n, i < n → (uZ F W n).2.1 = nn i
  | 0, h => absurd h (Nat.not_lt_zero _)
  | n + 1, h => by
    rw [uZ_s]
    unfold uS
    by_cases e : n = i
    · subst e
      have c0 : (uZ F W n).1 = 0 := by
        rw [uZ_1]
        have : ∀ m, m ≤ n → cnt (agrP F W) m = 0 := by
          intro m
          induction m with
          | zero => exact fun _ => rfl
          | succ m ih =>
            intro hm
            show cnt (agrP F W) m + (if agrP F W m then 1 else 0) = 0
            rw [ih (by omega), if_neg (hb m (by omega))]
        exact this n (Nat.le_refl _)
      rw [if_pos hg]
      show (if (uZ F W n).1 = 0 then nn n else _) = _
      rw [if_pos c0]
    · have ih := uZ_2 F W hg hb n (by omega)
      have c1 : (uZ F W n).1 ≠ 0 := by
        rw [uZ_1]
        have := cnt_lt (f := fun _ => False) (g := agrP F W) (k := i) (fun _ q => absurd q id) id hg n (by omega)
        omega
      by_cases q : agrP F W n
      · rw [if_pos q]
        show (if (uZ F W n).1 = 0 then nn n else _) = _
        rw [if_neg c1]
        exact ih
      · rw [if_neg q]
        exact ih
theorem cnt_0 {f : Nat → Prop} [DecidablePred f] {n : Nat} (h : ∀ i, i < n → ¬ f i) : cnt f n = 0 := by
  induction n with
  | zero => rfl
  | succ n ih =>
    show cnt f n + (if f n then 1 else 0) = 0
    rw [ih fun i hi => h i (by omega), if_neg (h n (by omega))]
theorem uZ_n (F : Fo) (W : Wo) {n : Nat} (hb : ∀ j, j < n → ¬ agrP F W j) : uZ F W n = (0, -1, 63, 0) := by
  induction n with
  | zero => rfl
  | succ n ih =>
    rw [uZ_s, ih fun j hj => hb j (by omega)]
    unfold uS
    rw [if_neg (hb n (by omega))]
section CLUES
variable {w : Wd} {I I' : Is} {J J' : Js} {F : Fo} {A : At} {W0 : Wo} {D : Dt}
theorem m_isSaid (S : Sw w) (MF : FoM I F) (WF : FoW F) (MW : WoM I W0) (WW : WoW F W0) {f : Nat} (hf : f < 64) : f_X12_isSaid 49 (nn f) (st w I J) = some (.inl (bI (agrP F W0 f)), st w I J) := by
  have h8 := WF.1
  have hl := WW.1
  unfold f_X12_isSaid
  refine loopQ (fun N i (_ : Unit) => f_X12_isSaid_b2 N 49 (nn f) (nn i) (st w I J)) W0.1 (fun i _ => ∀ k, k < i → 6 - bc32 (nn (fa F (W0.2.1 k)) ^^^ nn f) = nn (W0.2.2 k)) (fun z => z = some (.inl (bI (agrP F W0 f)), st w I J)) ?_ ?_ W0.1 0 () NF (by omega) (NF_gt (by omega)) (fun k hk => by omega)
  · intro N i _ hi hP
    have hq : ¬ nn W0.1 ≤ nn i := by rw [nn_le (by omega) (by omega)]; omega
    obtain ⟨p1, p2⟩ := WW.2.1 i hi
    have i31 := i_49_31 (I := I) (J := J) S
    rw [MW.1] at i31
    have g1 := g_396 (I := I) (J := J) (k := i) S (by omega)
    have l0 := l_397_0 (I := I) (J := J) (p := i) S (by omega)
    rw [(MW.2 i hi).1] at l0
    have l1 := l_397_1 (I := I) (J := J) (p := i) S (by omega)
    rw [(MW.2 i hi).2] at l1
    have fo := (v_49 S (F := f_X12_faceOf 49 (nn (W0.2.1 i)))).trans (m_faceOf (J := J) S MF h8 p1)
    have on := m_onesy hf (WF.2.2 _ p1).1 (σ := st w I J)
    have e : f_X12_isSaid_b2 (N + 1) 49 (nn f) (nn i) (st w I J) = (if ((6 : Int32) - bc32 (nn (fa F (W0.2.1 i)) ^^^ nn f) = nn (W0.2.2 i) : Prop) then ((f_X12_isSaid_b2 N) 49 (nn f) (nn i + 1)) else pu 0) (st w I J) := by
      rw [f_X12_isSaid_b2, bd_st i31, if_neg hq, bd_st (r_49_21 S), bd_st g1, bd_st l0, bd_st fo, bd_st on, bd_st (r_49_21 S), bd_st g1, bd_st l1]
    by_cases hc : (6 : Int32) - bc32 (nn (fa F (W0.2.1 i)) ^^^ nn f) = nn (W0.2.2 i)
    · left
      refine ⟨(), ?_, fun k hk => ?_⟩
      · show f_X12_isSaid_b2 (N + 1) 49 (nn f) (nn i) (st w I J) = _
        rw [e, if_pos hc, nn_succ]
      · by_cases q : k = i
        · rw [q]; exact hc
        · exact hP k (by omega)
    · right
      show f_X12_isSaid_b2 (N + 1) 49 (nn f) (nn i) (st w I J) = _
      rw [e, if_neg hc, bI_f (c := agrP F W0 f) (fun q => hc (q i hi))]
      rfl
  · intro N _ hP
    have i31 := i_49_31 (I := I) (J := J) S
    rw [MW.1] at i31
    show f_X12_isSaid_b2 (N + 1) 49 (nn f) (nn W0.1) (st w I J) = _
    rw [f_X12_isSaid_b2, bd_st i31, if_pos (Int32.le_refl _), bI_t (c := agrP F W0 f) hP]
    rfl
theorem c_fits (S : Sw w) (HW : WoC I J F W0) {f : Nat} (hf : f < 64) : f_X1_fits 24 (nn f) (st w I J) = some (.inl (bI (agrP F W0 f)), st w I J) := by
  have hj := HW.2.2 f hf
  unfold f_X1_fits
  rw [bd_st (j_24_5 S)]
  by_cases h : agrP F W0 f
  · rw [if_pos (by rw [lg_0]; exact hj.2 h), bI_t h]; rfl
  · rw [if_neg (by rw [lg_0]; exact fun q => h (hj.1 q)), bI_f h]; rfl
theorem le64 {i : Nat} (h : i < 64) : ¬ (64 : Int32) ≤ nn i := by rw [show (64 : Int32) = nn 64 from rfl, nn_le (by omega) (by omega)]; omega
theorem m_unk (S : Sw w) (MF : FoM I F) (WF : FoW F) (MW : WoM I W0) (WW : WoW F W0) {k : Nat} (hk : k < 4) : f_X12_unknown_b44 NF 49 (nn k) 0 (-1) 63 0 0 (st w I J) = some (.inl (if k = 0 then nn (uZ F W0 64).1 else if k = 1 then (uZ F W0 64).2.1 else if (uZ F W0 64).1 = 0 then 0 else if k = 2 then (uZ F W0 64).2.2.1 else nn (63 - (uZ F W0 64).2.2.2)), st w I J) := by
  have q0 : (nn k = (0 : Int32)) = (k = 0) := nn_eq (b := 0) (by omega) (by omega)
  have q2 : (nn k = (2 : Int32)) = (k = 2) := nn_eq (b := 2) (by omega) (by omega)
  have q3 : ((2 : Int32) ≤ nn k) = (2 ≤ k) := nn_le (a := 2) (by omega) (by omega)
  refine loopQ (fun N i (z : U4) => f_X12_unknown_b44 N 49 (nn k) (nn z.1) z.2.1 z.2.2.1 (nn z.2.2.2) (nn i) (st w I J)) 64 (fun i z => z = uZ F W0 i) (fun z => z = some (.inl (if k = 0 then nn (uZ F W0 64).1 else if k = 1 then (uZ F W0 64).2.1 else if (uZ F W0 64).1 = 0 then 0 else if k = 2 then (uZ F W0 64).2.2.1 else nn (63 - (uZ F W0 64).2.2.2)), st w I J)) ?_ ?_ 64 0 (0, -1, 63, 0) NF (by omega) (NF_gt (by omega)) rfl
  · intro N i z hi hz
    left
    have e2 := (v_49 S (F := f_X12_isSaid 49 (nn i))).trans (m_isSaid (J := J) S MF WF MW WW hi)
    have hc := cnt_le (agrP F W0) i
    rw [← uZ_1, ← hz] at hc
    have qz : (nn z.1 = (0 : Int32)) = (z.1 = 0) := nn_eq (b := 0) (by omega) (by omega)
    refine ⟨uS F W0 i z, ?_, by rw [hz, uZ_s]⟩
    show f_X12_unknown_b44 (N + 1) 49 (nn k) (nn z.1) z.2.1 z.2.2.1 (nn z.2.2.2) (nn i) (st w I J) = _
    rw [f_X12_unknown_b44, if_neg (le64 hi), bd_st e2]
    unfold uS
    by_cases h : agrP F W0 i
    · rw [bI_t h, if_neg (by decide), if_pos h]
      by_cases hz0 : z.1 = 0
      · rw [if_pos (by rw [qz]; exact hz0), f_X12_unknown_b73, f_X12_unknown_b91, if_pos hz0, nn_succ, nn_or, nn_succ]
      · rw [if_neg (by rw [qz]; exact hz0), f_X12_unknown_b73, f_X12_unknown_b91, if_neg hz0, nn_succ, nn_or, nn_succ]
    · rw [bI_f h, if_pos rfl, if_neg h, f_X12_unknown_b91, nn_succ]
  · intro N z hz
    have hc := cnt_le (agrP F W0) 64
    rw [← uZ_1, ← hz] at hc
    have h4 := uZ_4 F W0 64 (by omega)
    rw [← hz] at h4 ⊢
    have qz : (nn z.1 = (0 : Int32)) = (z.1 = 0) := nn_eq (b := 0) (by omega) (by omega)
    show f_X12_unknown_b44 (N + 1) 49 (nn k) (nn z.1) z.2.1 z.2.2.1 (nn z.2.2.2) (nn 64) (st w I J) = _
    rw [f_X12_unknown_b44, if_pos (show (64 : Int32) ≤ nn 64 by decide)]
    by_cases k0 : k = 0
    · rw [if_neg (by rw [q3]; omega), if_pos (by rw [q0]; exact k0), if_pos k0]; rfl
    · by_cases k1 : k = 1
      · rw [if_neg (by rw [q3]; omega), if_neg (by rw [q0]; exact k0), if_neg k0, if_pos k1]; rfl
      · rw [if_pos (by rw [q3]; omega), if_neg k0, if_neg k1]
        by_cases hz0 : z.1 = 0
        · rw [if_pos (by rw [qz]; exact hz0), if_pos hz0]; rfl
        · rw [if_neg (by rw [qz]; exact hz0), if_neg hz0]
          by_cases k2 : k = 2
          · rw [if_pos (by rw [q2]; exact k2), if_pos k2]; rfl
          · rw [if_neg (by rw [q2]; exact k2), if_neg k2, show (63 : Int32) = nn 63 from rfl, nn_sub (by omega)]; rfl
theorem c_least (S : Sw w) (HW : WoC I J F W0) : f_X1_leastFace 24 (st w I J) = some (.inl (uZ F W0 64).2.1, st w I J) := by
  unfold f_X1_leastFace
  refine loopQ (fun N i (_ : Unit) => f_X1_leastFace_b2 N 24 (nn i) (st w I J)) 64 (fun i _ => ∀ j, j < i → ¬ agrP F W0 j) (fun z => z = some (.inl (uZ F W0 64).2.1, st w I J)) ?_ ?_ 64 0 () NF (by omega) (NF_gt (by omega)) (fun j hj => by omega)
  · intro N i _ hi hP
    have e2 := (v_24 S (F := f_X1_fits 24 (nn i))).trans (c_fits (J := J) S HW hi)
    by_cases h : agrP F W0 i
    · right
      show f_X1_leastFace_b2 (N + 1) 24 (nn i) (st w I J) = _
      rw [f_X1_leastFace_b2, if_neg (le64 hi), bd_st e2, bI_t h, if_neg (by decide), uZ_2 F W0 h hP 64 hi]
      rfl
    · left
      refine ⟨(), ?_, fun j hj => ?_⟩
      · show f_X1_leastFace_b2 (N + 1) 24 (nn i) (st w I J) = _
        rw [f_X1_leastFace_b2, if_neg (le64 hi), bd_st e2, bI_f h, if_pos rfl, nn_succ]
      · by_cases q : j = i
        · rw [q]; exact h
        · exact hP j (by omega)
  · intro N _ hP
    show f_X1_leastFace_b2 (N + 1) 24 (nn 64) (st w I J) = _
    rw [f_X1_leastFace_b2, if_pos (show (64 : Int32) ≤ nn 64 by decide), uZ_n F W0 hP]
    rfl
theorem c_sure (S : Sw w) (HW : WoC I J F W0) {k : Nat} (hk : k < 2) : f_X1_sureMarks 24 (nn k) (st w I J) = some (.inl (if (uZ F W0 64).1 = 0 then 0 else if k = 0 then (uZ F W0 64).2.2.1 else nn (63 - (uZ F W0 64).2.2.2)), st w I J) := by
  have q0 : (nn k = (0 : Int32)) = (k = 0) := nn_eq (b := 0) (by omega) (by omega)
  have step : ∀ N i (x : Int32), i < 64 → f_X1_sureMarks_b18 (N + 1) 24 (nn k) x (nn i) (st w I J) = f_X1_sureMarks_b18 N 24 (nn k) (if agrP F W0 i then (if k = 0 then x &&& nn i else x &&& (nn i ^^^ (-1))) else x) (nn (i + 1)) (st w I J) := by
    intro N i x hi
    have e2 := (v_24 S (F := f_X1_fits 24 (nn i))).trans (c_fits (J := J) S HW hi)
    rw [f_X1_sureMarks_b18, if_neg (le64 hi), bd_st e2]
    by_cases h : agrP F W0 i
    · rw [bI_t h, if_neg (by decide), if_pos h]
      by_cases k0 : k = 0
      · rw [if_pos (by rw [q0]; exact k0), f_X1_sureMarks_b44, f_X1_sureMarks_b46, if_pos k0, nn_succ]
      · rw [if_neg (by rw [q0]; exact k0), f_X1_sureMarks_b44, f_X1_sureMarks_b46, if_neg k0, nn_succ]
    · rw [bI_f h, if_pos rfl, if_neg h, f_X1_sureMarks_b46, nn_succ]
  have fin : ∀ N x, f_X1_sureMarks_b18 (N + 1) 24 (nn k) x (nn 64) (st w I J) = some (.inl x, st w I J) := by
    intro N x
    rw [f_X1_sureMarks_b18, if_pos (show (64 : Int32) ≤ nn 64 by decide)]
    rfl
  unfold f_X1_sureMarks
  rw [bd_st (j_24_5 S)]
  by_cases hz : J 24 5 = 0
  · have hno : ∀ j, j < 64 → ¬ agrP F W0 j := fun j hj h => by
      have := (bit64 hj).1 ((HW.2.2 j hj).2 h)
      rw [hz] at this
      simp at this
    rw [if_pos (by rw [lg_0]; exact hz), uZ_n F W0 hno, if_pos rfl, f_X1_sureMarks_b15]
    refine (loopP (fun N i (x : Int32) => f_X1_sureMarks_b18 N 24 (nn k) x (nn i) (st w I J)) 64 (fun _ x => x = 0) (fun _ x => x) (fun x => some (.inl x, st w I J)) (fun N i x hi hx => ⟨?_, hx⟩) (fun N x _ => fin N x) 64 0 0 NF (by omega) (NF_gt (by omega)) rfl).1.trans ?_
    · show f_X1_sureMarks_b18 (N + 1) 24 (nn k) x (nn i) (st w I J) = _
      rw [step N i x hi, if_neg (hno i hi)]
    · have : ∀ d i, lp (fun _ (x : Int32) => x) d i 0 = 0 := by
        intro d
        induction d with
        | zero => exact fun _ => rfl
        | succ d ih => exact fun i => ih (i + 1)
      rw [this]
  · have hyes : (uZ F W0 64).1 ≠ 0 := by
      intro h0
      apply hz
      rw [uZ_1] at h0
      refine Int64.toBitVec_inj.1 ?_
      refine BitVec.eq_of_getLsbD_eq fun j hj => ?_
      have nj : ¬ agrP F W0 j := fun h => by
        have := cnt_lt (f := fun _ => False) (g := agrP F W0) (k := j) (fun _ q => absurd q id) id h 64 hj
        omega
      have : ¬ (J 24 5).toBitVec.getLsbD j = true := fun q => nj ((HW.2.2 j hj).1 ((bit64 hj).2 q))
      rw [Bool.not_eq_true] at this
      rw [this]
      simp
    rw [if_neg (by rw [lg_0]; exact hz), if_neg hyes, f_X1_sureMarks_b15]
    refine loopQ (fun N i (x : Int32) => f_X1_sureMarks_b18 N 24 (nn k) x (nn i) (st w I J)) 64 (fun i x => x = if k = 0 then (uZ F W0 i).2.2.1 else nn (63 - (uZ F W0 i).2.2.2)) (fun z => z = some (.inl (if k = 0 then (uZ F W0 64).2.2.1 else nn (63 - (uZ F W0 64).2.2.2)), st w I J)) ?_ ?_ 64 0 63 NF (by omega) (NF_gt (by omega)) (by show (63 : Int32) = if k = 0 then 63 else nn (63 - 0); split <;> rfl)
    · intro N i x hi hx
      left
      refine ⟨_, step N i x hi, ?_⟩
      rw [uZ_s]
      unfold uS
      by_cases h : agrP F W0 i
      · rw [if_pos h, if_pos h, hx]
        by_cases k0 : k = 0
        · rw [if_pos k0, if_pos k0, if_pos k0]
        · rw [if_neg k0, if_neg k0, if_neg k0]
          exact (and_6 _ (uZ_4 F W0 i (by omega)) i hi).1
      · rw [if_neg h, if_neg h]
        exact hx
    · intro N x hx
      show f_X1_sureMarks_b18 (N + 1) 24 (nn k) x (nn 64) (st w I J) = _
      rw [fin, hx]
theorem c_bits (HW : WoC I J F W0) : bc64 (J 24 5) = nn (uZ F W0 64).1 := by
  rw [bc64_c, uZ_1]
  congr 1
  exact cnt_cg 64 fun i hi => ((bit64 hi).symm.trans (HW.2.2 i hi))
theorem g_unknown (S : Sw w) (hr : Rm w) (HC : RC w I J D) (HM : RM I D) (W : WD D) (x1 : Int32) : Call w I J 1 (f_X11_unknown 0 x1) (f_X12_unknown 49 x1) := by
  have hz : ¬ (1 : Int32) = 0 := by decide
  have S' := tw_Sw S 14
  by_cases h1 : inP 4 x1
  rotate_left
  · refine Or.inr (Or.inr ⟨?_, fun J' => ⟨0, ?_⟩⟩)
    · simp (disch := omega) only [bd_eq, pu_ap, if_true, if_false, not_true_eq_false, not_false_eq_true, eq_self, v_0 S, r_0_0 S, r_0_1 S, r_0_2 S, r_0_3 S, r_0_4 S, r_0_5 S, r_0_6 S, r_0_7 S, r_0_8 S, r_0_9 S, r_0_10 S, r_0_11 S, r_0_12 S, n_0_13 S, i_0_14 S, i_0_15 S, i_0_16 S, i_0_17 S, v_1 S, r_1_0 S, i_1_1 S, i_1_2 S, i_1_3 S, i_1_4 S, i_1_5 S, i_1_6 S, v_3 S, r_3_0 S, r_3_1 S, r_3_2 S, r_3_3 S, i_3_4 S, i_3_5 S, v_8 S, r_8_0 S, r_8_1 S, r_8_2 S, r_8_3 S, i_8_4 S, i_8_5 S, v_13 S, r_13_0 S, r_13_1 S, i_13_2 S, v_16 S, r_16_0 S, r_16_1 S, i_16_2 S, v_19 S, r_19_0 S, r_19_1 S, r_19_2 S, r_19_3 S, i_19_4 S, i_19_5 S, i_19_6 S, i_19_7 S, v_24 S, r_24_0 S, r_24_1 S, r_24_2 S, r_24_3 S, i_24_4 S, j_24_5 S, v_28 S, r_28_0 S, r_28_1 S, r_28_2 S, v_30 S, r_30_0 S, r_30_1 S, r_30_2 S, r_30_3 S, i_30_4 S, i_30_5 S, v_33 S, r_33_0 S, r_33_1 S, r_33_2 S, r_33_3 S, i_33_4 S, i_33_5 S, v_37 S, r_37_0 S, r_37_1 S, i_37_2 S, i_37_3 S, i_37_4 S, f_X11_unknown, cr_no S hr (b := 3) (m := 4) rfl (by decide) h1]
    · rw [f_X12_unknown, bd_st (w_49_0 S'), bd_st (mb_no (b := 3) (m := 4) rfl (by decide) h1), if_pos rfl, f_X12_unknown_b20, bd_st ((v_49 S').trans (bad14 S HM W J')), if_neg hz]
      rfl
  obtain ⟨k, hk, rfl⟩ := h1
  refine Or.inl (Bod.call HC HM W ?_)
  clear HM HC
  intro I I' J J' HC HM
  have HMx := HM.t0 (v := 0) W
  have HW := HC.1.2.2.2.1
  have e2 := m_unk (J := J') S HMx.1.1 W.1 HMx.1.2.2.2.1 W.2.2.2.2.1 hk
  have t0 : up2 I' 49 0 0 49 0 = 0 := up2_s
  refine QQ.mk (if k = 0 then nn (uZ (dF D) (dW D) 64).1 else if k = 1 then (uZ (dF D) (dW D) 64).2.1 else if (uZ (dF D) (dW D) 64).1 = 0 then 0 else if k = 2 then (uZ (dF D) (dW D) 64).2.2.1 else nn (63 - (uZ (dF D) (dW D) 64).2.2.2)) ?_ ?_
  rotate_left
  · rw [f_X12_unknown, bd_st (w_49_0 S), bd_st (mb_ok (b := 3) (m := 4) rfl (by decide) hk), if_neg hz, f_X12_unknown_b20, bd_st ((v_49 S).trans (mb_0 S _ _ t0)), if_pos rfl]
    exact e2
  have s0 := c_sure (J := J) S HW (k := 0) (by decide)
  have s1 := c_sure (J := J) S HW (k := 1) (by decide)
  have s0' : f_X1_sureMarks 24 0 (st w I J) = _ := s0
  have s1' : f_X1_sureMarks 24 1 (st w I J) = _ := s1
  rw [if_pos rfl] at s0'
  rw [if_neg (show ¬ (1 : Nat) = 0 by decide)] at s1'
  rcases (show k = 0 ∨ k = 1 ∨ k = 2 ∨ k = 3 by omega) with h | h | h | h <;> subst h
  · rw [if_pos rfl]
    simp (disch := omega) only [bd_eq, pu_ap, if_true, if_false, not_true_eq_false, not_false_eq_true, eq_self, v_0 S, r_0_0 S, r_0_1 S, r_0_2 S, r_0_3 S, r_0_4 S, r_0_5 S, r_0_6 S, r_0_7 S, r_0_8 S, r_0_9 S, r_0_10 S, r_0_11 S, r_0_12 S, n_0_13 S, i_0_14 S, i_0_15 S, i_0_16 S, i_0_17 S, v_1 S, r_1_0 S, i_1_1 S, i_1_2 S, i_1_3 S, i_1_4 S, i_1_5 S, i_1_6 S, v_3 S, r_3_0 S, r_3_1 S, r_3_2 S, r_3_3 S, i_3_4 S, i_3_5 S, v_8 S, r_8_0 S, r_8_1 S, r_8_2 S, r_8_3 S, i_8_4 S, i_8_5 S, v_13 S, r_13_0 S, r_13_1 S, i_13_2 S, v_16 S, r_16_0 S, r_16_1 S, i_16_2 S, v_19 S, r_19_0 S, r_19_1 S, r_19_2 S, r_19_3 S, i_19_4 S, i_19_5 S, i_19_6 S, i_19_7 S, v_24 S, r_24_0 S, r_24_1 S, r_24_2 S, r_24_3 S, i_24_4 S, j_24_5 S, v_28 S, r_28_0 S, r_28_1 S, r_28_2 S, v_30 S, r_30_0 S, r_30_1 S, r_30_2 S, r_30_3 S, i_30_4 S, i_30_5 S, v_33 S, r_33_0 S, r_33_1 S, r_33_2 S, r_33_3 S, i_33_4 S, i_33_5 S, v_37 S, r_37_0 S, r_37_1 S, i_37_2 S, i_37_3 S, i_37_4 S, f_X11_unknown, cr_ok S (b := 3) (m := 4) rfl (by decide) hk, sw_at (x := nn 0) (lo := 0) 0 (by decide), List.getElem?_cons_succ, List.getElem?_cons_zero, List.getElem?_nil, Option.getD_some, Option.getD_none, j_24_5 S, c_bits HW]
  · rw [if_neg (by decide), if_pos rfl]
    simp (disch := omega) only [bd_eq, pu_ap, if_true, if_false, not_true_eq_false, not_false_eq_true, eq_self, v_0 S, r_0_0 S, r_0_1 S, r_0_2 S, r_0_3 S, r_0_4 S, r_0_5 S, r_0_6 S, r_0_7 S, r_0_8 S, r_0_9 S, r_0_10 S, r_0_11 S, r_0_12 S, n_0_13 S, i_0_14 S, i_0_15 S, i_0_16 S, i_0_17 S, v_1 S, r_1_0 S, i_1_1 S, i_1_2 S, i_1_3 S, i_1_4 S, i_1_5 S, i_1_6 S, v_3 S, r_3_0 S, r_3_1 S, r_3_2 S, r_3_3 S, i_3_4 S, i_3_5 S, v_8 S, r_8_0 S, r_8_1 S, r_8_2 S, r_8_3 S, i_8_4 S, i_8_5 S, v_13 S, r_13_0 S, r_13_1 S, i_13_2 S, v_16 S, r_16_0 S, r_16_1 S, i_16_2 S, v_19 S, r_19_0 S, r_19_1 S, r_19_2 S, r_19_3 S, i_19_4 S, i_19_5 S, i_19_6 S, i_19_7 S, v_24 S, r_24_0 S, r_24_1 S, r_24_2 S, r_24_3 S, i_24_4 S, j_24_5 S, v_28 S, r_28_0 S, r_28_1 S, r_28_2 S, v_30 S, r_30_0 S, r_30_1 S, r_30_2 S, r_30_3 S, i_30_4 S, i_30_5 S, v_33 S, r_33_0 S, r_33_1 S, r_33_2 S, r_33_3 S, i_33_4 S, i_33_5 S, v_37 S, r_37_0 S, r_37_1 S, i_37_2 S, i_37_3 S, i_37_4 S, f_X11_unknown, cr_ok S (b := 3) (m := 4) rfl (by decide) hk, sw_at (x := nn 1) (lo := 0) 1 (by decide), List.getElem?_cons_succ, List.getElem?_cons_zero, List.getElem?_nil, Option.getD_some, Option.getD_none, c_least S HW]
  · rw [if_neg (by decide), if_neg (by decide), if_pos (show 2 = 2 from rfl)]
    simp (disch := omega) only [bd_eq, pu_ap, if_true, if_false, not_true_eq_false, not_false_eq_true, eq_self, v_0 S, r_0_0 S, r_0_1 S, r_0_2 S, r_0_3 S, r_0_4 S, r_0_5 S, r_0_6 S, r_0_7 S, r_0_8 S, r_0_9 S, r_0_10 S, r_0_11 S, r_0_12 S, n_0_13 S, i_0_14 S, i_0_15 S, i_0_16 S, i_0_17 S, v_1 S, r_1_0 S, i_1_1 S, i_1_2 S, i_1_3 S, i_1_4 S, i_1_5 S, i_1_6 S, v_3 S, r_3_0 S, r_3_1 S, r_3_2 S, r_3_3 S, i_3_4 S, i_3_5 S, v_8 S, r_8_0 S, r_8_1 S, r_8_2 S, r_8_3 S, i_8_4 S, i_8_5 S, v_13 S, r_13_0 S, r_13_1 S, i_13_2 S, v_16 S, r_16_0 S, r_16_1 S, i_16_2 S, v_19 S, r_19_0 S, r_19_1 S, r_19_2 S, r_19_3 S, i_19_4 S, i_19_5 S, i_19_6 S, i_19_7 S, v_24 S, r_24_0 S, r_24_1 S, r_24_2 S, r_24_3 S, i_24_4 S, j_24_5 S, v_28 S, r_28_0 S, r_28_1 S, r_28_2 S, v_30 S, r_30_0 S, r_30_1 S, r_30_2 S, r_30_3 S, i_30_4 S, i_30_5 S, v_33 S, r_33_0 S, r_33_1 S, r_33_2 S, r_33_3 S, i_33_4 S, i_33_5 S, v_37 S, r_37_0 S, r_37_1 S, i_37_2 S, i_37_3 S, i_37_4 S, f_X11_unknown, cr_ok S (b := 3) (m := 4) rfl (by decide) hk, sw_at (x := nn 2) (lo := 0) 2 (by decide), List.getElem?_cons_succ, List.getElem?_cons_zero, List.getElem?_nil, Option.getD_some, Option.getD_none, s0']
  · rw [if_neg (by decide), if_neg (by decide), if_neg (show ¬ 3 = 2 by decide)]
    simp (disch := omega) only [bd_eq, pu_ap, if_true, if_false, not_true_eq_false, not_false_eq_true, eq_self, v_0 S, r_0_0 S, r_0_1 S, r_0_2 S, r_0_3 S, r_0_4 S, r_0_5 S, r_0_6 S, r_0_7 S, r_0_8 S, r_0_9 S, r_0_10 S, r_0_11 S, r_0_12 S, n_0_13 S, i_0_14 S, i_0_15 S, i_0_16 S, i_0_17 S, v_1 S, r_1_0 S, i_1_1 S, i_1_2 S, i_1_3 S, i_1_4 S, i_1_5 S, i_1_6 S, v_3 S, r_3_0 S, r_3_1 S, r_3_2 S, r_3_3 S, i_3_4 S, i_3_5 S, v_8 S, r_8_0 S, r_8_1 S, r_8_2 S, r_8_3 S, i_8_4 S, i_8_5 S, v_13 S, r_13_0 S, r_13_1 S, i_13_2 S, v_16 S, r_16_0 S, r_16_1 S, i_16_2 S, v_19 S, r_19_0 S, r_19_1 S, r_19_2 S, r_19_3 S, i_19_4 S, i_19_5 S, i_19_6 S, i_19_7 S, v_24 S, r_24_0 S, r_24_1 S, r_24_2 S, r_24_3 S, i_24_4 S, j_24_5 S, v_28 S, r_28_0 S, r_28_1 S, r_28_2 S, v_30 S, r_30_0 S, r_30_1 S, r_30_2 S, r_30_3 S, i_30_4 S, i_30_5 S, v_33 S, r_33_0 S, r_33_1 S, r_33_2 S, r_33_3 S, i_33_4 S, i_33_5 S, v_37 S, r_37_0 S, r_37_1 S, i_37_2 S, i_37_3 S, i_37_4 S, f_X11_unknown, cr_ok S (b := 3) (m := 4) rfl (by decide) hk, sw_at (x := nn 3) (lo := 0) 3 (by decide), List.getElem?_cons_succ, List.getElem?_cons_zero, List.getElem?_nil, Option.getD_some, Option.getD_none, s1']
end CLUES
