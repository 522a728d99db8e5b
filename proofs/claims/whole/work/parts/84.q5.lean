/-! PURE PART: bids, told, and switches, in both -/
theorem sw_lt {α : Type} {x : Int32} {lo : Int} {bs : List (Mo α)} {d : Mo α} (h : x.toInt < lo) : sw x lo bs d = d := if_pos h
section Q5
variable {w : Wd} {I I' : Is} {J J' : Js} {F : Fo} {A : At} {L : Lw} {D : Dt}
def fHas (v a b : Int32) : Int32 := if a < b then 0 else v - b
def sHas (v a b : Int32) : Int32 := if b ≤ a then 0 else v - a
theorem c_fh {v a b : Int32} {σ : PS} : f_X11_firstHas v a b σ = some (.inl (fHas v a b), σ) := by
  unfold f_X11_firstHas fHas
  by_cases h : a < b
  · rw [if_pos h, if_pos h]; rfl
  · rw [if_neg h, if_neg h]; rfl
theorem m_fh {v a b : Int32} {σ : PS} : f_X12_hasFirst a b v σ = some (.inl (fHas v a b), σ) := by
  unfold f_X12_hasFirst fHas
  by_cases h : a < b
  · rw [if_pos h, if_pos h]; rfl
  · rw [if_neg h, if_neg h]; rfl
theorem c_sh {v a b : Int32} {σ : PS} : f_X11_secondHas v a b σ = some (.inl (sHas v a b), σ) := by
  unfold f_X11_secondHas sHas
  by_cases h : b ≤ a
  · rw [if_pos h, if_pos h]; rfl
  · rw [if_neg h, if_neg h]; rfl
theorem m_sh {v a b : Int32} {σ : PS} : f_X12_hasSecond a b v σ = some (.inl (sHas v a b), σ) := by
  unfold f_X12_hasSecond sHas
  by_cases h : b ≤ a
  · rw [if_pos h, if_pos h]; rfl
  · rw [if_neg h, if_neg h]; rfl
abbrev rstP (k : Nat) (v u : Int32) (a b : Nat) : Prop := ∀ e, e < k + 1 → ¬ fHas v (nn a) (nn b) < fHas v (nn e) (nn b) ∧ sHas u (nn a) (nn e) ≤ sHas u (nn a) (nn b)
theorem c_rest {k : Nat} (hk : k < 10) (v u : Int32) (a b : Nat) {σ : PS} : f_X11_rest (nn k) v u (nn a) (nn b) σ = some (.inl (bI (rstP k v u a b)), σ) := by
  unfold f_X11_rest
  refine loopQ (fun N i (_ : Unit) => f_X11_rest_b3 N (nn k) v u (nn a) (nn b) (nn i) σ) (k + 1) (fun i _ => ∀ e, e < i → ¬ fHas v (nn a) (nn b) < fHas v (nn e) (nn b) ∧ sHas u (nn a) (nn e) ≤ sHas u (nn a) (nn b)) (fun z => z = some (.inl (bI (rstP k v u a b)), σ)) ?_ ?_ (k + 1) 0 () NF (by omega) (NF_gt (by omega)) (fun e he => by omega)
  · intro N i _ hi hP
    have hn : ¬ nn k < nn i := by rw [nn_lt (by omega) (by omega)]; omega
    by_cases h1 : fHas v (nn a) (nn b) < fHas v (nn i) (nn b)
    · right
      rw [bI_f (c := rstP k v u a b) (fun q => (q i hi).1 h1)]
      simp (disch := omega) only [bd_eq, pu_ap, if_true, if_false, not_true_eq_false, not_false_eq_true, eq_self, f_X11_rest_b3, hn, c_fh, c_sh, h1]
    · by_cases h2 : sHas u (nn a) (nn i) ≤ sHas u (nn a) (nn b)
      · left
        refine ⟨(), ?_, fun e he => ?_⟩
        · simp (disch := omega) only [bd_eq, pu_ap, if_true, if_false, not_true_eq_false, not_false_eq_true, eq_self, f_X11_rest_b3, hn, c_fh, c_sh, h1, h2, nn_succ]
        · by_cases q : e = i
          · rw [q]; exact ⟨h1, h2⟩
          · exact hP e (by omega)
      · right
        rw [bI_f (c := rstP k v u a b) (fun q => h2 (q i hi).2)]
        simp (disch := omega) only [bd_eq, pu_ap, if_true, if_false, not_true_eq_false, not_false_eq_true, eq_self, f_X11_rest_b3, hn, c_fh, c_sh, h1, h2]
  · intro N _ hP
    have hn : nn k < nn (k + 1) := by rw [nn_lt (by omega) (by omega)]; omega
    rw [bI_t (c := rstP k v u a b) hP]
    simp (disch := omega) only [bd_eq, pu_ap, if_true, if_false, not_true_eq_false, not_false_eq_true, eq_self, f_X11_rest_b3, hn]
theorem m_rest {k : Nat} (hk : k < 10) (v u : Int32) (a b : Nat) {σ : PS} : f_X12_isRest (nn a) (nn b) (nn k) v u σ = some (.inl (bI (rstP k v u a b)), σ) := by
  unfold f_X12_isRest
  refine loopQ (fun N i (_ : Unit) => f_X12_isRest_b3 N (nn a) (nn b) (nn k) v u (nn i) σ) (k + 1) (fun i _ => ∀ e, e < i → ¬ fHas v (nn a) (nn b) < fHas v (nn e) (nn b) ∧ sHas u (nn a) (nn e) ≤ sHas u (nn a) (nn b)) (fun z => z = some (.inl (bI (rstP k v u a b)), σ)) ?_ ?_ (k + 1) 0 () NF (by omega) (NF_gt (by omega)) (fun e he => by omega)
  · intro N i _ hi hP
    have hn : ¬ nn k < nn i := by rw [nn_lt (by omega) (by omega)]; omega
    by_cases h1 : fHas v (nn a) (nn b) < fHas v (nn i) (nn b)
    · right
      rw [bI_f (c := rstP k v u a b) (fun q => (q i hi).1 h1)]
      simp (disch := omega) only [bd_eq, pu_ap, if_true, if_false, not_true_eq_false, not_false_eq_true, eq_self, f_X12_isRest_b3, hn, m_fh, m_sh, h1]
    · by_cases h2 : sHas u (nn a) (nn i) ≤ sHas u (nn a) (nn b)
      · left
        refine ⟨(), ?_, fun e he => ?_⟩
        · simp (disch := omega) only [bd_eq, pu_ap, if_true, if_false, not_true_eq_false, not_false_eq_true, eq_self, f_X12_isRest_b3, hn, m_fh, m_sh, h1, h2, nn_succ]
        · by_cases q : e = i
          · rw [q]; exact ⟨h1, h2⟩
          · exact hP e (by omega)
      · right
        rw [bI_f (c := rstP k v u a b) (fun q => h2 (q i hi).2)]
        simp (disch := omega) only [bd_eq, pu_ap, if_true, if_false, not_true_eq_false, not_false_eq_true, eq_self, f_X12_isRest_b3, hn, m_fh, m_sh, h1, h2]
  · intro N _ hP
    have hn : nn k < nn (k + 1) := by rw [nn_lt (by omega) (by omega)]; omega
    rw [bI_t (c := rstP k v u a b) hP]
    simp (disch := omega) only [bd_eq, pu_ap, if_true, if_false, not_true_eq_false, not_false_eq_true, eq_self, f_X12_isRest_b3, hn]
/-- the highest bid against none: neither wants another -/
theorem rst_k {k : Nat} (hk : k < 10) (v u : Int32) : rstP k v u k 0 := by
  intro e he
  constructor
  · unfold fHas
    have h0 : ∀ e, e < 10 → ¬ nn e < nn 0 := by decide
    rw [if_neg (h0 k hk), if_neg (h0 e (by omega))]
    exact fun q => Int32.lt_irrefl q
  · unfold sHas
    have h1 : nn e ≤ nn k := by rw [nn_le (by omega) (by omega)]; omega
    have h2 : nn 0 ≤ nn k := by rw [nn_le (by omega) (by omega)]; omega
    rw [if_pos h1, if_pos h2]
    exact Int32.le_refl _
abbrev A3 : Type := Nat × Int32 × Int32 × Int32
/-- the inner loops in step: one row of bids -/
theorem bidsIn {k : Nat} (hk : k < 10) (v u x : Int32) (kc km : Int32 → Int32 → Int32 → Int32 → Int32 → Int32 → Int32 → Int32 → Mo Int32) {a : Nat} (ha : a < k + 1) (m : Nat) (f t s : Int32) (hm : m ≤ 10 * a) (ht : m ≠ 0 → t = s) {σ σ' : PS} : ∃ m' f' t' s', m' ≤ 10 * (a + 1) ∧ (m' ≠ 0 → t' = s') ∧ (a = k → m' ≠ 0) ∧ f_X11_bids_b49 kc NF (nn k) v u x (nn m) f t (nn a) 0 σ = kc (nn k) v u x (nn m') f' t' (nn (a + 1)) σ ∧ f_X12_bids_b82 km NF (nn k) v u x (nn m) f s (nn a) 0 σ' = km (nn k) v u x (nn m') f' s' (nn (a + 1)) σ' := by
  refine loop2 (fun N i (z : A3) => f_X11_bids_b49 kc N (nn k) v u x (nn z.1) z.2.1 z.2.2.1 (nn a) (nn i) σ) (fun N i (z : A3) => f_X12_bids_b82 km N (nn k) v u x (nn z.1) z.2.1 z.2.2.2 (nn a) (nn i) σ') (k + 1) (fun i z y => z = y ∧ z.1 ≤ 10 * a + i ∧ (z.1 ≠ 0 → z.2.2.1 = z.2.2.2) ∧ (a = k → 1 ≤ i → z.1 ≠ 0)) (fun r r' => ∃ m' f' t' s', m' ≤ 10 * (a + 1) ∧ (m' ≠ 0 → t' = s') ∧ (a = k → m' ≠ 0) ∧ r = kc (nn k) v u x (nn m') f' t' (nn (a + 1)) σ ∧ r' = km (nn k) v u x (nn m') f' s' (nn (a + 1)) σ') ?_ ?_ (k + 1) 0 (m, f, t, s) (m, f, t, s) NF (by omega) (NF_gt (by omega)) ⟨rfl, by omega, ht, fun _ h => by omega⟩
  · intro N i ⟨m, f, t, s⟩ y hi ⟨hy, h1, h2, h3⟩
    subst hy
    left
    have h1 : m ≤ 10 * a + i := h1
    have h2 : m ≠ 0 → t = s := h2
    have h3 : a = k → 1 ≤ i → m ≠ 0 := h3
    have hn : ¬ nn k < nn i := by rw [nn_lt (by omega) (by omega)]; omega
    have e1 := c_rest hk v u a i (σ := σ)
    have e2 := m_rest hk v u a i (σ := σ')
    have z1 : ((1 : Int32) = 0) = False := by decide
    have zm : (nn (m + 1) = (1 : Int32)) = (m = 0) := by
      rw [show (1 : Int32) = nn 1 from rfl, nn_eq (by omega) (by omega)]
      apply propext
      omega
    have zm' : (nn m = (0 : Int32)) = (m = 0) := nn_eq (b := 0) (by omega) (by omega)
    by_cases hr : rstP k v u a i
    · rw [bI_t hr] at e1 e2
      by_cases hm0 : m = 0
      · refine ⟨(m + 1, (10 : Int32) * nn a + nn i, fHas v (nn a) (nn i) + sHas u (nn a) (nn i), fHas v (nn a) (nn i) + sHas u (nn a) (nn i)), (m + 1, (10 : Int32) * nn a + nn i, fHas v (nn a) (nn i) + sHas u (nn a) (nn i), fHas v (nn a) (nn i) + sHas u (nn a) (nn i)), ?_, ?_, rfl, by show m + 1 ≤ _; omega, fun _ => rfl, fun _ _ => Nat.succ_ne_zero _⟩
        · simp (disch := omega) only [bd_eq, pu_ap, if_true, if_false, not_true_eq_false, not_false_eq_true, eq_self, f_X11_bids_b49, f_X11_bids_b106, hn, e1, z1, nn_succ, zm, eq_true hm0, c_fh, c_sh]
        · simp (disch := omega) only [bd_eq, pu_ap, if_true, if_false, not_true_eq_false, not_false_eq_true, eq_self, f_X12_bids_b82, f_X12_bids_b122, f_X12_bids_b151, f_X12_bids_b156, hn, e2, z1, nn_succ, zm', eq_true hm0, m_fh, m_sh]
      · refine ⟨(m + 1, f, t, s), (m + 1, f, t, s), ?_, ?_, rfl, by show m + 1 ≤ _; omega, fun _ => h2 hm0, fun _ _ => Nat.succ_ne_zero _⟩
        · simp (disch := omega) only [bd_eq, pu_ap, if_true, if_false, not_true_eq_false, not_false_eq_true, eq_self, f_X11_bids_b49, f_X11_bids_b106, hn, e1, z1, nn_succ, zm, eq_false hm0]
        · simp (disch := omega) only [bd_eq, pu_ap, if_true, if_false, not_true_eq_false, not_false_eq_true, eq_self, f_X12_bids_b82, f_X12_bids_b122, f_X12_bids_b151, f_X12_bids_b156, hn, e2, z1, nn_succ, zm', eq_false hm0]
    · rw [bI_f hr] at e1 e2
      refine ⟨(m, f, t, s), (m, f, t, s), ?_, ?_, rfl, by show m ≤ _; omega, h2, fun h4 _ => ?_⟩
      · simp (disch := omega) only [bd_eq, pu_ap, if_true, if_false, not_true_eq_false, not_false_eq_true, eq_self, f_X11_bids_b49, f_X11_bids_b106, hn, e1, nn_succ]
      · simp (disch := omega) only [bd_eq, pu_ap, if_true, if_false, not_true_eq_false, not_false_eq_true, eq_self, f_X12_bids_b82, f_X12_bids_b122, f_X12_bids_b151, f_X12_bids_b156, hn, e2, nn_succ]
      · rcases Nat.eq_zero_or_pos i with q | q
        · subst q
          subst h4
          exact absurd (rst_k hk v u) hr
        · exact h3 h4 q
  · intro N ⟨m, f, t, s⟩ y ⟨hy, h1, h2, h3⟩
    subst hy
    have hn : nn k < nn (k + 1) := by rw [nn_lt (by omega) (by omega)]; omega
    refine ⟨m, f, t, s, by have : m ≤ 10 * a + (k + 1) := h1; omega, h2, fun h4 => h3 h4 (by omega), ?_, ?_⟩
    · simp (disch := omega) only [bd_eq, pu_ap, if_true, if_false, not_true_eq_false, not_false_eq_true, eq_self, f_X11_bids_b49, hn, nn_succ]
    · simp (disch := omega) only [bd_eq, pu_ap, if_true, if_false, not_true_eq_false, not_false_eq_true, eq_self, f_X12_bids_b82, hn, nn_succ]
theorem b_bids {k q : Nat} (hk : k < 10) (v u : Int32) (hq : q < 3) : Bod w D (f_X11_bids_b40 NF (nn k) v u (nn q) 0 (-1) (-1) 0) (f_X12_bids_b73 NF (nn k) v u (nn q) 0 (-1) 0 0) := by
  intro I I' J J' HC HM H0
  have q0 : (nn q = (0 : Int32)) = (q = 0) := nn_eq (b := 0) (by omega) (by omega)
  have q1 : (nn q = (1 : Int32)) = (q = 1) := nn_eq (b := 1) (by omega) (by omega)
  refine loop2 (fun N i (z : A3) => f_X11_bids_b40 N (nn k) v u (nn q) (nn z.1) z.2.1 z.2.2.1 (nn i) (st w I J)) (fun N i (z : A3) => f_X12_bids_b73 N (nn k) v u (nn q) (nn z.1) z.2.1 z.2.2.2 (nn i) (st w I' J')) (k + 1) (fun i z y => z = y ∧ z.1 ≤ 10 * i ∧ (z.1 ≠ 0 → z.2.2.1 = z.2.2.2) ∧ (i = k + 1 → z.1 ≠ 0)) _ ?_ ?_ (k + 1) 0 (0, -1, -1, 0) (0, -1, -1, 0) NF (by omega) (NF_gt (by omega)) ⟨rfl, by decide, fun h => absurd rfl h, fun h => by omega⟩
  · intro N i ⟨m, f, t, s⟩ y hi ⟨hy, h1, h2, h3⟩
    subst hy
    left
    have hn : ¬ nn k < nn i := by rw [nn_lt (by omega) (by omega)]; omega
    obtain ⟨m', f', t', s', p1, p2, p3, e1, e2⟩ := bidsIn hk v u (nn q) (f_X11_bids_b40 N) (f_X12_bids_b73 N) hi m f t s h1 h2 (σ := st w I J) (σ' := st w I' J')
    refine ⟨(m', f', t', s'), (m', f', t', s'), ?_, ?_, rfl, p1, p2, fun h => p3 (by omega)⟩
    · simp (disch := omega) only [bd_eq, pu_ap, if_true, if_false, not_true_eq_false, not_false_eq_true, eq_self, f_X11_bids_b40, hn, e1]
    · simp (disch := omega) only [bd_eq, pu_ap, if_true, if_false, not_true_eq_false, not_false_eq_true, eq_self, f_X12_bids_b73, hn, e2]
  · intro N ⟨m, f, t, s⟩ y ⟨hy, h1, h2, h3⟩
    subst hy
    have hn : nn k < nn (k + 1) := by rw [nn_lt (by omega) (by omega)]; omega
    have hts : t = s := h2 (h3 rfl)
    refine QQ.mk (if q = 0 then nn m else if q = 1 then f else t) ?_ ?_
    · by_cases c0 : q = 0
      · simp (disch := omega) only [bd_eq, pu_ap, if_true, if_false, not_true_eq_false, not_false_eq_true, eq_self, f_X11_bids_b40, hn, q0, eq_true c0]
      · by_cases c1 : q = 1
        · simp (disch := omega) only [bd_eq, pu_ap, if_true, if_false, not_true_eq_false, not_false_eq_true, eq_self, f_X11_bids_b40, hn, q0, q1, eq_false c0, eq_true c1]
        · simp (disch := omega) only [bd_eq, pu_ap, if_true, if_false, not_true_eq_false, not_false_eq_true, eq_self, f_X11_bids_b40, hn, q0, q1, eq_false c0, eq_false c1]
    · subst hts
      by_cases c0 : q = 0
      · simp (disch := omega) only [bd_eq, pu_ap, if_true, if_false, not_true_eq_false, not_false_eq_true, eq_self, f_X12_bids_b73, hn, q0, eq_true c0]
      · by_cases c1 : q = 1
        · simp (disch := omega) only [bd_eq, pu_ap, if_true, if_false, not_true_eq_false, not_false_eq_true, eq_self, f_X12_bids_b73, hn, q0, q1, eq_false c0, eq_true c1]
        · simp (disch := omega) only [bd_eq, pu_ap, if_true, if_false, not_true_eq_false, not_false_eq_true, eq_self, f_X12_bids_b73, hn, q0, q1, eq_false c0, eq_false c1]
-- sums
theorem c_ever {e : Nat} (T : StS w e) (HA : StR I e A) : f_X5_everTaken e (st w I J) = some (.inl (nn (sm8 (tk A))), st w I J) := by
  unfold f_X5_everTaken
  have h := loopL (fun N i (y : Nat) => f_X5_everTaken_b4 N e (nn y) (nn i) (st w I J)) 8 (fun i y => y + tk A i) (fun y => some (.inl (nn y), st w I J)) (N := NF) (i := 0) (by
    intro N i y hi
    have hn : ¬ (8 : Int32) ≤ nn i := by rw [show (8 : Int32) = nn 8 from rfl, nn_le (by omega) (by omega)]; omega
    simp (disch := omega) only [bd_eq, pu_ap, if_true, if_false, not_true_eq_false, not_false_eq_true, eq_self, f_X5_everTaken_b4, hn, e_r1 T, e_l2 T, sr_tk HA, nn_add, nn_succ]) (by
    intro N y
    simp (disch := omega) only [bd_eq, pu_ap, if_true, if_false, not_true_eq_false, not_false_eq_true, eq_self, f_X5_everTaken_b4, show ((8 : Int32) ≤ nn 8) = True from by decide]) 0 (by decide) (NF_gt (by decide))
  refine h.trans ?_
  simp only [lp, sm8, Nat.zero_add]
def shyP (F : Fo) : Int32 := lp (fun i x => x + bc32 (nn (sy F i))) (sz F) 0 0
theorem c_shy (S : Sw w) (HF : FoC I F) (h8 : sz F ≤ 8) : f_X2_shyPairs 3 (st w I J) = some (.inl (shyP F), st w I J) := by
  unfold f_X2_shyPairs shyP
  refine loopL (fun N i y => f_X2_shyPairs_b4 N 3 y (nn i) (st w I J)) (sz F) (fun i x => x + bc32 (nn (sy F i))) (fun y => some (.inl y, st w I J)) ?_ ?_ 0 (Nat.zero_le _) (NF_gt (by omega))
  · intro N i y hi
    have hn : ¬ sz F ≤ i := by omega
    simp (disch := omega) only [bd_eq, pu_ap, if_true, if_false, not_true_eq_false, not_false_eq_true, eq_self, v_0 S, r_0_0 S, r_0_1 S, r_0_2 S, r_0_3 S, r_0_4 S, r_0_5 S, r_0_6 S, r_0_7 S, r_0_8 S, r_0_9 S, r_0_10 S, r_0_11 S, r_0_12 S, n_0_13 S, i_0_14 S, i_0_15 S, i_0_16 S, i_0_17 S, v_1 S, r_1_0 S, i_1_1 S, i_1_2 S, i_1_3 S, i_1_4 S, i_1_5 S, i_1_6 S, v_3 S, r_3_0 S, r_3_1 S, r_3_2 S, r_3_3 S, i_3_4 S, i_3_5 S, v_8 S, r_8_0 S, r_8_1 S, r_8_2 S, r_8_3 S, i_8_4 S, i_8_5 S, v_13 S, r_13_0 S, r_13_1 S, i_13_2 S, v_16 S, r_16_0 S, r_16_1 S, i_16_2 S, v_19 S, r_19_0 S, r_19_1 S, r_19_2 S, r_19_3 S, i_19_4 S, i_19_5 S, i_19_6 S, i_19_7 S, v_24 S, r_24_0 S, r_24_1 S, r_24_2 S, r_24_3 S, i_24_4 S, j_24_5 S, v_28 S, r_28_0 S, r_28_1 S, r_28_2 S, v_30 S, r_30_0 S, r_30_1 S, r_30_2 S, r_30_3 S, i_30_4 S, i_30_5 S, v_33 S, r_33_0 S, r_33_1 S, r_33_2 S, r_33_3 S, i_33_4 S, i_33_5 S, v_37 S, r_37_0 S, r_37_1 S, i_37_2 S, i_37_3 S, i_37_4 S, f_X2_shyPairs_b4, fc_sz HF, nn_le, hn, l_7 S, fc_sy HF, nn_succ]
  · intro N y
    simp (disch := omega) only [bd_eq, pu_ap, if_true, if_false, not_true_eq_false, not_false_eq_true, eq_self, v_0 S, r_0_0 S, r_0_1 S, r_0_2 S, r_0_3 S, r_0_4 S, r_0_5 S, r_0_6 S, r_0_7 S, r_0_8 S, r_0_9 S, r_0_10 S, r_0_11 S, r_0_12 S, n_0_13 S, i_0_14 S, i_0_15 S, i_0_16 S, i_0_17 S, v_1 S, r_1_0 S, i_1_1 S, i_1_2 S, i_1_3 S, i_1_4 S, i_1_5 S, i_1_6 S, v_3 S, r_3_0 S, r_3_1 S, r_3_2 S, r_3_3 S, i_3_4 S, i_3_5 S, v_8 S, r_8_0 S, r_8_1 S, r_8_2 S, r_8_3 S, i_8_4 S, i_8_5 S, v_13 S, r_13_0 S, r_13_1 S, i_13_2 S, v_16 S, r_16_0 S, r_16_1 S, i_16_2 S, v_19 S, r_19_0 S, r_19_1 S, r_19_2 S, r_19_3 S, i_19_4 S, i_19_5 S, i_19_6 S, i_19_7 S, v_24 S, r_24_0 S, r_24_1 S, r_24_2 S, r_24_3 S, i_24_4 S, j_24_5 S, v_28 S, r_28_0 S, r_28_1 S, r_28_2 S, v_30 S, r_30_0 S, r_30_1 S, r_30_2 S, r_30_3 S, i_30_4 S, i_30_5 S, v_33 S, r_33_0 S, r_33_1 S, r_33_2 S, r_33_3 S, i_33_4 S, i_33_5 S, v_37 S, r_37_0 S, r_37_1 S, i_37_2 S, i_37_3 S, i_37_4 S, f_X2_shyPairs_b4, fc_sz HF, Int32.le_refl]
theorem m_shy (S : Sw w) (MF : FoM I F) (WF : FoW F) : f_X12_told_b140 NF 49 0 0 (st w I J) = some (.inl (shyP F), st w I J) := by
  have h8 := WF.1
  unfold shyP
  refine loopL (fun N i y => f_X12_told_b140 N 49 y (nn i) (st w I J)) (sz F) (fun i x => x + bc32 (nn (sy F i))) (fun y => some (.inl y, st w I J)) ?_ ?_ 0 (Nat.zero_le _) (NF_gt (by omega))
  · intro N i y hi
    have hn : ¬ nn (sz F) ≤ nn i := by rw [nn_le (by omega) (by omega)]; omega
    have q0 := l_53_0 (I := I) (J := J) S
    rw [fm_sz MF] at q0
    have q1 := l_55 (I := I) (J := J) (k := i) S (by omega)
    rw [fm_sy MF hi] at q1
    show f_X12_told_b140 (N + 1) 49 y (nn i) (st w I J) = _
    rw [f_X12_told_b140, bd_st (r_49_12 S), bd_st q0, if_neg hn, bd_st (r_49_14 S), bd_st q1, bd_st (m_ones (WF.2.2 i hi).2.2.2), nn_succ]
  · intro N y
    simp (disch := omega) only [bd_eq, pu_ap, if_true, if_false, not_true_eq_false, not_false_eq_true, eq_self, v_49 S, i_49_0 S, i_49_1 S, i_49_2 S, i_49_3 S, i_49_4 S, i_49_5 S, i_49_6 S, i_49_7 S, i_49_8 S, r_49_9 S, r_49_10 S, r_49_11 S, r_49_12 S, r_49_13 S, r_49_14 S, r_49_15 S, r_49_16 S, i_49_17 S, i_49_18 S, r_49_19 S, r_49_20 S, r_49_21 S, r_49_22 S, r_49_23 S, r_49_24 S, r_49_25 S, i_49_26 S, r_49_27 S, r_49_28 S, r_49_29 S, r_49_30 S, i_49_31 S, i_49_32 S, i_49_33 S, i_49_34 S, i_49_35 S, i_49_36 S, i_49_37 S, r_49_38 S, i_49_39 S, i_49_40 S, r_49_41 S, r_49_42 S, r_49_43 S, i_49_44 S, r_49_45 S, i_49_46 S, i_49_47 S, i_49_48 S, l_53_0 S, l_53_1 S, f_X12_told_b140, fm_sz MF, Int32.le_refl]
theorem c_works (S : Sw w) {l : List At} (H : HiC w I (w.2.2.2 0 13) l) : f_X11_worksToUndo 0 (st w I J) = some (.inl (nn l.length), st w I J) := by
  unfold f_X11_worksToUndo
  rw [bd_st (n_0_13 S)]
  cases l with
  | nil =>
    rw [show w.2.2.2 0 13 = none from H]
    rfl
  | cons A l =>
    obtain ⟨a, e, h1, h2, h3, h4, h5, h6, h7, h8, h9, h10⟩ := H
    rw [h1]
    show bd (gN 11 13 0) _ (st w I J) = _
    rw [bd_st (n_0_13 S), h1]
    show bd (gI 3 2 a) _ (st w I J) = _
    rw [bd_st (show gI 3 2 a (st w I J) = some (.inl (I a 2), st w I J) from m_gI h3 h4 rfl), h9]
    rfl
end Q5
