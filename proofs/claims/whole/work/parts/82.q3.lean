/-! PURE PART: chain, share, busiest, lost, in both -/
theorem and1 (x : Int32) : x &&& 1 = 0 ∨ x &&& 1 = 1 := by
  obtain ⟨j, hj, e⟩ := pk_andE x (m := 1) 1 rfl
  rcases (show j = 0 ∨ j = 1 by omega) with h | h <;> subst h
  · exact Or.inl e
  · exact Or.inr e
theorem bit0 {x : Int32} {b : Nat} : ¬ bit x b ↔ ((x >>> (nn b &&& 31)) &&& 1) = 0 := by
  unfold bit
  rcases and1 (x >>> (nn b &&& 31)) with h | h <;> rw [h] <;> decide
theorem bit_get {x : Int32} {p : Nat} (hp : p < 32) : bit x p ↔ x.toBitVec.getLsbD p = true := by
  unfold bit
  have s : ((nn p &&& 31).toBitVec.smod 32).toNat = p := by
    have : ∀ p, p < 32 → ((nn p &&& 31).toBitVec.smod 32).toNat = p := by decide
    exact this p hp
  rw [← Int32.toBitVec_inj, Int32.toBitVec_and, Int32.toBitVec_shiftRight, BitVec.sshiftRight_eq', s, show (1 : Int32).toBitVec = 1#32 from rfl]
  constructor
  · intro h
    have h0 := congrArg (fun v => BitVec.getLsbD v 0) h
    simp only [BitVec.getLsbD_and, BitVec.getLsbD_sshiftRight] at h0
    rw [show (1#32).getLsbD 0 = true from rfl, Bool.and_true] at h0
    rw [if_pos (show p + 0 < 32 by omega)] at h0
    simpa using h0
  · intro h
    refine BitVec.eq_of_getLsbD_eq fun i hi => ?_
    rw [BitVec.getLsbD_and, BitVec.getLsbD_sshiftRight]
    rcases Nat.eq_zero_or_pos i with h0 | h0
    · subst h0
      rw [if_pos (show p + 0 < 32 by omega), Nat.add_zero, h]
      rfl
    · have : (1#32).getLsbD i = false := by
        rw [BitVec.getLsbD_one]
        simp
        omega
      rw [this, Bool.and_false]
theorem bit_or (x y : Int32) {b : Nat} (hb : b < 32) : bit (x ||| y) b ↔ bit x b ∨ bit y b := by
  rw [bit_get hb, bit_get hb, bit_get hb, Int32.toBitVec_or, BitVec.getLsbD_or, Bool.or_eq_true]
theorem shl1 : ∀ p, p < 8 → ((1 : Int32) <<< (nn p &&& 31)).toBitVec = 1#32 <<< p := by decide
theorem or_bit {r : Int32} {p : Nat} (hp : p < 8) (h : bit r p) : r ||| ((1 : Int32) <<< (nn p &&& 31)) = r := by
  rw [bit_get (by omega)] at h
  refine Int32.toBitVec_inj.1 ?_
  rw [Int32.toBitVec_or, shl1 p hp]
  refine BitVec.eq_of_getLsbD_eq fun i hi => ?_
  rw [BitVec.getLsbD_or, BitVec.getLsbD_shiftLeft]
  by_cases e : i = p
  · subst e
    rw [h, Bool.true_or]
  · have : (1#32).getLsbD (i - p) = (decide (i - p = 0)) := by
      rw [BitVec.getLsbD_one]
      simp
    rw [this]
    by_cases q : i < p
    · simp [q]
    · have : ¬ i - p = 0 := by omega
      simp [this]
theorem bit_1 : ∀ p, p < 8 → ∀ b, b < 8 → (bit ((1 : Int32) <<< (nn p &&& 31)) b ↔ p = b) := by decide +kernel
theorem bit_0 : ∀ b, b < 8 → ¬ bit 0 b := by decide +kernel
section Q3
variable {w : Wd} {I I' : Is} {J J' : Js} {F : Fo} {A : At} {L : Lw} {D : Dt}
-- chains
def nxF (n : Nat) (c : Nat → Int32) (r x : Int32) : Int32 := lp (fun p y => if (c p &&& r) = 0 then y else y ||| ((1 : Int32) <<< (nn p &&& 31))) n 0 x
theorem nxF_or (n : Nat) (c : Nat → Int32) (r x : Int32) : nxF n c r x = x ||| nxF n c r 0 := by
  unfold nxF
  induction n with
  | zero => show x = x ||| 0; rw [Int32.or_zero]
  | succ n ih =>
    rw [lp_end, lp_end, ih]
    by_cases h : (c (0 + n) &&& r) = 0
    · rw [if_pos h, if_pos h]
    · rw [if_neg h, if_neg h, Int32.or_assoc]
def chR (n : Nat) (c : Nat → Int32) (a : Nat) : Nat → Int32
  | 0 => (1 : Int32) <<< (nn a &&& 31)
  | k + 1 => chR n c a k ||| nxF n c (chR n c a k) 0
theorem bit_nx {n : Nat} {c : Nat → Int32} {r : Int32} (hn : n ≤ 8) {b : Nat} (hb : b < 8) : bit (nxF n c r 0) b ↔ b < n ∧ ¬ (c b &&& r) = 0 := by
  unfold nxF
  have key : ∀ m, m ≤ n → (bit (lp (fun p y => if (c p &&& r) = 0 then y else y ||| ((1 : Int32) <<< (nn p &&& 31))) m 0 0) b ↔ b < m ∧ ¬ (c b &&& r) = 0) := by
    intro m
    induction m with
    | zero =>
      intro _
      exact ⟨fun h => absurd h (bit_0 b hb), fun h => absurd h.1 (Nat.not_lt_zero _)⟩
    | succ m ih =>
      intro hm
      have ih := ih (by omega)
      rw [lp_end, Nat.zero_add]
      by_cases h : (c m &&& r) = 0
      · rw [if_pos h, ih]
        constructor
        · rintro ⟨h1, h2⟩
          exact ⟨by omega, h2⟩
        · rintro ⟨h1, h2⟩
          refine ⟨?_, h2⟩
          rcases Nat.lt_or_ge b m with q | q
          · exact q
          · have : b = m := by omega
            rw [this] at h2
            exact absurd h h2
      · rw [if_neg h, bit_or _ _ (by omega), ih, bit_1 m (by omega) b hb]
        constructor
        · rintro (⟨h1, h2⟩ | h1)
          · exact ⟨by omega, h2⟩
          · subst h1
            exact ⟨by omega, h⟩
        · rintro ⟨h1, h2⟩
          rcases Nat.lt_or_ge b m with q | q
          · exact Or.inl ⟨q, h2⟩
          · exact Or.inr (by omega)
  exact key n (Nat.le_refl _)
/-- how many of the first n -/
def cnt (f : Nat → Prop) [DecidablePred f] : Nat → Nat
  | 0 => 0
  | n + 1 => cnt f n + (if f n then 1 else 0)
theorem cnt_le (f : Nat → Prop) [DecidablePred f] : ∀ n, cnt f n ≤ n
  | 0 => Nat.le_refl _
  | n + 1 => by
    have := cnt_le f n
    unfold cnt
    split <;> omega
theorem cnt_mono {f g : Nat → Prop} [DecidablePred f] [DecidablePred g] (h : ∀ i, f i → g i) : ∀ n, cnt f n ≤ cnt g n
  | 0 => Nat.le_refl _
  | n + 1 => by
    have := cnt_mono h n
    unfold cnt
    by_cases h1 : f n
    · rw [if_pos h1, if_pos (h n h1)]
      omega
    · rw [if_neg h1]
      split <;> omega
theorem cnt_lt {f g : Nat → Prop} [DecidablePred f] [DecidablePred g] (h : ∀ i, f i → g i) {k : Nat} (h1 : ¬ f k) (h2 : g k) : ∀ n, k < n → cnt f n < cnt g n
  | 0, hk => absurd hk (Nat.not_lt_zero _)
  | n + 1, hk => by
    unfold cnt
    by_cases e : k = n
    · subst e
      have := cnt_mono (f := f) (g := g) h k
      rw [if_neg h1, if_pos h2]
      omega
    · have := cnt_lt (f := f) (g := g) h h1 h2 n (by omega)
      by_cases h3 : f n
      · rw [if_pos h3, if_pos (h n h3)]
        omega
      · rw [if_neg h3]
        split <;> omega
theorem cnt_all {f : Nat → Prop} [DecidablePred f] : ∀ n, cnt f n = n → ∀ k, k < n → f k
  | 0, _, k, hk => absurd hk (Nat.not_lt_zero _)
  | n + 1, h, k, hk => by
    unfold cnt at h
    have := cnt_le f n
    by_cases h1 : f n
    · rw [if_pos h1] at h
      by_cases e : k = n
      · rw [e]; exact h1
      · exact cnt_all n (by omega) k (by omega)
    · rw [if_neg h1] at h
      omega
theorem ch_sub {n : Nat} {c : Nat → Int32} {a : Nat} (k : Nat) {b : Nat} (hb : b < 8) (h : bit (chR n c a k) b) : bit (chR n c a (k + 1)) b := by
  show bit (chR n c a k ||| _) b
  rw [bit_or _ _ (by omega)]
  exact Or.inl h
/-- if nobody new came in a step, nobody ever comes -/
theorem ch_same {n : Nat} {c : Nat → Int32} {a : Nat} {k : Nat} (h : chR n c a (k + 1) = chR n c a k) : ∀ j, chR n c a (k + j) = chR n c a k
  | 0 => rfl
  | j + 1 => by
    have ih := ch_same h j
    show chR n c a (k + j) ||| nxF n c (chR n c a (k + j)) 0 = _
    rw [ih]
    exact h
theorem nx_same {n : Nat} {c : Nat → Int32} {r : Int32} (hn : n ≤ 8) (h : ∀ p, p < n → ¬ (c p &&& r) = 0 → bit r p) : r ||| nxF n c r 0 = r := by
  rw [← nxF_or]
  unfold nxF
  have key : ∀ m, m ≤ n → lp (fun p y => if (c p &&& r) = 0 then y else y ||| ((1 : Int32) <<< (nn p &&& 31))) m 0 r = r := by
    intro m
    induction m with
    | zero => exact fun _ => rfl
    | succ m ih =>
      intro hm
      rw [lp_end, ih (by omega), Nat.zero_add]
      by_cases q : (c m &&& r) = 0
      · rw [if_pos q]
      · rw [if_neg q]
        exact or_bit (by omega) (h m (by omega) q)
  exact key n (Nat.le_refl _)
theorem ch_more {n : Nat} {c : Nat → Int32} {a : Nat} (hn : n ≤ 8) (k : Nat) : chR n c a (k + 1) = chR n c a k ∨ cnt (fun p => bit (chR n c a k) p ∧ p < 8) n < cnt (fun p => bit (chR n c a (k + 1)) p ∧ p < 8) n := by
  by_cases h : ∀ p, p < n → ¬ (c p &&& chR n c a k) = 0 → bit (chR n c a k) p
  · exact Or.inl (nx_same hn h)
  · right
    obtain ⟨p, hp⟩ := Classical.not_forall.mp h
    obtain ⟨h1, hp⟩ := Classical.not_imp.mp hp
    obtain ⟨h2, h3⟩ := Classical.not_imp.mp hp
    refine cnt_lt (k := p) (fun i hi => ⟨ch_sub k hi.2 hi.1, hi.2⟩) (fun q => h3 q.1) ⟨?_, by omega⟩ n h1
    show bit (chR n c a k ||| nxF n c (chR n c a k) 0) p
    rw [bit_or _ _ (by omega), bit_nx hn (by omega)]
    exact Or.inr ⟨h1, h2⟩
/-- who isn't reached in as many steps as there are persons, never is -/
theorem ch_end {n : Nat} {c : Nat → Int32} {a b : Nat} (hn : n ≤ 8) (ha : a < n) (hb : b < n) (h : ∀ k, k < n → ¬ bit (chR n c a k) b) : ∀ k, ¬ bit (chR n c a k) b := by
  by_cases hs : ∃ k, k + 1 < n ∧ chR n c a (k + 1) = chR n c a k
  · obtain ⟨k, hk, e⟩ := hs
    intro j
    rcases Nat.lt_or_ge j n with q | q
    · exact h j q
    · have := ch_same e (j - k)
      rw [show k + (j - k) = j by omega] at this
      rw [this]
      exact h k (by omega)
  · exfalso
    have grow : ∀ k, k < n → k + 1 ≤ cnt (fun p => bit (chR n c a k) p ∧ p < 8) n := by
      intro k
      induction k with
      | zero =>
        intro _
        have := cnt_lt (f := fun _ => False) (g := fun p => bit (chR n c a 0) p ∧ p < 8) (k := a) (fun _ q => absurd q id) id ⟨(bit_1 a (by omega) a (by omega)).2 rfl, by omega⟩ n ha
        omega
      | succ k ih =>
        intro hk
        have ih := ih (by omega)
        rcases ch_more (c := c) (a := a) hn k with q | q
        · exact absurd ⟨k, hk, q⟩ hs
        · omega
    have g := grow (n - 1) (by omega)
    have l := cnt_le (fun p => bit (chR n c a (n - 1)) p ∧ p < 8) n
    have all := cnt_all (f := fun p => bit (chR n c a (n - 1)) p ∧ p < 8) n (by omega) b hb
    exact h (n - 1) (by omega) all.1
theorem c_nextTo (S : Sw w) (HF : FoC I F) (h8 : sz F ≤ 8) {c : Nat → Int32} (hc : ∀ b, b < sz F → I 31 b = c b) (r : Int32) : f_X7_nextTo 30 r (st w I J) = some (.inl (nxF (sz F) c r 0), st w I J) := by
  unfold f_X7_nextTo nxF
  refine loopL (fun N i y => f_X7_nextTo_b4 N 30 r y (nn i) (st w I J)) (sz F) (fun p y => if (c p &&& r) = 0 then y else y ||| ((1 : Int32) <<< (nn p &&& 31))) (fun y => some (.inl y, st w I J)) ?_ ?_ 0 (Nat.zero_le _) (NF_gt (by omega))
  · intro N i y hi
    have hn : ¬ sz F ≤ i := by omega
    have hci := hc i hi
    by_cases h1 : (c i &&& r) = 0
    · simp (disch := omega) only [bd_eq, pu_ap, if_true, if_false, not_true_eq_false, not_false_eq_true, eq_self, v_0 S, r_0_0 S, r_0_1 S, r_0_2 S, r_0_3 S, r_0_4 S, r_0_5 S, r_0_6 S, r_0_7 S, r_0_8 S, r_0_9 S, r_0_10 S, r_0_11 S, r_0_12 S, n_0_13 S, i_0_14 S, i_0_15 S, i_0_16 S, i_0_17 S, v_1 S, r_1_0 S, i_1_1 S, i_1_2 S, i_1_3 S, i_1_4 S, i_1_5 S, i_1_6 S, v_3 S, r_3_0 S, r_3_1 S, r_3_2 S, r_3_3 S, i_3_4 S, i_3_5 S, v_8 S, r_8_0 S, r_8_1 S, r_8_2 S, r_8_3 S, i_8_4 S, i_8_5 S, v_13 S, r_13_0 S, r_13_1 S, i_13_2 S, v_16 S, r_16_0 S, r_16_1 S, i_16_2 S, v_19 S, r_19_0 S, r_19_1 S, r_19_2 S, r_19_3 S, i_19_4 S, i_19_5 S, i_19_6 S, i_19_7 S, v_24 S, r_24_0 S, r_24_1 S, r_24_2 S, r_24_3 S, i_24_4 S, j_24_5 S, v_28 S, r_28_0 S, r_28_1 S, r_28_2 S, v_30 S, r_30_0 S, r_30_1 S, r_30_2 S, r_30_3 S, i_30_4 S, i_30_5 S, v_33 S, r_33_0 S, r_33_1 S, r_33_2 S, r_33_3 S, i_33_4 S, i_33_5 S, v_37 S, r_37_0 S, r_37_1 S, i_37_2 S, i_37_3 S, i_37_4 S, f_X7_nextTo_b4, f_X7_nextTo_b32, fc_sz HF, nn_le, hn, l_31 S, hci, h1, nn_succ]
    · simp (disch := omega) only [bd_eq, pu_ap, if_true, if_false, not_true_eq_false, not_false_eq_true, eq_self, v_0 S, r_0_0 S, r_0_1 S, r_0_2 S, r_0_3 S, r_0_4 S, r_0_5 S, r_0_6 S, r_0_7 S, r_0_8 S, r_0_9 S, r_0_10 S, r_0_11 S, r_0_12 S, n_0_13 S, i_0_14 S, i_0_15 S, i_0_16 S, i_0_17 S, v_1 S, r_1_0 S, i_1_1 S, i_1_2 S, i_1_3 S, i_1_4 S, i_1_5 S, i_1_6 S, v_3 S, r_3_0 S, r_3_1 S, r_3_2 S, r_3_3 S, i_3_4 S, i_3_5 S, v_8 S, r_8_0 S, r_8_1 S, r_8_2 S, r_8_3 S, i_8_4 S, i_8_5 S, v_13 S, r_13_0 S, r_13_1 S, i_13_2 S, v_16 S, r_16_0 S, r_16_1 S, i_16_2 S, v_19 S, r_19_0 S, r_19_1 S, r_19_2 S, r_19_3 S, i_19_4 S, i_19_5 S, i_19_6 S, i_19_7 S, v_24 S, r_24_0 S, r_24_1 S, r_24_2 S, r_24_3 S, i_24_4 S, j_24_5 S, v_28 S, r_28_0 S, r_28_1 S, r_28_2 S, v_30 S, r_30_0 S, r_30_1 S, r_30_2 S, r_30_3 S, i_30_4 S, i_30_5 S, v_33 S, r_33_0 S, r_33_1 S, r_33_2 S, r_33_3 S, i_33_4 S, i_33_5 S, v_37 S, r_37_0 S, r_37_1 S, i_37_2 S, i_37_3 S, i_37_4 S, f_X7_nextTo_b4, f_X7_nextTo_b32, fc_sz HF, nn_le, hn, l_31 S, hci, h1, nn_succ]
  · intro N y
    simp (disch := omega) only [bd_eq, pu_ap, if_true, if_false, not_true_eq_false, not_false_eq_true, eq_self, v_0 S, r_0_0 S, r_0_1 S, r_0_2 S, r_0_3 S, r_0_4 S, r_0_5 S, r_0_6 S, r_0_7 S, r_0_8 S, r_0_9 S, r_0_10 S, r_0_11 S, r_0_12 S, n_0_13 S, i_0_14 S, i_0_15 S, i_0_16 S, i_0_17 S, v_1 S, r_1_0 S, i_1_1 S, i_1_2 S, i_1_3 S, i_1_4 S, i_1_5 S, i_1_6 S, v_3 S, r_3_0 S, r_3_1 S, r_3_2 S, r_3_3 S, i_3_4 S, i_3_5 S, v_8 S, r_8_0 S, r_8_1 S, r_8_2 S, r_8_3 S, i_8_4 S, i_8_5 S, v_13 S, r_13_0 S, r_13_1 S, i_13_2 S, v_16 S, r_16_0 S, r_16_1 S, i_16_2 S, v_19 S, r_19_0 S, r_19_1 S, r_19_2 S, r_19_3 S, i_19_4 S, i_19_5 S, i_19_6 S, i_19_7 S, v_24 S, r_24_0 S, r_24_1 S, r_24_2 S, r_24_3 S, i_24_4 S, j_24_5 S, v_28 S, r_28_0 S, r_28_1 S, r_28_2 S, v_30 S, r_30_0 S, r_30_1 S, r_30_2 S, r_30_3 S, i_30_4 S, i_30_5 S, v_33 S, r_33_0 S, r_33_1 S, r_33_2 S, r_33_3 S, i_33_4 S, i_33_5 S, v_37 S, r_37_0 S, r_37_1 S, i_37_2 S, i_37_3 S, i_37_4 S, f_X7_nextTo_b4, fc_sz HF, Int32.le_refl]
theorem m_next (S : Sw w) (HF : FoM I F) (h8 : sz F ≤ 8) {c : Nat → Int32} (hc : ∀ b, b < sz F → I 520 b = c b) (k48 : Nat → Int32 → Int32 → Int32 → Mo Int32) (x r n y : Int32) : f_X12_chain_b72 k48 NF 49 x r n y 0 (st w I J) = k48 49 x (nxF (sz F) c r y) (n + 1) (st w I J) := by
  unfold nxF
  refine loopL (fun N i y => f_X12_chain_b72 k48 N 49 x r n y (nn i) (st w I J)) (sz F) (fun p y => if (c p &&& r) = 0 then y else y ||| ((1 : Int32) <<< (nn p &&& 31))) (fun y => k48 49 x y (n + 1) (st w I J)) ?_ ?_ y (Nat.zero_le _) (NF_gt (by omega))
  · intro N i y hi
    have hn : ¬ sz F ≤ i := by omega
    have hci := hc i hi
    by_cases h1 : (c i &&& r) = 0
    · simp (disch := omega) only [bd_eq, pu_ap, if_true, if_false, not_true_eq_false, not_false_eq_true, eq_self, v_49 S, i_49_0 S, i_49_1 S, i_49_2 S, i_49_3 S, i_49_4 S, i_49_5 S, i_49_6 S, i_49_7 S, i_49_8 S, r_49_9 S, r_49_10 S, r_49_11 S, r_49_12 S, r_49_13 S, r_49_14 S, r_49_15 S, r_49_16 S, i_49_17 S, i_49_18 S, r_49_19 S, r_49_20 S, r_49_21 S, r_49_22 S, r_49_23 S, r_49_24 S, r_49_25 S, i_49_26 S, r_49_27 S, r_49_28 S, r_49_29 S, r_49_30 S, i_49_31 S, i_49_32 S, i_49_33 S, i_49_34 S, i_49_35 S, i_49_36 S, i_49_37 S, r_49_38 S, i_49_39 S, i_49_40 S, r_49_41 S, r_49_42 S, r_49_43 S, i_49_44 S, r_49_45 S, i_49_46 S, i_49_47 S, i_49_48 S, l_53_0 S, l_53_1 S, f_X12_chain_b72, f_X12_chain_b105, fm_sz HF, nn_le, hn, l_520 S, hci, h1, nn_succ, Int32.or_zero]
    · simp (disch := omega) only [bd_eq, pu_ap, if_true, if_false, not_true_eq_false, not_false_eq_true, eq_self, v_49 S, i_49_0 S, i_49_1 S, i_49_2 S, i_49_3 S, i_49_4 S, i_49_5 S, i_49_6 S, i_49_7 S, i_49_8 S, r_49_9 S, r_49_10 S, r_49_11 S, r_49_12 S, r_49_13 S, r_49_14 S, r_49_15 S, r_49_16 S, i_49_17 S, i_49_18 S, r_49_19 S, r_49_20 S, r_49_21 S, r_49_22 S, r_49_23 S, r_49_24 S, r_49_25 S, i_49_26 S, r_49_27 S, r_49_28 S, r_49_29 S, r_49_30 S, i_49_31 S, i_49_32 S, i_49_33 S, i_49_34 S, i_49_35 S, i_49_36 S, i_49_37 S, r_49_38 S, i_49_39 S, i_49_40 S, r_49_41 S, r_49_42 S, r_49_43 S, i_49_44 S, r_49_45 S, i_49_46 S, i_49_47 S, i_49_48 S, l_53_0 S, l_53_1 S, f_X12_chain_b72, f_X12_chain_b105, fm_sz HF, nn_le, hn, l_520 S, hci, h1, nn_succ]
  · intro N y
    simp (disch := omega) only [bd_eq, pu_ap, if_true, if_false, not_true_eq_false, not_false_eq_true, eq_self, v_49 S, i_49_0 S, i_49_1 S, i_49_2 S, i_49_3 S, i_49_4 S, i_49_5 S, i_49_6 S, i_49_7 S, i_49_8 S, r_49_9 S, r_49_10 S, r_49_11 S, r_49_12 S, r_49_13 S, r_49_14 S, r_49_15 S, r_49_16 S, i_49_17 S, i_49_18 S, r_49_19 S, r_49_20 S, r_49_21 S, r_49_22 S, r_49_23 S, r_49_24 S, r_49_25 S, i_49_26 S, r_49_27 S, r_49_28 S, r_49_29 S, r_49_30 S, i_49_31 S, i_49_32 S, i_49_33 S, i_49_34 S, i_49_35 S, i_49_36 S, i_49_37 S, r_49_38 S, i_49_39 S, i_49_40 S, r_49_41 S, r_49_42 S, r_49_43 S, i_49_44 S, r_49_45 S, i_49_46 S, i_49_47 S, i_49_48 S, l_53_0 S, l_53_1 S, f_X12_chain_b72, fm_sz HF, Int32.le_refl]
theorem b_chain (S : Sw w) (W : WD D) {a b : Nat} (ha : a < sz (dF D)) (hb : b < sz (dF D)) : ∀ I I' J J', RC w I J D → RM I' D → I' 49 0 = 0 → ∃ v I1 I2, f_X7_look 30 43 (st w I J) = some (.inl (), st w I1 J) ∧ f_X7_steps 30 (nn a) (nn b) (st w I1 J) = some (.inl v, st w I1 J) ∧ Ag KC I I1 ∧ f_X12_laysCans 49 (st w I' J') = some (.inl (), st w I2 J') ∧ f_X12_chain_b48 NF 49 (nn b) ((1 : Int32) <<< (nn a &&& 31)) 0 (st w I2 J') = some (.inl v, st w I2 J') ∧ AgM I' I2 := by
  intro I I' J J' HC HM H0
  have HCs := HC
  have HMs := HM
  obtain ⟨⟨HF, HA, HL, HW, HT, -⟩, -, -⟩ := HC
  obtain ⟨⟨MF, MA, ML, MW, MT, -⟩, -, -⟩ := HM
  have Ws := W
  obtain ⟨WF, ⟨WA, -, WB, -⟩, -, WL, WW, -⟩ := W
  have h8 := WF.1
  have h40 := WA.1
  have T := StS_43 S
  have U := RoS_497 S
  obtain ⟨I1, e1, a1, h1⟩ := c_look (J := J) S HF h8 HA HL WL
  obtain ⟨I2, e2, a2, h2⟩ := m_lays (J := J') S MF WF MA ML WL
  have HF1 := HF.ag a1 (by decide)
  have MF2 := MF.ag h8 a2 (by decide)
  have lc : ∃ v, f_X7_steps 30 (nn a) (nn b) (st w I1 J) = some (.inl v, st w I1 J) ∧ ((∃ k, k < sz (dF D) ∧ v = nn k ∧ bit (chR (sz (dF D)) (canB (dF D) (dL D) (dA D)) a k) b ∧ ∀ j, j < k → ¬ bit (chR (sz (dF D)) (canB (dF D) (dL D) (dA D)) a j) b) ∨ v = -1 ∧ ∀ j, j < sz (dF D) → ¬ bit (chR (sz (dF D)) (canB (dF D) (dL D) (dA D)) a j) b) := by
    unfold f_X7_steps
    refine loopQ (fun N i (r : Int32) => f_X7_steps_b7 N 30 (nn b) r (nn i) (st w I1 J)) (sz (dF D)) (fun i r => r = chR (sz (dF D)) (canB (dF D) (dL D) (dA D)) a i ∧ ∀ j, j < i → ¬ bit (chR (sz (dF D)) (canB (dF D) (dL D) (dA D)) a j) b) (fun z => ∃ v, z = some (.inl v, st w I1 J) ∧ ((∃ k, k < sz (dF D) ∧ v = nn k ∧ bit (chR (sz (dF D)) (canB (dF D) (dL D) (dA D)) a k) b ∧ ∀ j, j < k → ¬ bit (chR (sz (dF D)) (canB (dF D) (dL D) (dA D)) a j) b) ∨ v = -1 ∧ ∀ j, j < sz (dF D) → ¬ bit (chR (sz (dF D)) (canB (dF D) (dL D) (dA D)) a j) b)) ?_ ?_ (sz (dF D)) 0 _ NF (by omega) (NF_gt (by omega)) ⟨rfl, fun j hj => absurd hj (Nat.not_lt_zero _)⟩
    · intro N i r hi ⟨hr, hj⟩
      have hn : ¬ sz (dF D) ≤ i := by omega
      by_cases hq : bit r b
      · right
        refine ⟨nn i, ?_, Or.inl ⟨i, hi, rfl, by rw [← hr]; exact hq, hj⟩⟩
        simp (disch := omega) only [bd_eq, pu_ap, if_true, if_false, not_true_eq_false, not_false_eq_true, eq_self, v_0 S, r_0_0 S, r_0_1 S, r_0_2 S, r_0_3 S, r_0_4 S, r_0_5 S, r_0_6 S, r_0_7 S, r_0_8 S, r_0_9 S, r_0_10 S, r_0_11 S, r_0_12 S, n_0_13 S, i_0_14 S, i_0_15 S, i_0_16 S, i_0_17 S, v_1 S, r_1_0 S, i_1_1 S, i_1_2 S, i_1_3 S, i_1_4 S, i_1_5 S, i_1_6 S, v_3 S, r_3_0 S, r_3_1 S, r_3_2 S, r_3_3 S, i_3_4 S, i_3_5 S, v_8 S, r_8_0 S, r_8_1 S, r_8_2 S, r_8_3 S, i_8_4 S, i_8_5 S, v_13 S, r_13_0 S, r_13_1 S, i_13_2 S, v_16 S, r_16_0 S, r_16_1 S, i_16_2 S, v_19 S, r_19_0 S, r_19_1 S, r_19_2 S, r_19_3 S, i_19_4 S, i_19_5 S, i_19_6 S, i_19_7 S, v_24 S, r_24_0 S, r_24_1 S, r_24_2 S, r_24_3 S, i_24_4 S, j_24_5 S, v_28 S, r_28_0 S, r_28_1 S, r_28_2 S, v_30 S, r_30_0 S, r_30_1 S, r_30_2 S, r_30_3 S, i_30_4 S, i_30_5 S, v_33 S, r_33_0 S, r_33_1 S, r_33_2 S, r_33_3 S, i_33_4 S, i_33_5 S, v_37 S, r_37_0 S, r_37_1 S, i_37_2 S, i_37_3 S, i_37_4 S, f_X7_steps_b7, fc_sz HF1, nn_le, hn, hq]
      · left
        refine ⟨r ||| nxF (sz (dF D)) (canB (dF D) (dL D) (dA D)) r 0, ?_, ?_, fun j hji => ?_⟩
        · simp (disch := omega) only [bd_eq, pu_ap, if_true, if_false, not_true_eq_false, not_false_eq_true, eq_self, v_0 S, r_0_0 S, r_0_1 S, r_0_2 S, r_0_3 S, r_0_4 S, r_0_5 S, r_0_6 S, r_0_7 S, r_0_8 S, r_0_9 S, r_0_10 S, r_0_11 S, r_0_12 S, n_0_13 S, i_0_14 S, i_0_15 S, i_0_16 S, i_0_17 S, v_1 S, r_1_0 S, i_1_1 S, i_1_2 S, i_1_3 S, i_1_4 S, i_1_5 S, i_1_6 S, v_3 S, r_3_0 S, r_3_1 S, r_3_2 S, r_3_3 S, i_3_4 S, i_3_5 S, v_8 S, r_8_0 S, r_8_1 S, r_8_2 S, r_8_3 S, i_8_4 S, i_8_5 S, v_13 S, r_13_0 S, r_13_1 S, i_13_2 S, v_16 S, r_16_0 S, r_16_1 S, i_16_2 S, v_19 S, r_19_0 S, r_19_1 S, r_19_2 S, r_19_3 S, i_19_4 S, i_19_5 S, i_19_6 S, i_19_7 S, v_24 S, r_24_0 S, r_24_1 S, r_24_2 S, r_24_3 S, i_24_4 S, j_24_5 S, v_28 S, r_28_0 S, r_28_1 S, r_28_2 S, v_30 S, r_30_0 S, r_30_1 S, r_30_2 S, r_30_3 S, i_30_4 S, i_30_5 S, v_33 S, r_33_0 S, r_33_1 S, r_33_2 S, r_33_3 S, i_33_4 S, i_33_5 S, v_37 S, r_37_0 S, r_37_1 S, i_37_2 S, i_37_3 S, i_37_4 S, f_X7_steps_b7, fc_sz HF1, nn_le, hn, hq, c_nextTo S HF1 h8 h1, nn_succ]
        · rw [hr]; rfl
        · by_cases e : j = i
          · rw [e, ← hr]; exact hq
          · exact hj j (by omega)
    · intro N r ⟨hr, hj⟩
      refine ⟨-1, ?_, Or.inr ⟨rfl, hj⟩⟩
      simp (disch := omega) only [bd_eq, pu_ap, if_true, if_false, not_true_eq_false, not_false_eq_true, eq_self, v_0 S, r_0_0 S, r_0_1 S, r_0_2 S, r_0_3 S, r_0_4 S, r_0_5 S, r_0_6 S, r_0_7 S, r_0_8 S, r_0_9 S, r_0_10 S, r_0_11 S, r_0_12 S, n_0_13 S, i_0_14 S, i_0_15 S, i_0_16 S, i_0_17 S, v_1 S, r_1_0 S, i_1_1 S, i_1_2 S, i_1_3 S, i_1_4 S, i_1_5 S, i_1_6 S, v_3 S, r_3_0 S, r_3_1 S, r_3_2 S, r_3_3 S, i_3_4 S, i_3_5 S, v_8 S, r_8_0 S, r_8_1 S, r_8_2 S, r_8_3 S, i_8_4 S, i_8_5 S, v_13 S, r_13_0 S, r_13_1 S, i_13_2 S, v_16 S, r_16_0 S, r_16_1 S, i_16_2 S, v_19 S, r_19_0 S, r_19_1 S, r_19_2 S, r_19_3 S, i_19_4 S, i_19_5 S, i_19_6 S, i_19_7 S, v_24 S, r_24_0 S, r_24_1 S, r_24_2 S, r_24_3 S, i_24_4 S, j_24_5 S, v_28 S, r_28_0 S, r_28_1 S, r_28_2 S, v_30 S, r_30_0 S, r_30_1 S, r_30_2 S, r_30_3 S, i_30_4 S, i_30_5 S, v_33 S, r_33_0 S, r_33_1 S, r_33_2 S, r_33_3 S, i_33_4 S, i_33_5 S, v_37 S, r_37_0 S, r_37_1 S, i_37_2 S, i_37_3 S, i_37_4 S, f_X7_steps_b7, fc_sz HF1, Int32.le_refl]
  have lm : ∃ v, f_X12_chain_b48 NF 49 (nn b) ((1 : Int32) <<< (nn a &&& 31)) 0 (st w I2 J') = some (.inl v, st w I2 J') ∧ ((∃ k, k < 8 ∧ v = nn k ∧ bit (chR (sz (dF D)) (canB (dF D) (dL D) (dA D)) a k) b ∧ ∀ j, j < k → ¬ bit (chR (sz (dF D)) (canB (dF D) (dL D) (dA D)) a j) b) ∨ v = -1 ∧ ∀ j, j < 8 → ¬ bit (chR (sz (dF D)) (canB (dF D) (dL D) (dA D)) a j) b) := by
    refine loopQ (fun N i (r : Int32) => f_X12_chain_b48 N 49 (nn b) r (nn i) (st w I2 J')) 8 (fun i r => r = chR (sz (dF D)) (canB (dF D) (dL D) (dA D)) a i ∧ ∀ j, j < i → ¬ bit (chR (sz (dF D)) (canB (dF D) (dL D) (dA D)) a j) b) (fun z => ∃ v, z = some (.inl v, st w I2 J') ∧ ((∃ k, k < 8 ∧ v = nn k ∧ bit (chR (sz (dF D)) (canB (dF D) (dL D) (dA D)) a k) b ∧ ∀ j, j < k → ¬ bit (chR (sz (dF D)) (canB (dF D) (dL D) (dA D)) a j) b) ∨ v = -1 ∧ ∀ j, j < 8 → ¬ bit (chR (sz (dF D)) (canB (dF D) (dL D) (dA D)) a j) b)) ?_ ?_ 8 0 _ NF (by omega) (NF_gt (by omega)) ⟨rfl, fun j hj => absurd hj (Nat.not_lt_zero _)⟩
    · intro N i r hi ⟨hr, hj⟩
      have hn : ¬ (8 : Int32) ≤ nn i := by rw [show (8 : Int32) = nn 8 from rfl, nn_le (by omega) (by omega)]; omega
      by_cases hq : bit r b
      · right
        refine ⟨nn i, ?_, Or.inl ⟨i, hi, rfl, by rw [← hr]; exact hq, hj⟩⟩
        simp (disch := omega) only [bd_eq, pu_ap, if_true, if_false, not_true_eq_false, not_false_eq_true, eq_self, v_49 S, i_49_0 S, i_49_1 S, i_49_2 S, i_49_3 S, i_49_4 S, i_49_5 S, i_49_6 S, i_49_7 S, i_49_8 S, r_49_9 S, r_49_10 S, r_49_11 S, r_49_12 S, r_49_13 S, r_49_14 S, r_49_15 S, r_49_16 S, i_49_17 S, i_49_18 S, r_49_19 S, r_49_20 S, r_49_21 S, r_49_22 S, r_49_23 S, r_49_24 S, r_49_25 S, i_49_26 S, r_49_27 S, r_49_28 S, r_49_29 S, r_49_30 S, i_49_31 S, i_49_32 S, i_49_33 S, i_49_34 S, i_49_35 S, i_49_36 S, i_49_37 S, r_49_38 S, i_49_39 S, i_49_40 S, r_49_41 S, r_49_42 S, r_49_43 S, i_49_44 S, r_49_45 S, i_49_46 S, i_49_47 S, i_49_48 S, l_53_0 S, l_53_1 S, f_X12_chain_b48, hn, m_has, bI_0, hq]
      · left
        refine ⟨r ||| nxF (sz (dF D)) (canB (dF D) (dL D) (dA D)) r 0, ?_, ?_, fun j hji => ?_⟩
        · simp (disch := omega) only [bd_eq, pu_ap, if_true, if_false, not_true_eq_false, not_false_eq_true, eq_self, v_49 S, i_49_0 S, i_49_1 S, i_49_2 S, i_49_3 S, i_49_4 S, i_49_5 S, i_49_6 S, i_49_7 S, i_49_8 S, r_49_9 S, r_49_10 S, r_49_11 S, r_49_12 S, r_49_13 S, r_49_14 S, r_49_15 S, r_49_16 S, i_49_17 S, i_49_18 S, r_49_19 S, r_49_20 S, r_49_21 S, r_49_22 S, r_49_23 S, r_49_24 S, r_49_25 S, i_49_26 S, r_49_27 S, r_49_28 S, r_49_29 S, r_49_30 S, i_49_31 S, i_49_32 S, i_49_33 S, i_49_34 S, i_49_35 S, i_49_36 S, i_49_37 S, r_49_38 S, i_49_39 S, i_49_40 S, r_49_41 S, r_49_42 S, r_49_43 S, i_49_44 S, r_49_45 S, i_49_46 S, i_49_47 S, i_49_48 S, l_53_0 S, l_53_1 S, f_X12_chain_b48, hn, m_has, bI_0, hq, m_next S MF2 h8 h2, nn_succ]
          rw [nxF_or]
        · rw [hr]; rfl
        · by_cases e : j = i
          · rw [e, ← hr]; exact hq
          · exact hj j (by omega)
    · intro N r ⟨hr, hj⟩
      refine ⟨-1, ?_, Or.inr ⟨rfl, hj⟩⟩
      simp (disch := omega) only [bd_eq, pu_ap, if_true, if_false, not_true_eq_false, not_false_eq_true, eq_self, v_49 S, i_49_0 S, i_49_1 S, i_49_2 S, i_49_3 S, i_49_4 S, i_49_5 S, i_49_6 S, i_49_7 S, i_49_8 S, r_49_9 S, r_49_10 S, r_49_11 S, r_49_12 S, r_49_13 S, r_49_14 S, r_49_15 S, r_49_16 S, i_49_17 S, i_49_18 S, r_49_19 S, r_49_20 S, r_49_21 S, r_49_22 S, r_49_23 S, r_49_24 S, r_49_25 S, i_49_26 S, r_49_27 S, r_49_28 S, r_49_29 S, r_49_30 S, i_49_31 S, i_49_32 S, i_49_33 S, i_49_34 S, i_49_35 S, i_49_36 S, i_49_37 S, r_49_38 S, i_49_39 S, i_49_40 S, r_49_41 S, r_49_42 S, r_49_43 S, i_49_44 S, r_49_45 S, i_49_46 S, i_49_47 S, i_49_48 S, l_53_0 S, l_53_1 S, f_X12_chain_b48, show ((8 : Int32) ≤ nn 8) = True from by decide]
  obtain ⟨v, e3, l3⟩ := lc
  obtain ⟨v', e4, l4⟩ := lm
  have hv : v = v' := by
    rcases l3 with ⟨k, k1, k2, k3, k4⟩ | ⟨k1, k2⟩ <;> rcases l4 with ⟨j, j1, j2, j3, j4⟩ | ⟨j1, j2⟩
    · rw [k2, j2]
      rcases Nat.lt_trichotomy k j with q | q | q
      · exact absurd k3 (j4 k q)
      · rw [q]
      · exact absurd j3 (k4 j q)
    · exact absurd k3 (j2 k (by omega))
    · exact absurd j3 (ch_end h8 ha hb k2 j)
    · rw [k1, j1]
  subst hv
  exact ⟨v, I1, I2, e1, e3, a1.mono (by decide), e2, e4, AgM.of a2 (by decide) (by decide)⟩
-- prices shared
theorem b_share (S : Sw w) (W : WD D) {p n : Nat} (s : Int32) (hp : p < sz (dF D)) (hn : n < 401) : Bod w D (if (((s >>> (nn p &&& 31)) &&& (1 : Int32)) = 0 : Prop) then (pu 0) else f_X11_share_b32 NF 0 (nn p) s (nn n) 40) (f_X12_share_b65 NF 49 (nn p) s (nn n) 0) := by
  intro I I' J J' HC HM H0
  have HCs := HC
  have HMs := HM
  obtain ⟨⟨HF, HA, HL, HW, HT, -⟩, -, -⟩ := HC
  obtain ⟨⟨MF, MA, ML, MW, MT, -⟩, -, -⟩ := HM
  have Ws := W
  obtain ⟨WF, ⟨WA, -, WB, -⟩, -, WL, WW, -⟩ := W
  have h8 := WF.1
  have h40 := WA.1
  have T := StS_43 S
  have U := RoS_497 S
  have mono : ∀ b b', b ≤ b' → b' ≤ 40 → givP (dF D) s (nn b) ≤ givP (dF D) s (nn b') := fun b b' h1 h2 => by
    obtain ⟨m, hm, em, h⟩ := giv_b WF s (b := b) (by omega)
    obtain ⟨m', em', h3, h4⟩ := h b' h1 h2
    rw [em, em', nn_le (by omega) (by omega)]
    exact h3
  have lc : ∃ B, B ≤ 40 ∧ f_X11_share_b32 NF 0 (nn p) s (nn n) 40 (st w I J) = some (.inl (mn32 (nn (pr (dF D) p)) (nn B)), st w I J) ∧ (B = 0 ∨ givP (dF D) s (nn B) ≤ nn n) ∧ ∀ b, B < b → b ≤ 40 → ¬ givP (dF D) s (nn b) ≤ nn n := by
    refine loopQ (fun N i (_ : Unit) => f_X11_share_b32 N 0 (nn p) s (nn n) (nn (40 - i)) (st w I J)) 40 (fun i _ => ∀ b, 40 - i < b → b ≤ 40 → ¬ givP (dF D) s (nn b) ≤ nn n) (fun z => ∃ B, B ≤ 40 ∧ z = some (.inl (mn32 (nn (pr (dF D) p)) (nn B)), st w I J) ∧ (B = 0 ∨ givP (dF D) s (nn B) ≤ nn n) ∧ ∀ b, B < b → b ≤ 40 → ¬ givP (dF D) s (nn b) ≤ nn n) ?_ ?_ 40 0 () NF (by omega) (NF_gt (by omega)) (fun b h1 h2 => by omega)
    · intro N i _ hi hP
      have h0 : ¬ nn (40 - i) ≤ 0 := by rw [show (0 : Int32) = nn 0 from rfl, nn_le (by omega) (by omega)]; omega
      by_cases hq : givP (dF D) s (nn (40 - i)) ≤ nn n
      · right
        refine ⟨40 - i, by omega, ?_, Or.inr hq, hP⟩
        simp (disch := omega) only [bd_eq, pu_ap, if_true, if_false, not_true_eq_false, not_false_eq_true, eq_self, v_0 S, r_0_0 S, r_0_1 S, r_0_2 S, r_0_3 S, r_0_4 S, r_0_5 S, r_0_6 S, r_0_7 S, r_0_8 S, r_0_9 S, r_0_10 S, r_0_11 S, r_0_12 S, n_0_13 S, i_0_14 S, i_0_15 S, i_0_16 S, i_0_17 S, v_1 S, r_1_0 S, i_1_1 S, i_1_2 S, i_1_3 S, i_1_4 S, i_1_5 S, i_1_6 S, v_3 S, r_3_0 S, r_3_1 S, r_3_2 S, r_3_3 S, i_3_4 S, i_3_5 S, v_8 S, r_8_0 S, r_8_1 S, r_8_2 S, r_8_3 S, i_8_4 S, i_8_5 S, v_13 S, r_13_0 S, r_13_1 S, i_13_2 S, v_16 S, r_16_0 S, r_16_1 S, i_16_2 S, v_19 S, r_19_0 S, r_19_1 S, r_19_2 S, r_19_3 S, i_19_4 S, i_19_5 S, i_19_6 S, i_19_7 S, v_24 S, r_24_0 S, r_24_1 S, r_24_2 S, r_24_3 S, i_24_4 S, j_24_5 S, v_28 S, r_28_0 S, r_28_1 S, r_28_2 S, v_30 S, r_30_0 S, r_30_1 S, r_30_2 S, r_30_3 S, i_30_4 S, i_30_5 S, v_33 S, r_33_0 S, r_33_1 S, r_33_2 S, r_33_3 S, i_33_4 S, i_33_5 S, v_37 S, r_37_0 S, r_37_1 S, i_37_2 S, i_37_3 S, i_37_4 S, fc_sz HF, fc_ak HF, fc_fa HF, fc_te HF, fc_pr HF, fc_sy HF, l_4 S, l_5 S, l_6 S, l_7 S, e_v T, e_i4 T, e_i5 T, e_r0 T, e_r1 T, e_r2 T, e_r3 T, e_l1 T, e_l2 T, e_l3 T, sr_hg HA, sr_yr HA, sr_mo HA, sr_tk HA, sr_sa HA, c_taker T HA WA h8, c_sitter T HA WA h8, c_hallOf T HA WA h8, c_faceOn T HA WA h8, c_yearOf T HA WA h8, c_nearest S HF WF, c_never S HF h8, c_alike S HF, nn_le, nn_succ, bI_0, Int32.or_zero, Int32.add_zero, Int32.le_refl, f_X11_share_b32, f_X11_share_b57, h0, c_given S HF h8, hq]
      · left
        refine ⟨(), ?_, fun b h1 h2 => ?_⟩
        · rw [show 40 - (i + 1) = 40 - i - 1 by omega]
          simp (disch := omega) only [bd_eq, pu_ap, if_true, if_false, not_true_eq_false, not_false_eq_true, eq_self, v_0 S, r_0_0 S, r_0_1 S, r_0_2 S, r_0_3 S, r_0_4 S, r_0_5 S, r_0_6 S, r_0_7 S, r_0_8 S, r_0_9 S, r_0_10 S, r_0_11 S, r_0_12 S, n_0_13 S, i_0_14 S, i_0_15 S, i_0_16 S, i_0_17 S, v_1 S, r_1_0 S, i_1_1 S, i_1_2 S, i_1_3 S, i_1_4 S, i_1_5 S, i_1_6 S, v_3 S, r_3_0 S, r_3_1 S, r_3_2 S, r_3_3 S, i_3_4 S, i_3_5 S, v_8 S, r_8_0 S, r_8_1 S, r_8_2 S, r_8_3 S, i_8_4 S, i_8_5 S, v_13 S, r_13_0 S, r_13_1 S, i_13_2 S, v_16 S, r_16_0 S, r_16_1 S, i_16_2 S, v_19 S, r_19_0 S, r_19_1 S, r_19_2 S, r_19_3 S, i_19_4 S, i_19_5 S, i_19_6 S, i_19_7 S, v_24 S, r_24_0 S, r_24_1 S, r_24_2 S, r_24_3 S, i_24_4 S, j_24_5 S, v_28 S, r_28_0 S, r_28_1 S, r_28_2 S, v_30 S, r_30_0 S, r_30_1 S, r_30_2 S, r_30_3 S, i_30_4 S, i_30_5 S, v_33 S, r_33_0 S, r_33_1 S, r_33_2 S, r_33_3 S, i_33_4 S, i_33_5 S, v_37 S, r_37_0 S, r_37_1 S, i_37_2 S, i_37_3 S, i_37_4 S, fc_sz HF, fc_ak HF, fc_fa HF, fc_te HF, fc_pr HF, fc_sy HF, l_4 S, l_5 S, l_6 S, l_7 S, e_v T, e_i4 T, e_i5 T, e_r0 T, e_r1 T, e_r2 T, e_r3 T, e_l1 T, e_l2 T, e_l3 T, sr_hg HA, sr_yr HA, sr_mo HA, sr_tk HA, sr_sa HA, c_taker T HA WA h8, c_sitter T HA WA h8, c_hallOf T HA WA h8, c_faceOn T HA WA h8, c_yearOf T HA WA h8, c_nearest S HF WF, c_never S HF h8, c_alike S HF, nn_le, nn_succ, bI_0, Int32.or_zero, Int32.add_zero, Int32.le_refl, f_X11_share_b32, f_X11_share_b57, h0, c_given S HF h8, hq, nn_m1]
        · by_cases e : b = 40 - i
          · rw [e]; exact hq
          · exact hP b (by omega) h2
    · intro N _ hP
      refine ⟨0, by omega, ?_, Or.inl rfl, hP⟩
      simp (disch := omega) only [bd_eq, pu_ap, if_true, if_false, not_true_eq_false, not_false_eq_true, eq_self, v_0 S, r_0_0 S, r_0_1 S, r_0_2 S, r_0_3 S, r_0_4 S, r_0_5 S, r_0_6 S, r_0_7 S, r_0_8 S, r_0_9 S, r_0_10 S, r_0_11 S, r_0_12 S, n_0_13 S, i_0_14 S, i_0_15 S, i_0_16 S, i_0_17 S, v_1 S, r_1_0 S, i_1_1 S, i_1_2 S, i_1_3 S, i_1_4 S, i_1_5 S, i_1_6 S, v_3 S, r_3_0 S, r_3_1 S, r_3_2 S, r_3_3 S, i_3_4 S, i_3_5 S, v_8 S, r_8_0 S, r_8_1 S, r_8_2 S, r_8_3 S, i_8_4 S, i_8_5 S, v_13 S, r_13_0 S, r_13_1 S, i_13_2 S, v_16 S, r_16_0 S, r_16_1 S, i_16_2 S, v_19 S, r_19_0 S, r_19_1 S, r_19_2 S, r_19_3 S, i_19_4 S, i_19_5 S, i_19_6 S, i_19_7 S, v_24 S, r_24_0 S, r_24_1 S, r_24_2 S, r_24_3 S, i_24_4 S, j_24_5 S, v_28 S, r_28_0 S, r_28_1 S, r_28_2 S, v_30 S, r_30_0 S, r_30_1 S, r_30_2 S, r_30_3 S, i_30_4 S, i_30_5 S, v_33 S, r_33_0 S, r_33_1 S, r_33_2 S, r_33_3 S, i_33_4 S, i_33_5 S, v_37 S, r_37_0 S, r_37_1 S, i_37_2 S, i_37_3 S, i_37_4 S, fc_sz HF, fc_ak HF, fc_fa HF, fc_te HF, fc_pr HF, fc_sy HF, l_4 S, l_5 S, l_6 S, l_7 S, e_v T, e_i4 T, e_i5 T, e_r0 T, e_r1 T, e_r2 T, e_r3 T, e_l1 T, e_l2 T, e_l3 T, sr_hg HA, sr_yr HA, sr_mo HA, sr_tk HA, sr_sa HA, c_taker T HA WA h8, c_sitter T HA WA h8, c_hallOf T HA WA h8, c_faceOn T HA WA h8, c_yearOf T HA WA h8, c_nearest S HF WF, c_never S HF h8, c_alike S HF, nn_le, nn_succ, bI_0, Int32.or_zero, Int32.add_zero, Int32.le_refl, f_X11_share_b32, f_X11_share_b57, Nat.sub_self, show (nn 0 ≤ (0 : Int32)) = True from by decide]
  have lm : ∃ B, B ≤ 40 ∧ f_X12_share_b65 NF 49 (nn p) s (nn n) 0 (st w I' J') = some (.inl (if bit s p then mn32 (nn (pr (dF D) p)) (nn B) else 0), st w I' J') ∧ (∀ b, 1 ≤ b → b ≤ B → givP (dF D) s (nn b) ≤ nn n) ∧ (B = 40 ∨ ¬ givP (dF D) s (nn (B + 1)) ≤ nn n) := by
    have fin : ∀ B, f_X12_share_b91 49 (nn p) s (nn B) (st w I' J') = some (.inl (if bit s p then mn32 (nn (pr (dF D) p)) (nn B) else 0), st w I' J') := fun B => by
      by_cases hb : bit s p
      · simp (disch := omega) only [bd_eq, pu_ap, if_true, if_false, not_true_eq_false, not_false_eq_true, eq_self, v_49 S, i_49_0 S, i_49_1 S, i_49_2 S, i_49_3 S, i_49_4 S, i_49_5 S, i_49_6 S, i_49_7 S, i_49_8 S, r_49_9 S, r_49_10 S, r_49_11 S, r_49_12 S, r_49_13 S, r_49_14 S, r_49_15 S, r_49_16 S, i_49_17 S, i_49_18 S, r_49_19 S, r_49_20 S, r_49_21 S, r_49_22 S, r_49_23 S, r_49_24 S, r_49_25 S, i_49_26 S, r_49_27 S, r_49_28 S, r_49_29 S, r_49_30 S, i_49_31 S, i_49_32 S, i_49_33 S, i_49_34 S, i_49_35 S, i_49_36 S, i_49_37 S, r_49_38 S, i_49_39 S, i_49_40 S, r_49_41 S, r_49_42 S, r_49_43 S, i_49_44 S, r_49_45 S, i_49_46 S, i_49_47 S, i_49_48 S, l_53_0 S, l_53_1 S, fm_sz MF, fm_ak MF, fm_fa MF, fm_te MF, fm_pr MF, fm_sy MF, l_55 S, g_65 S, l_66_0 S, l_66_1 S, l_66_2 S, o_l24 U, o_l25 U, o_l26 U, o_l27 U, rr_hg MA, rr_yr MA, rr_tn MA, rr_bu MA, m_pA U MA h40, m_pB U MA h40, m_pH U MA h40, m_pF U MA h40, m_pY U MA h40, m_faceOf S MF h8, m_looksOf S MF WF, m_alike S MF, m_has, ix0, ix8, ix16, o_l U, rr_mo MA, rr_tk MA, rr_sa MA, nn_le, nn_succ, bI_0, Int32.or_zero, Int32.add_zero, Int32.le_refl, f_X12_share_b91, eq_true hb, m_less, mn_comm (nn B)]
      · simp (disch := omega) only [bd_eq, pu_ap, if_true, if_false, not_true_eq_false, not_false_eq_true, eq_self, v_49 S, i_49_0 S, i_49_1 S, i_49_2 S, i_49_3 S, i_49_4 S, i_49_5 S, i_49_6 S, i_49_7 S, i_49_8 S, r_49_9 S, r_49_10 S, r_49_11 S, r_49_12 S, r_49_13 S, r_49_14 S, r_49_15 S, r_49_16 S, i_49_17 S, i_49_18 S, r_49_19 S, r_49_20 S, r_49_21 S, r_49_22 S, r_49_23 S, r_49_24 S, r_49_25 S, i_49_26 S, r_49_27 S, r_49_28 S, r_49_29 S, r_49_30 S, i_49_31 S, i_49_32 S, i_49_33 S, i_49_34 S, i_49_35 S, i_49_36 S, i_49_37 S, r_49_38 S, i_49_39 S, i_49_40 S, r_49_41 S, r_49_42 S, r_49_43 S, i_49_44 S, r_49_45 S, i_49_46 S, i_49_47 S, i_49_48 S, l_53_0 S, l_53_1 S, fm_sz MF, fm_ak MF, fm_fa MF, fm_te MF, fm_pr MF, fm_sy MF, l_55 S, g_65 S, l_66_0 S, l_66_1 S, l_66_2 S, o_l24 U, o_l25 U, o_l26 U, o_l27 U, rr_hg MA, rr_yr MA, rr_tn MA, rr_bu MA, m_pA U MA h40, m_pB U MA h40, m_pH U MA h40, m_pF U MA h40, m_pY U MA h40, m_faceOf S MF h8, m_looksOf S MF WF, m_alike S MF, m_has, ix0, ix8, ix16, o_l U, rr_mo MA, rr_tk MA, rr_sa MA, nn_le, nn_succ, bI_0, Int32.or_zero, Int32.add_zero, Int32.le_refl, f_X12_share_b91, eq_false hb]
    refine loopQ (fun N i (_ : Unit) => f_X12_share_b65 N 49 (nn p) s (nn n) (nn i) (st w I' J')) 40 (fun i _ => ∀ b, 1 ≤ b → b ≤ i → givP (dF D) s (nn b) ≤ nn n) (fun z => ∃ B, B ≤ 40 ∧ z = some (.inl (if bit s p then mn32 (nn (pr (dF D) p)) (nn B) else 0), st w I' J') ∧ (∀ b, 1 ≤ b → b ≤ B → givP (dF D) s (nn b) ≤ nn n) ∧ (B = 40 ∨ ¬ givP (dF D) s (nn (B + 1)) ≤ nn n)) ?_ ?_ 40 0 () NF (by omega) (NF_gt (by omega)) (fun b h1 h2 => by omega)
    · intro N i _ hi hP
      have h0 : ¬ (40 : Int32) ≤ nn i := by rw [show (40 : Int32) = nn 40 from rfl, nn_le (by omega) (by omega)]; omega
      by_cases hq : givP (dF D) s (nn (i + 1)) ≤ nn n
      · left
        have hq' : ¬ nn n < givP (dF D) s (nn (i + 1)) := Int32.not_lt.mpr hq
        refine ⟨(), ?_, fun b h1 h2 => ?_⟩
        · simp (disch := omega) only [bd_eq, pu_ap, if_true, if_false, not_true_eq_false, not_false_eq_true, eq_self, v_49 S, i_49_0 S, i_49_1 S, i_49_2 S, i_49_3 S, i_49_4 S, i_49_5 S, i_49_6 S, i_49_7 S, i_49_8 S, r_49_9 S, r_49_10 S, r_49_11 S, r_49_12 S, r_49_13 S, r_49_14 S, r_49_15 S, r_49_16 S, i_49_17 S, i_49_18 S, r_49_19 S, r_49_20 S, r_49_21 S, r_49_22 S, r_49_23 S, r_49_24 S, r_49_25 S, i_49_26 S, r_49_27 S, r_49_28 S, r_49_29 S, r_49_30 S, i_49_31 S, i_49_32 S, i_49_33 S, i_49_34 S, i_49_35 S, i_49_36 S, i_49_37 S, r_49_38 S, i_49_39 S, i_49_40 S, r_49_41 S, r_49_42 S, r_49_43 S, i_49_44 S, r_49_45 S, i_49_46 S, i_49_47 S, i_49_48 S, l_53_0 S, l_53_1 S, fm_sz MF, fm_ak MF, fm_fa MF, fm_te MF, fm_pr MF, fm_sy MF, l_55 S, g_65 S, l_66_0 S, l_66_1 S, l_66_2 S, o_l24 U, o_l25 U, o_l26 U, o_l27 U, rr_hg MA, rr_yr MA, rr_tn MA, rr_bu MA, m_pA U MA h40, m_pB U MA h40, m_pH U MA h40, m_pF U MA h40, m_pY U MA h40, m_faceOf S MF h8, m_looksOf S MF WF, m_alike S MF, m_has, ix0, ix8, ix16, o_l U, rr_mo MA, rr_tk MA, rr_sa MA, nn_le, nn_succ, bI_0, Int32.or_zero, Int32.add_zero, Int32.le_refl, f_X12_share_b65, h0, m_given S MF h8, hq']
        · by_cases e : b = i + 1
          · rw [e]; exact hq
          · exact hP b h1 (by omega)
      · right
        have hq' : nn n < givP (dF D) s (nn (i + 1)) := Int32.not_le.mp hq
        refine ⟨i, by omega, ?_, hP, Or.inr hq⟩
        rw [← fin i]
        simp (disch := omega) only [bd_eq, pu_ap, if_true, if_false, not_true_eq_false, not_false_eq_true, eq_self, v_49 S, i_49_0 S, i_49_1 S, i_49_2 S, i_49_3 S, i_49_4 S, i_49_5 S, i_49_6 S, i_49_7 S, i_49_8 S, r_49_9 S, r_49_10 S, r_49_11 S, r_49_12 S, r_49_13 S, r_49_14 S, r_49_15 S, r_49_16 S, i_49_17 S, i_49_18 S, r_49_19 S, r_49_20 S, r_49_21 S, r_49_22 S, r_49_23 S, r_49_24 S, r_49_25 S, i_49_26 S, r_49_27 S, r_49_28 S, r_49_29 S, r_49_30 S, i_49_31 S, i_49_32 S, i_49_33 S, i_49_34 S, i_49_35 S, i_49_36 S, i_49_37 S, r_49_38 S, i_49_39 S, i_49_40 S, r_49_41 S, r_49_42 S, r_49_43 S, i_49_44 S, r_49_45 S, i_49_46 S, i_49_47 S, i_49_48 S, l_53_0 S, l_53_1 S, fm_sz MF, fm_ak MF, fm_fa MF, fm_te MF, fm_pr MF, fm_sy MF, l_55 S, g_65 S, l_66_0 S, l_66_1 S, l_66_2 S, o_l24 U, o_l25 U, o_l26 U, o_l27 U, rr_hg MA, rr_yr MA, rr_tn MA, rr_bu MA, m_pA U MA h40, m_pB U MA h40, m_pH U MA h40, m_pF U MA h40, m_pY U MA h40, m_faceOf S MF h8, m_looksOf S MF WF, m_alike S MF, m_has, ix0, ix8, ix16, o_l U, rr_mo MA, rr_tk MA, rr_sa MA, nn_le, nn_succ, bI_0, Int32.or_zero, Int32.add_zero, Int32.le_refl, f_X12_share_b65, h0, m_given S MF h8, hq']
    · intro N _ hP
      refine ⟨40, by omega, ?_, hP, Or.inl rfl⟩
      rw [← fin 40]
      simp (disch := omega) only [bd_eq, pu_ap, if_true, if_false, not_true_eq_false, not_false_eq_true, eq_self, v_49 S, i_49_0 S, i_49_1 S, i_49_2 S, i_49_3 S, i_49_4 S, i_49_5 S, i_49_6 S, i_49_7 S, i_49_8 S, r_49_9 S, r_49_10 S, r_49_11 S, r_49_12 S, r_49_13 S, r_49_14 S, r_49_15 S, r_49_16 S, i_49_17 S, i_49_18 S, r_49_19 S, r_49_20 S, r_49_21 S, r_49_22 S, r_49_23 S, r_49_24 S, r_49_25 S, i_49_26 S, r_49_27 S, r_49_28 S, r_49_29 S, r_49_30 S, i_49_31 S, i_49_32 S, i_49_33 S, i_49_34 S, i_49_35 S, i_49_36 S, i_49_37 S, r_49_38 S, i_49_39 S, i_49_40 S, r_49_41 S, r_49_42 S, r_49_43 S, i_49_44 S, r_49_45 S, i_49_46 S, i_49_47 S, i_49_48 S, l_53_0 S, l_53_1 S, fm_sz MF, fm_ak MF, fm_fa MF, fm_te MF, fm_pr MF, fm_sy MF, l_55 S, g_65 S, l_66_0 S, l_66_1 S, l_66_2 S, o_l24 U, o_l25 U, o_l26 U, o_l27 U, rr_hg MA, rr_yr MA, rr_tn MA, rr_bu MA, m_pA U MA h40, m_pB U MA h40, m_pH U MA h40, m_pF U MA h40, m_pY U MA h40, m_faceOf S MF h8, m_looksOf S MF WF, m_alike S MF, m_has, ix0, ix8, ix16, o_l U, rr_mo MA, rr_tk MA, rr_sa MA, nn_le, nn_succ, bI_0, Int32.or_zero, Int32.add_zero, Int32.le_refl, f_X12_share_b65, show ((40 : Int32) ≤ nn 40) = True from by decide]
  obtain ⟨B, hB, e1, p1, p2⟩ := lc
  obtain ⟨C, hC, e2, q1, q2⟩ := lm
  have hBC : B = C := by
    rcases Nat.lt_trichotomy B C with h | h | h
    · exact absurd (q1 C (by omega) (Nat.le_refl _)) (p2 C h hC)
    · exact h
    · exfalso
      have h1 := p1.resolve_left (by omega)
      have h2 := q2.resolve_left (by omega)
      exact h2 (Int32.le_trans (mono (C + 1) B (by omega) hB) h1)
  subst hBC
  by_cases hb : bit s p
  · rw [if_pos hb] at e2
    have hb' : ¬ ((s >>> (nn p &&& 31)) &&& 1) = 0 := fun q => bit0.2 q hb
    refine QQ.mk _ ?_ e2
    rw [if_neg hb']
    exact e1
  · rw [if_neg hb] at e2
    refine QQ.mk _ ?_ e2
    rw [if_pos (bit0.1 hb)]
    rfl
end Q3
