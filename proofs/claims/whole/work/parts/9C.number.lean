/-! PURE PART: a number in a text, in both -/
def gE (b : Nat → Nat) (n s : Nat) : Nat := sc (isD b) n s
def vl (b : Nat → Nat) (s : Nat) : Nat → Nat
  | 0 => 0
  | k + 1 => 10 * vl b s k + (b (s + k) - 48)
def cvl (b : Nat → Nat) (s : Nat) : Nat → Nat
  | 0 => 0
  | k + 1 => if cvl b s k < 10000 then cvl b s k * 10 + b (s + k) - 48 else cvl b s k
def mvl (b : Nat → Nat) (s : Nat) : Nat → Nat
  | 0 => 0
  | k + 1 => min (10 * mvl b s k + b (s + k) - 48) 100000
theorem vls {b : Nat → Nat} {s : Nat} : ∀ k, (∀ j, j < k → 48 ≤ b (s + j) ∧ b (s + j) ≤ 57) → (vl b s k < 10000 ∧ cvl b s k = vl b s k ∧ mvl b s k = vl b s k ∨ 10000 ≤ vl b s k ∧ 10000 ≤ cvl b s k ∧ 10000 ≤ mvl b s k) ∧ cvl b s k < 100000 ∧ mvl b s k ≤ 100000
  | 0, _ => ⟨Or.inl ⟨by show 0 < 10000; omega, rfl, rfl⟩, by show 0 < 100000; omega, by show 0 ≤ 100000; omega⟩
  | k + 1, h => by
    obtain ⟨ih, i1, i2⟩ := vls (b := b) (s := s) k fun j hj => h j (by omega)
    have hk := h k (by omega)
    show (10 * vl b s k + (b (s + k) - 48) < 10000 ∧ (if cvl b s k < 10000 then cvl b s k * 10 + b (s + k) - 48 else cvl b s k) = 10 * vl b s k + (b (s + k) - 48) ∧ min (10 * mvl b s k + b (s + k) - 48) 100000 = 10 * vl b s k + (b (s + k) - 48) ∨ 10000 ≤ 10 * vl b s k + (b (s + k) - 48) ∧ 10000 ≤ (if cvl b s k < 10000 then cvl b s k * 10 + b (s + k) - 48 else cvl b s k) ∧ 10000 ≤ min (10 * mvl b s k + b (s + k) - 48) 100000) ∧ (if cvl b s k < 10000 then cvl b s k * 10 + b (s + k) - 48 else cvl b s k) < 100000 ∧ min (10 * mvl b s k + b (s + k) - 48) 100000 ≤ 100000
    rcases ih with ⟨q1, q2, q3⟩ | ⟨q1, q2, q3⟩
    · rw [if_pos (by omega)]
      omega
    · split <;> omega
/-- the number that stands at s, its end -/
def nuV (b : Nat → Nat) (n s : Nat) : Nat := vl b s (gE b n s - s)
theorem gE_d {b : Nat → Nat} {n s : Nat} {j : Nat} (hj : j < gE b n s - s) : 48 ≤ b (s + j) ∧ b (s + j) ≤ 57 := by
  have := sc_in (f := isD b) (n := n) (p := s) (q := s + j) (by omega) (by unfold gE at hj; omega)
  unfold isD at this
  simpa using this
theorem gE_e {b : Nat → Nat} {n s : Nat} (hs : s ≤ n) (h : gE b n s < n) : ¬ (48 ≤ b (gE b n s) ∧ b (gE b n s) ≤ 57) := by
  have := sc_end (f := isD b) hs h
  intro q
  refine this ?_
  show (decide (48 ≤ b (gE b n s)) && decide (b (gE b n s) ≤ 57)) = true
  rw [decide_eq_true q.1, decide_eq_true q.2]
  rfl
section NUMBER
variable {w : Wd} {I : Is} {J : Js} {b : Nat → Nat} {n : Nat}
theorem c_numL (S : Sw w) (W : TxW b n) {s : Nat} (hs : s ≤ n) (T : TxC I b n) (x : Int32) : f_X8_number_b14 NF 1 x 0 (st w (up2 I 1 3 (nn s)) J) = f_X8_number_b78 1 x (nn (cvl b s (gE b n s - s))) (st w (up2 I 1 3 (nn (gE b n s))) J) := by
  have hn := W.1
  obtain ⟨g1, g2⟩ := sc_ge (f := isD b) hs
  have g1 : s ≤ gE b n s := g1
  have g2 : gE b n s ≤ n := g2
  have T' : ∀ v, TxC (up2 I 1 3 v) b n := fun v => T.up ⟨by decide, Or.inr (by decide)⟩
  have fin : f_X8_number_b78 1 x (nn (cvl b s (gE b n s - s))) (st w (up2 I 1 3 (nn (gE b n s))) J) = f_X8_number_b78 1 x (nn (cvl b s (gE b n s - s))) (st w (up2 I 1 3 (nn (s + (gE b n s - s)))) J) := by rw [show s + (gE b n s - s) = gE b n s by omega]
  rw [fin]
  have key := loopQ (fun N i (_ : Unit) => f_X8_number_b14 N 1 x (nn (cvl b s i)) (st w (up2 I 1 3 (nn (s + i))) J)) (gE b n s - s) (fun _ _ => True) (fun z => z = f_X8_number_b78 1 x (nn (cvl b s (gE b n s - s))) (st w (up2 I 1 3 (nn (s + (gE b n s - s)))) J)) ?_ ?_ (gE b n s - s) 0 () NF (by omega) (NF_gt (by omega)) trivial
  · exact key
  · intro N i _ hi _
    left
    have hd := gE_d (b := b) (n := n) (s := s) hi
    have hb := W.2 (s + i) (by omega)
    have cb := (vls (b := b) (s := s) i fun j hj => gE_d (n := n) (by omega)).2.1
    have i3 := i_1_3 (I := up2 I 1 3 (nn (s + i))) (J := J) S
    rw [up2_s] at i3
    have i2 := i_1_2 (I := up2 I 1 3 (nn (s + i))) (J := J) S
    rw [(T' _).1] at i2
    have l := l_2 (I := up2 I 1 3 (nn (s + i))) (J := J) (k := s + i) S (by omega)
    rw [(T' _).2 _ (by omega)] at l
    have sxn : sx (b (s + i)) = nn (b (s + i)) := (sx_d _ hb).2.1 hd
    refine ⟨(), ?_, trivial⟩
    show f_X8_number_b14 (N + 1) 1 x (nn (cvl b s i)) (st w (up2 I 1 3 (nn (s + i))) J) = f_X8_number_b14 N 1 x (nn (cvl b s (i + 1))) (st w (up2 I 1 3 (nn (s + (i + 1)))) J)
    rw [f_X8_number_b14, bd_st i3, bd_st i2, if_neg (by rw [nn_le (by omega) (by omega)]; omega), bd_st (r_1_0 S), bd_st i3, bd_st l, bd_st (c_isD hb), bI_t hd, if_neg (by decide)]
    have q : ((10000 : Int32) ≤ nn (cvl b s i)) = (10000 ≤ cvl b s i) := nn_le (a := 10000) (by omega) (by omega)
    show _ = f_X8_number_b14 N 1 x (nn (if cvl b s i < 10000 then cvl b s i * 10 + b (s + i) - 48 else cvl b s i)) _
    by_cases h : cvl b s i < 10000
    · have ev : ((nn (cvl b s i) * 10) + sx (b (s + i))) - 48 = nn (cvl b s i * 10 + b (s + i) - 48) := by
        rw [sxn, show (10 : Int32) = nn 10 from rfl, show (48 : Int32) = nn 48 from rfl, nn_mul, nn_add, nn_sub (by omega)]
      rw [if_neg (by rw [q]; omega), bd_st (r_1_0 S), bd_st i3, bd_st l, ev, if_pos h, f_X8_number_b65, bd_st i3, nn_succ, bd_st (w_1_3 S), up2_2, Nat.add_assoc]
    · rw [if_pos (by rw [q]; omega), if_neg h, f_X8_number_b65, bd_st i3, nn_succ, bd_st (w_1_3 S), up2_2, Nat.add_assoc]
  · intro N _ _
    have i3 := i_1_3 (I := up2 I 1 3 (nn (s + (gE b n s - s)))) (J := J) S
    rw [up2_s] at i3
    have i2 := i_1_2 (I := up2 I 1 3 (nn (s + (gE b n s - s)))) (J := J) S
    rw [(T' _).1] at i2
    show f_X8_number_b14 (N + 1) 1 x (nn (cvl b s (gE b n s - s))) (st w (up2 I 1 3 (nn (s + (gE b n s - s)))) J) = _
    rw [f_X8_number_b14, bd_st i3, bd_st i2]
    by_cases h : gE b n s < n
    · have hd := gE_e hs h
      have hb := W.2 _ h
      have l := l_2 (I := up2 I 1 3 (nn (s + (gE b n s - s)))) (J := J) (k := s + (gE b n s - s)) S (by omega)
      rw [(T' _).2 _ (by omega)] at l
      have e : s + (gE b n s - s) = gE b n s := by omega
      rw [if_neg (by rw [nn_le (by omega) (by omega)]; omega), bd_st (r_1_0 S), bd_st i3, bd_st l, e, bd_st (c_isD hb), bI_f hd, if_pos rfl]
    · rw [if_pos (by rw [nn_le (by omega) (by omega)]; omega)]
theorem c_num (S : Sw w) (W : TxW b n) {p m : Nat} (hp : p ≤ n) (T : TxC I b n) (h3 : I 1 3 = nn p) (hm : m ≤ 1000) :
    (sk b n p < gE b n (sk b n p) ∧ nuV b n (sk b n p) < m → f_X8_number 1 (nn m - 1) (st w I J) = some (.inl (nn (nuV b n (sk b n p))), st w (up2 (up2 I 1 4 (nn (sk b n p))) 1 3 (nn (gE b n (sk b n p)))) J)) ∧
    (¬ (sk b n p < gE b n (sk b n p) ∧ nuV b n (sk b n p) < m) → f_X8_number 1 (nn m - 1) (st w I J) = some (.inl (-1), st w (up2 (up2 (up2 (up2 I 1 4 (nn (sk b n p))) 1 3 (nn (gE b n (sk b n p)))) 1 5 (if sk b n p < gE b n (sk b n p) then 2 else 1)) 1 6 (nn (sk b n p))) J)) := by
  have hn := W.1
  obtain ⟨s, hs⟩ : ∃ s, s = sk b n p := ⟨_, rfl⟩
  have g : s ≤ n := by rw [hs]; exact (sc_ge hp).2
  have e0 := (v_1 S (F := f_X8_skipBlanks 1)).trans (c_skipB (J := J) S W hp T h3)
  rw [← hs] at e0 ⊢
  obtain ⟨g1, g2⟩ := sc_ge (f := isD b) g
  have g1 : s ≤ gE b n s := g1
  have g2 : gE b n s ≤ n := g2
  have i3 := i_1_3 (I := up2 I 1 3 (nn s)) (J := J) S
  rw [up2_s] at i3
  have cm : up2 (up2 I 1 3 (nn s)) 1 4 (nn s) = up2 (up2 I 1 4 (nn s)) 1 3 (nn s) := up2_cm (by decide)
  have T4 : TxC (up2 I 1 4 (nn s)) b n := T.up ⟨by decide, Or.inr (by decide)⟩
  have e1 : ∀ x, f_X8_number 1 x (st w I J) = f_X8_number_b78 1 x (nn (cvl b s (gE b n s - s))) (st w (up2 (up2 I 1 4 (nn s)) 1 3 (nn (gE b n s))) J) := fun x => by
    rw [f_X8_number, bd_st e0, bd_st i3, bd_st (w_1_4 S), cm]
    exact c_numL S W g T4 x
  have v3 := i_1_3 (I := up2 (up2 I 1 4 (nn s)) 1 3 (nn (gE b n s))) (J := J) S
  rw [up2_s] at v3
  have v4 := i_1_4 (I := up2 (up2 I 1 4 (nn s)) 1 3 (nn (gE b n s))) (J := J) S
  rw [up2_k (by decide), up2_s] at v4
  have fl1 : ∀ x, f_X8_fail 1 x (nn s) (st w (up2 (up2 I 1 4 (nn s)) 1 3 (nn (gE b n s))) J) = some (.inl 0, st w (up2 (up2 (up2 (up2 I 1 4 (nn s)) 1 3 (nn (gE b n s))) 1 5 x) 1 6 (nn s)) J) := fun x => by rw [f_X8_fail, bd_st (w_1_5 S), bd_st (w_1_6 S)]; rfl
  obtain ⟨vq, vc, -⟩ := vls (b := b) (s := s) (gE b n s - s) fun j hj => gE_d (n := n) hj
  have qe : (nn (gE b n s) = nn s) = (gE b n s = s) := nn_eq (by omega) (by omega)
  have ql : (nn (cvl b s (gE b n s - s)) ≤ nn m - 1) = (cvl b s (gE b n s - s) < m) := by
    have h0 : ¬ nn (cvl b s (gE b n s - s)) < 0 := nn_nneg (by omega)
    have h1 := nn_le_pred (show m < 2147483648 by omega) _ h0
    apply propext
    rw [← Int32.not_lt, h1, nn_le (by omega) (by omega)]
    omega
  have uv : nuV b n s = vl b s (gE b n s - s) := rfl
  constructor
  · intro h
    rw [e1, f_X8_number_b78, bd_st v3, bd_st v4, if_neg (by rw [qe]; omega), if_pos (by rw [ql]; omega)]
    show some (Sum.inl (nn (cvl b s (gE b n s - s))), _) = _
    rw [show cvl b s (gE b n s - s) = nuV b n s by omega]
  · intro h
    rw [e1, f_X8_number_b78, bd_st v3, bd_st v4]
    by_cases hse : s < gE b n s
    · rw [if_neg (by rw [qe]; omega), if_neg (by rw [ql]; omega), bd_st v4, bd_st ((v_1 S).trans (fl1 2)), if_pos hse]
      rfl
    · rw [if_pos (by rw [qe]; omega), bd_st v4, bd_st ((v_1 S).trans (fl1 1)), if_neg hse]
      rfl
-- the model
theorem m_numF (S : Sw w) (h5 : ¬ I 49 5 = 0) (x y : Int32) : f_X12_number 49 x y (st w I J) = some (.inl 0, st w I J) := by
  rw [f_X12_number, bd_st (i_49_5 S), if_neg h5]
  rfl
/-- the model's loop over digits, whatever the fault -/
theorem m_numL (S : Sw w) (W : TxW b n) {s : Nat} (hs : s ≤ n) (T : TxM I b n) (x y z : Int32) : f_X12_number_b44 NF 49 x y z 0 (st w (up2 I 49 4 (nn s)) J) = (bd (f_X12_in (nn (mvl b s (gE b n s - s))) x y) fun v6 => if (v6 = 0 : Prop) then (bd (cv 12 49 (f_X12_wrong 49 2 z)) fun _ => f_X12_number_b122 49 (nn (mvl b s (gE b n s - s)))) else f_X12_number_b122 49 (nn (mvl b s (gE b n s - s)))) (st w (up2 I 49 4 (nn (gE b n s))) J) := by
  have hn := W.1
  obtain ⟨g1, g2⟩ := sc_ge (f := isD b) hs
  have g1 : s ≤ gE b n s := g1
  have g2 : gE b n s ≤ n := g2
  have T' : ∀ v, TxM (up2 I 49 4 v) b n := fun v => T.up ⟨by decide, Or.inr (by decide)⟩
  have es : s + (gE b n s - s) = gE b n s := by omega
  have key := loopQ (fun N i (_ : Unit) => f_X12_number_b44 N 49 x y z (nn (mvl b s i)) (st w (up2 I 49 4 (nn (s + i))) J)) (gE b n s - s) (fun _ _ => True) (fun r => r = (bd (f_X12_in (nn (mvl b s (gE b n s - s))) x y) fun v6 => if (v6 = 0 : Prop) then (bd (cv 12 49 (f_X12_wrong 49 2 z)) fun _ => f_X12_number_b122 49 (nn (mvl b s (gE b n s - s)))) else f_X12_number_b122 49 (nn (mvl b s (gE b n s - s)))) (st w (up2 I 49 4 (nn (gE b n s))) J)) ?_ ?_ (gE b n s - s) 0 () NF (by omega) (NF_gt (by omega)) trivial
  · exact key
  · intro N i _ hi _
    left
    have hd := gE_d (b := b) (n := n) (s := s) hi
    have hb := W.2 (s + i) (by omega)
    have cb := (vls (b := b) (s := s) i fun j hj => gE_d (n := n) (by omega)).2.2
    have i3 := i_49_4 (I := up2 I 49 4 (nn (s + i))) (J := J) S
    rw [up2_s] at i3
    have by0 := (v_49 S (F := f_X12_byteAt 49 (nn (s + i)))).trans (m_byte (J := J) S (T' (nn (s + i))) hn (show s + i < 100000 by omega))
    rw [show byM b n (s + i) = nn (b (s + i)) from if_pos (by omega)] at by0
    have ev : (((10 : Int32) * nn (mvl b s i)) + nn (b (s + i))) - 48 = nn (10 * mvl b s i + b (s + i) - 48) := by
      rw [show (10 : Int32) = nn 10 from rfl, show (48 : Int32) = nn 48 from rfl, nn_mul, nn_add, nn_sub (by omega)]
    have q : (nn (10 * mvl b s i + b (s + i) - 48) ≤ (100000 : Int32)) = (10 * mvl b s i + b (s + i) - 48 ≤ 100000) := nn_le (b := 100000) (by omega) (by omega)
    refine ⟨(), ?_, trivial⟩
    show f_X12_number_b44 (N + 1) 49 x y z (nn (mvl b s i)) (st w (up2 I 49 4 (nn (s + i))) J) = f_X12_number_b44 N 49 x y z (nn (min (10 * mvl b s i + b (s + i) - 48) 100000)) (st w (up2 I 49 4 (nn (s + (i + 1)))) J)
    rw [f_X12_number_b44, bd_st i3, bd_st by0, bd_st (m_isD hb), bI_t hd, if_neg (by decide), bd_st i3, bd_st by0, ev]
    by_cases h : 10 * mvl b s i + b (s + i) - 48 ≤ 100000
    · rw [if_pos (by rw [q]; exact h), f_X12_number_b91, bd_st i3, nn_succ, bd_st (w_49_4 S), up2_2, Nat.min_eq_left h, Nat.add_assoc]
    · rw [if_neg (by rw [q]; exact h), f_X12_number_b91, bd_st i3, nn_succ, bd_st (w_49_4 S), up2_2, Nat.min_eq_right (by omega), Nat.add_assoc]
      rfl
  · intro N _ _
    have i3 := i_49_4 (I := up2 I 49 4 (nn (s + (gE b n s - s)))) (J := J) S
    rw [up2_s] at i3
    show f_X12_number_b44 (N + 1) 49 x y z (nn (mvl b s (gE b n s - s))) (st w (up2 I 49 4 (nn (s + (gE b n s - s)))) J) = _
    rw [es] at i3 ⊢
    have by0 := (v_49 S (F := f_X12_byteAt 49 (nn (gE b n s)))).trans (m_byte (J := J) S (T' (nn (gE b n s))) hn (show gE b n s < 100000 by omega))
    rw [f_X12_number_b44, bd_st i3, bd_st by0]
    by_cases h : gE b n s < n
    · have hd := gE_e hs h
      rw [show byM b n (gE b n s) = nn (b (gE b n s)) from if_pos h, bd_st (m_isD (W.2 _ h)), bI_f hd, if_pos rfl]
    · rw [show byM b n (gE b n s) = -1 from if_neg h, bd_st m_isD1, if_pos rfl]
theorem m_num (S : Sw w) (W : TxW b n) {p m : Nat} (hp : p ≤ n) (T : TxM I b n) (h3 : I 49 4 = nn p) (h5 : I 49 5 = 0) (hm : m ≤ 1000) :
    (sk b n p < gE b n (sk b n p) ∧ nuV b n (sk b n p) < m → f_X12_number 49 0 (nn m - 1) (st w I J) = some (.inl (nn (nuV b n (sk b n p))), st w (up2 I 49 4 (nn (gE b n (sk b n p)))) J)) ∧
    (¬ (sk b n p < gE b n (sk b n p) ∧ nuV b n (sk b n p) < m) → f_X12_number 49 0 (nn m - 1) (st w I J) = some (.inl 0, st w (up2 (up2 (up2 I 49 4 (nn (gE b n (sk b n p)))) 49 5 (if sk b n p < gE b n (sk b n p) then 2 else 1)) 49 6 (nn (sk b n p))) J)) := by
  have hn := W.1
  obtain ⟨s, hs⟩ : ∃ s, s = sk b n p := ⟨_, rfl⟩
  have g : s ≤ n := by rw [hs]; exact (sc_ge hp).2
  have e0 := (v_49 S (F := f_X12_blanks 49)).trans (m_blanks (J := J) S W hp T h3)
  rw [← hs] at e0 ⊢
  obtain ⟨g1, g2⟩ := sc_ge (f := isD b) g
  have g1 : s ≤ gE b n s := g1
  have g2 : gE b n s ≤ n := g2
  have i3 := i_49_4 (I := up2 I 49 4 (nn s)) (J := J) S
  rw [up2_s] at i3
  have T4 : TxM (up2 I 49 4 (nn s)) b n := T.up ⟨by decide, Or.inr (by decide)⟩
  have by0 := (v_49 S (F := f_X12_byteAt 49 (nn s))).trans (m_byte (J := J) S T4 hn (show s < 100000 by omega))
  obtain ⟨vq, -, vm⟩ := vls (b := b) (s := s) (gE b n s - s) fun j hj => gE_d (n := n) hj
  have uv : nuV b n s = vl b s (gE b n s - s) := rfl
  by_cases hse : s < gE b n s
  · have hd := gE_d (b := b) (n := n) (s := s) (j := 0) (by omega)
    rw [Nat.add_zero] at hd
    have e1 : f_X12_number 49 0 (nn m - 1) (st w I J) = _ := (show f_X12_number 49 0 (nn m - 1) (st w I J) = f_X12_number_b44 NF 49 0 (nn m - 1) (nn s) 0 (st w (up2 I 49 4 (nn s)) J) from by
      rw [f_X12_number, bd_st (i_49_5 S), if_pos h5, bd_st e0, bd_st i3, bd_st i3, bd_st by0, show byM b n s = nn (b s) from if_pos (by omega), bd_st (m_isD (W.2 s (by omega))), bI_t hd, if_neg (by decide)]).trans (m_numL S W g T 0 (nn m - 1) (nn s))
    have k5 : up2 I 49 4 (nn (gE b n s)) 49 5 = 0 := by rw [up2_k (by decide)]; exact h5
    constructor
    · intro h
      have hv : mvl b s (gE b n s - s) = nuV b n s := by omega
      rw [e1, hv, bd_st (mi_ok (by omega) h.2), if_neg (by decide), f_X12_number_b122, bd_st (i_49_5 S), k5, if_pos rfl]
      rfl
    · intro h
      have hv : ¬ inP m (nn (mvl b s (gE b n s - s))) := by
        rintro ⟨k, hk, e⟩
        rw [nn_eq (by omega) (by omega)] at e
        omega
      rw [e1, bd_st (mi_no (by omega) hv), if_pos rfl, bd_st ((v_49 S).trans (m_wrong S k5 2 (nn s))), f_X12_number_b122, bd_st (i_49_5 S), up2_k (by decide), up2_s, if_neg (by decide), if_pos hse]
      rfl
  · have ee : gE b n s = s := by omega
    refine ⟨fun h => by omega, fun h => ?_⟩
    have hnd : ∀ {σ : PS}, f_X12_isDigit (byM b n s) σ = some (.inl 0, σ) := by
      intro σ
      by_cases h' : s < n
      · have hd := gE_e g (by omega : gE b n s < n)
        rw [ee] at hd
        rw [show byM b n s = nn (b s) from if_pos h', m_isD (W.2 s h'), bI_f hd]
      · rw [show byM b n s = -1 from if_neg h']
        exact m_isD1
    have k5 : up2 I 49 4 (nn s) 49 5 = 0 := by rw [up2_k (by decide)]; exact h5
    have T6 : TxM (up2 (up2 I 49 5 1) 49 6 (nn s)) b n := (T.up ⟨by decide, Or.inr (by decide)⟩).up ⟨by decide, Or.inr (by decide)⟩
    have cm : up2 (up2 (up2 I 49 4 (nn s)) 49 5 1) 49 6 (nn s) = up2 (up2 (up2 I 49 5 1) 49 6 (nn s)) 49 4 (nn s) := by
      rw [up2_cm (k := 4) (k' := 5) (by decide), up2_cm (k := 4) (k' := 6) (by decide)]
    have e1 : f_X12_number 49 0 (nn m - 1) (st w I J) = _ := (show f_X12_number 49 0 (nn m - 1) (st w I J) = f_X12_number_b44 NF 49 0 (nn m - 1) (nn s) 0 (st w (up2 (up2 (up2 I 49 5 1) 49 6 (nn s)) 49 4 (nn s)) J) from by
      rw [f_X12_number, bd_st (i_49_5 S), if_pos h5, bd_st e0, bd_st i3, bd_st i3, bd_st by0, bd_st hnd, if_pos rfl, bd_st i3, bd_st ((v_49 S).trans (m_wrong S k5 1 (nn s))), cm]).trans (m_numL S W g T6 0 (nn m - 1) (nn s))
    rw [e1, ee, Nat.sub_self, if_neg (by omega), cm]
    have j5 : up2 (up2 (up2 I 49 5 1) 49 6 (nn s)) 49 4 (nn s) 49 5 = 1 := by rw [up2_k (by decide), up2_k (by decide), up2_s]
    have fin : f_X12_number_b122 49 (nn (mvl b s 0)) (st w (up2 (up2 (up2 I 49 5 1) 49 6 (nn s)) 49 4 (nn s)) J) = some (.inl 0, st w (up2 (up2 (up2 I 49 5 1) 49 6 (nn s)) 49 4 (nn s)) J) := by
      rw [f_X12_number_b122, bd_st (i_49_5 S), j5, if_neg (by decide)]
      rfl
    by_cases hm0 : inP m (nn (mvl b s 0))
    · obtain ⟨k, hk, e⟩ := hm0
      rw [e] at fin ⊢
      rw [bd_st (mi_ok (by omega) hk), if_neg (by decide)]
      exact fin
    · rw [bd_st (mi_no (by omega) hm0), if_pos rfl, bd_st ((v_49 S).trans (show f_X12_wrong 49 2 (nn s) (st w (up2 (up2 (up2 I 49 5 1) 49 6 (nn s)) 49 4 (nn s)) J) = some (.inl (), st w (up2 (up2 (up2 I 49 5 1) 49 6 (nn s)) 49 4 (nn s)) J) from by rw [f_X12_wrong, bd_st (i_49_5 S), j5, if_neg (by decide)]; rfl))]
      exact fin
end NUMBER
