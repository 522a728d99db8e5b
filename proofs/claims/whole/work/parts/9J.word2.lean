/-! PURE PART: a known word, both sides -/
def cod (g : Nat → Nat) : Nat → Nat
  | 0 => 0
  | j + 1 => 27 * cod g j + g j
theorem cod_b {g : Nat → Nat} : ∀ j, (∀ i, i < j → g i ≤ 26) → cod g j < 27 ^ j
  | 0, _ => Nat.lt_succ_self 0
  | j + 1, h => by
    have a := cod_b j fun i hi => h i (by omega)
    have b := h j (by omega)
    show 27 * cod g j + g j < 27 ^ (j + 1)
    rw [Nat.pow_succ]
    omega
theorem cod_6 {g : Nat → Nat} {j : Nat} (hj : j ≤ 6) (h : ∀ i, i < j → g i ≤ 26) : cod g j < 387420489 :=
  Nat.lt_of_lt_of_le (cod_b j h) (Nat.le_trans (Nat.pow_le_pow_right (by decide) hj) (by decide))
theorem cod_inj {g g' : Nat → Nat} : ∀ j j', (∀ i, i < j → 1 ≤ g i ∧ g i ≤ 26) → (∀ i, i < j' → 1 ≤ g' i ∧ g' i ≤ 26) → cod g j = cod g' j' → j = j' ∧ ∀ i, i < j → g i = g' i
  | 0, 0, _, _, _ => ⟨rfl, fun i hi => absurd hi (Nat.not_lt_zero _)⟩
  | 0, j' + 1, _, h', e => by
    have := h' j' (by omega)
    have e : 0 = 27 * cod g' j' + g' j' := e
    omega
  | j + 1, 0, h, _, e => by
    have := h j (by omega)
    have e : 27 * cod g j + g j = 0 := e
    omega
  | j + 1, j' + 1, h, h', e => by
    have a := h j (by omega)
    have a' := h' j' (by omega)
    have e : 27 * cod g j + g j = 27 * cod g' j' + g' j' := e
    obtain ⟨r1, r2⟩ := cod_inj j j' (fun i hi => h i (by omega)) (fun i hi => h' i (by omega)) (by omega)
    refine ⟨by omega, fun i hi => ?_⟩
    by_cases q : i = j
    · rw [q]
      rw [← r1] at e
      have := r1
      subst this
      omega
    · exact r2 i (by omega)
theorem cod_cg {g g' : Nat → Nat} : ∀ j, (∀ i, i < j → g i = g' i) → cod g j = cod g' j
  | 0, _ => rfl
  | j + 1, h => by
    show 27 * cod g j + g j = 27 * cod g' j + g' j
    rw [cod_cg j fun i hi => h i (by omega), h j (by omega)]
/-- the model's number of a word -/
def wcM (b : Nat → Nat) (s e : Nat) : Int32 := if e - s ≤ 6 then nn (cod (fun i => b (s + i) - 96) (e - s)) else -1
def wcK (k f t : Nat) : Nat := cod (fun i => chL k (f + i) - 96) (t - f)
theorem wc_lk {k : Nat} {b : Nat → Nat} {s e f t : Nat} (h6 : t - f ≤ 6) (hc : ∀ i, i < t - f → 97 ≤ chL k (f + i) ∧ chL k (f + i) ≤ 122) (hb : ∀ c, s ≤ c → c < e → 97 ≤ b c ∧ b c ≤ 122) : samP k b s e f t ↔ wcM b s e = nn (wcK k f t) := by
  have d1 : ∀ i, i < e - s → 1 ≤ b (s + i) - 96 ∧ b (s + i) - 96 ≤ 26 := fun i hi => by
    have := hb (s + i) (by omega) (by omega)
    omega
  have d2 : ∀ i, i < t - f → 1 ≤ chL k (f + i) - 96 ∧ chL k (f + i) - 96 ≤ 26 := fun i hi => by
    have := hc i hi
    omega
  have b2 : cod (fun i => chL k (f + i) - 96) (t - f) < 387420489 := cod_6 h6 fun i hi => (d2 i hi).2
  unfold wcM wcK
  constructor
  · rintro ⟨q1, q2⟩
    rw [if_pos (by omega), q1, cod_cg (g' := fun i => chL k (f + i) - 96) (t - f) fun i hi => by rw [q2 i hi]]
  · intro q
    by_cases he : e - s ≤ 6
    · have b1 : cod (fun i => b (s + i) - 96) (e - s) < 387420489 := cod_6 he fun i hi => (d1 i hi).2
      rw [if_pos he, nn_eq (by omega) (by omega)] at q
      obtain ⟨r1, r2⟩ := cod_inj (e - s) (t - f) d1 d2 q
      refine ⟨r1, fun i hi => ?_⟩
      have a := r2 i (by omega)
      have a' := hb (s + i) (by omega) (by omega)
      have c' := hc i hi
      have a : b (s + i) - 96 = chL k (f + i) - 96 := a
      omega
    · rw [if_neg he] at q
      exact absurd q.symm (nn_ne_neg (by omega))
theorem sg_0 : sgO 0 0 [6, 10, 15] := by
  unfold sgO sgO sgO sgO
  decide +kernel
theorem sg_1 : sgO 1 0 [4, 11, 16, 23, 27, 32, 38, 43, 49, 54] := by
  refine ⟨by decide, by decide, by decide, by decide +kernel, by decide +kernel, ?_⟩
  refine ⟨by decide, by decide, by decide, by decide +kernel, by decide +kernel, ?_⟩
  refine ⟨by decide, by decide, by decide, by decide +kernel, by decide +kernel, ?_⟩
  refine ⟨by decide, by decide, by decide, by decide +kernel, by decide +kernel, ?_⟩
  refine ⟨by decide, by decide, by decide, by decide +kernel, by decide +kernel, ?_⟩
  refine ⟨by decide, by decide, by decide, by decide +kernel, by decide +kernel, ?_⟩
  refine ⟨by decide, by decide, by decide, by decide +kernel, by decide +kernel, ?_⟩
  refine ⟨by decide, by decide, by decide, by decide +kernel, by decide +kernel, ?_⟩
  refine ⟨by decide, by decide, by decide, by decide +kernel, by decide +kernel, ?_⟩
  refine ⟨by decide, by decide, by decide, by decide +kernel, by decide +kernel, ?_⟩
  exact rfl
theorem sg_2 : sgO 2 0 [4, 9, 14, 19, 25] := by
  unfold sgO sgO sgO sgO sgO sgO
  decide +kernel
section WORD2
variable {w : Wd} {I : Is} {J : Js} {b : Nat → Nat} {n : Nat}
theorem c_wdE (S : Sw w) (W : TxW b n) {s : Nat} (hs : s ≤ n) (T : TxC I b n) (k : Nat) : f_X8_word_b12 NF 1 k (st w (up2 I 1 3 (nn s)) J) = f_X8_word_b64 1 k (st w (up2 I 1 3 (nn (wE b n s))) J) := by
  have hn := W.1
  obtain ⟨g1, g2⟩ := wE_ge (b := b) hs
  have T' : ∀ v, TxC (up2 I 1 3 v) b n := fun v => T.up ⟨by decide, Or.inr (by decide)⟩
  have es : s + (wE b n s - s) = wE b n s := by omega
  have key := loopQ (fun N i (_ : Unit) => f_X8_word_b12 N 1 k (st w (up2 I 1 3 (nn (s + i))) J)) (wE b n s - s) (fun _ _ => True) (fun z => z = f_X8_word_b64 1 k (st w (up2 I 1 3 (nn (wE b n s))) J)) ?_ ?_ (wE b n s - s) 0 () NF (by omega) (NF_gt (by omega)) trivial
  · exact key
  · intro N i _ hi _
    left
    have hd := wE_in (b := b) (n := n) (s := s) (c := s + i) (by omega) (by omega)
    have hb := W.2 (s + i) (by omega)
    obtain ⟨q1, q2⟩ := (sx_d _ hb).2.2.2 hd
    have i3 := i_1_3 (I := up2 I 1 3 (nn (s + i))) (J := J) S
    rw [up2_s] at i3
    have i2 := i_1_2 (I := up2 I 1 3 (nn (s + i))) (J := J) S
    rw [(T' _).1] at i2
    have l := l_2 (I := up2 I 1 3 (nn (s + i))) (J := J) (k := s + i) S (by omega)
    rw [(T' _).2 _ (by omega)] at l
    refine ⟨(), ?_, trivial⟩
    show f_X8_word_b12 (N + 1) 1 k (st w (up2 I 1 3 (nn (s + i))) J) = f_X8_word_b12 N 1 k (st w (up2 I 1 3 (nn (s + (i + 1)))) J)
    rw [f_X8_word_b12, bd_st i3, bd_st i2, if_neg (by rw [nn_le (by omega) (by omega)]; omega), bd_st (r_1_0 S), bd_st i3, bd_st l, if_neg q1, bd_st (r_1_0 S), bd_st i3, bd_st l, if_neg q2, bd_st i3, nn_succ, bd_st (w_1_3 S), up2_2, Nat.add_assoc]
  · intro N _ _
    have i3 := i_1_3 (I := up2 I 1 3 (nn (wE b n s))) (J := J) S
    rw [up2_s] at i3
    have i2 := i_1_2 (I := up2 I 1 3 (nn (wE b n s))) (J := J) S
    rw [(T' _).1] at i2
    show f_X8_word_b12 (N + 1) 1 k (st w (up2 I 1 3 (nn (s + (wE b n s - s)))) J) = _
    rw [es, f_X8_word_b12, bd_st i3, bd_st i2]
    by_cases h : wE b n s < n
    · have hd := wE_e hs h
      have hb := W.2 _ h
      have l := l_2 (I := up2 I 1 3 (nn (wE b n s))) (J := J) (k := wE b n s) S (by omega)
      rw [(T' _).2 _ (by omega)] at l
      rw [if_neg (by rw [nn_le (by omega) (by omega)]; omega), bd_st (r_1_0 S), bd_st i3, bd_st l]
      by_cases q1 : sx (b (wE b n s)) < 97
      · rw [if_pos q1]
      · rw [if_neg q1, bd_st (r_1_0 S), bd_st i3, bd_st l, if_pos (Classical.byContradiction fun q2 => hd ((sx_d _ hb).2.2.1 ⟨q1, q2⟩))]
    · rw [if_pos (by rw [nn_le (by omega) (by omega)]; omega)]
/-- a known word, in the class -/
theorem c_word (S : Sw w) (W : TxW b n) {p k : Nat} (hk : k < 3) (hp : p ≤ n) (T : TxC I b n) (h3 : I 1 3 = nn p) {l : List Nat} (hl : sgO k 0 l) : f_X8_word 1 k (st w I J) = (match wIx k b (sk b n p) (wE b n (sk b n p)) 0 0 l with
      | some y => some (.inl (nn y), st w (up2 (up2 I 1 4 (nn (sk b n p))) 1 3 (nn (wE b n (sk b n p)))) J)
      | none => some (.inl (-1), st w (up2 (up2 (up2 (up2 I 1 4 (nn (sk b n p))) 1 3 (nn (wE b n (sk b n p)))) 1 5 1) 1 6 (nn (sk b n p))) J)) := by
  have hn := W.1
  have lb := ln_b k hk
  obtain ⟨s, hs⟩ : ∃ s, s = sk b n p := ⟨_, rfl⟩
  have g : s ≤ n := by rw [hs]; exact (sc_ge hp).2
  have e0 := (v_1 S (F := f_X8_skipBlanks 1)).trans (c_skipB (J := J) S W hp T h3)
  rw [← hs] at e0 ⊢
  have i3 := i_1_3 (I := up2 I 1 3 (nn s)) (J := J) S
  rw [up2_s] at i3
  have cm : up2 (up2 I 1 3 (nn s)) 1 4 (nn s) = up2 (up2 I 1 4 (nn s)) 1 3 (nn s) := up2_cm (by decide)
  have T4 : TxC (up2 I 1 4 (nn s)) b n := T.up ⟨by decide, Or.inr (by decide)⟩
  have gw := wE_ge (b := b) g
  rw [f_X8_word, bd_st e0, bd_st i3, bd_st (w_1_4 S), cm, c_wdE S W g T4, f_X8_word_b64]
  exact c_wdL S W (T4.up ⟨by decide, Or.inr (by decide)⟩) hk up2_s (by rw [up2_k (by decide), up2_s]) gw.1 gw.2 l 0 0 NF hl (by have := NF_gt (show lnL k + 2 < 10000 by omega); omega)
-- the model
theorem m_wdV (S : Sw w) (W : TxW b n) {s : Nat} (hs : s ≤ n) (T : TxM I b n) (h4 : I 49 4 = nn s) : f_X12_wordHere_b8 NF 49 0 0 (st w I J) = some (.inl (wcM b s (wE b n s)), st w I J) := by
  have hn := W.1
  obtain ⟨g1, g2⟩ := wE_ge (b := b) hs
  have i4 := i_49_4 (I := I) (J := J) S
  rw [h4] at i4
  obtain ⟨e, he⟩ : ∃ e, e = wE b n s := ⟨_, rfl⟩
  rw [← he] at g1 g2 ⊢
  have hd : ∀ i, i < e - s → 97 ≤ b (s + i) ∧ b (s + i) ≤ 122 := fun i hi => wE_in (n := n) (s := s) (by omega) (by omega)
  have sm6 : (6 : Int32) = nn 6 := rfl
  refine loopQ (fun N i (_ : Unit) => f_X12_wordHere_b8 N 49 (nn (cod (fun i => b (s + i) - 96) (min i 6))) (nn i) (st w I J)) (e - s) (fun _ _ => True) (fun z => z = some (.inl (wcM b s e), st w I J)) ?_ ?_ (e - s) 0 () NF (by omega) (NF_gt (by omega)) trivial
  · intro N i _ hi _
    left
    have hb := W.2 (s + i) (by omega)
    have by0 := (v_49 S (F := f_X12_byteAt 49 (nn (s + i)))).trans (m_byte (J := J) S T hn (show s + i < 100000 by omega))
    rw [show byM b n (s + i) = nn (b (s + i)) from if_pos (by omega)] at by0
    refine ⟨(), ?_, trivial⟩
    show f_X12_wordHere_b8 (N + 1) 49 (nn (cod (fun i => b (s + i) - 96) (min i 6))) (nn i) (st w I J) = f_X12_wordHere_b8 N 49 (nn (cod (fun i => b (s + i) - 96) (min (i + 1) 6))) (nn (i + 1)) (st w I J)
    rw [f_X12_wordHere_b8, bd_st i4, nn_add, bd_st by0, bd_st (m_isS hb), bI_t (hd i hi), if_neg (by decide)]
    by_cases q : 6 ≤ i
    · rw [if_pos (by rw [sm6, nn_le (by omega) (by omega)]; exact q), f_X12_wordHere_b54, nn_succ, Nat.min_eq_right q, Nat.min_eq_right (by omega)]
    · have ev : ((((27 : Int32) * nn (cod (fun i => b (s + i) - 96) (min i 6))) + nn (b (s + i))) - 97) + 1 = nn (cod (fun i => b (s + i) - 96) (min (i + 1) 6)) := by
        have hh := hd i hi
        rw [Nat.min_eq_left (show i ≤ 6 by omega), Nat.min_eq_left (show i + 1 ≤ 6 by omega), show (27 : Int32) = nn 27 from rfl, show (97 : Int32) = nn 97 from rfl, nn_mul, nn_add, nn_sub (by omega), nn_succ]
        show _ = nn (27 * cod (fun i => b (s + i) - 96) i + (b (s + i) - 96))
        congr 1
        omega
      rw [if_neg (by rw [sm6, nn_le (by omega) (by omega)]; exact q), bd_st i4, nn_add, bd_st by0, f_X12_wordHere_b54, nn_succ, ev]
  · intro N _ _
    show f_X12_wordHere_b8 (N + 1) 49 (nn (cod (fun i => b (s + i) - 96) (min (e - s) 6))) (nn (e - s)) (st w I J) = _
    have by0 := (v_49 S (F := f_X12_byteAt 49 (nn e))).trans (m_byte (J := J) S T hn (show e < 100000 by omega))
    have fs : ∀ {σ : PS}, f_X12_isSmall (byM b n e) σ = some (.inl 0, σ) := fun {σ} => by
      by_cases h : e < n
      · rw [show byM b n e = nn (b e) from if_pos h, m_isS (W.2 _ h), bI_f (by rw [he]; exact wE_e hs (by omega))]
      · rw [show byM b n e = -1 from if_neg h]
        exact m_isS1
    rw [f_X12_wordHere_b8, bd_st i4, nn_add, show s + (e - s) = e by omega, bd_st by0, bd_st fs, if_pos rfl]
    unfold wcM
    by_cases q : e - s ≤ 6
    · rw [if_pos (by rw [sm6, nn_le (by omega) (by omega)]; exact q), if_pos q, Nat.min_eq_left q]
      rfl
    · rw [if_neg (by rw [sm6, nn_le (by omega) (by omega)]; exact q), if_neg q]
      rfl
theorem m_isWord (S : Sw w) (W : TxW b n) {p : Nat} (hp : p ≤ n) (T : TxM I b n) (h4 : I 49 4 = nn p) (h5 : I 49 5 = 0) {x1 x2 x3 x4 x5 x6 : Int32} {c : Nat} (h6 : f_X12_six x1 x2 x3 x4 x5 x6 = pu (nn c)) : f_X12_isWord 49 x1 x2 x3 x4 x5 x6 (st w I J) = some (.inl (bI (wcM b (sk b n p) (wE b n (sk b n p)) = nn c)), st w (up2 I 49 4 (nn (sk b n p))) J) := by
  have g := sk_ge (b := b) hp
  have e0 := (v_49 S (F := f_X12_blanks 49)).trans (m_blanks (J := J) S W hp T h4)
  have e1 : f_X12_wordHere 49 (st w I J) = some (.inl (wcM b (sk b n p) (wE b n (sk b n p))), st w (up2 I 49 4 (nn (sk b n p))) J) := by
    rw [f_X12_wordHere, bd_st e0]
    exact m_wdV S W g.2 (T.up ⟨by decide, Or.inr (by decide)⟩) up2_s
  rw [f_X12_isWord, bd_st (i_49_5 S), if_pos h5, bd_st ((v_49 S).trans e1), h6, bd_pu]
  by_cases q : wcM b (sk b n p) (wE b n (sk b n p)) = nn c
  · rw [if_pos q, bI_t q]; rfl
  · rw [if_neg q, bI_f q]; rfl
theorem m_isWordF (S : Sw w) (h5 : ¬ I 49 5 = 0) (x1 x2 x3 x4 x5 x6 : Int32) : f_X12_isWord 49 x1 x2 x3 x4 x5 x6 (st w I J) = some (.inl 0, st w I J) := by
  rw [f_X12_isWord, bd_st (i_49_5 S), if_neg h5]
  rfl
theorem m_skipW (S : Sw w) (W : TxW b n) {s : Nat} (hs : s ≤ n) (T : TxM I b n) (h4 : I 49 4 = nn s) : f_X12_skipWord 49 (st w I J) = some (.inl (), st w (up2 I 49 4 (nn (wE b n s))) J) := by
  have hn := W.1
  obtain ⟨g1, g2⟩ := wE_ge (b := b) hs
  have T' : ∀ v, TxM (up2 I 49 4 v) b n := fun v => T.up ⟨by decide, Or.inr (by decide)⟩
  have st0 : st w I J = st w (up2 I 49 4 (nn (s + 0))) J := by rw [Nat.add_zero, up2_id h4]
  rw [f_X12_skipWord, st0]
  refine loopQ (fun N i (_ : Unit) => f_X12_skipWord_b0 N 49 (st w (up2 I 49 4 (nn (s + i))) J)) (wE b n s - s) (fun _ _ => True) (fun z => z = some (.inl (), st w (up2 I 49 4 (nn (wE b n s))) J)) ?_ ?_ (wE b n s - s) 0 () NF (by omega) (NF_gt (by omega)) trivial
  · intro N i _ hi _
    left
    have hd := wE_in (b := b) (n := n) (s := s) (c := s + i) (by omega) (by omega)
    have i4 := i_49_4 (I := up2 I 49 4 (nn (s + i))) (J := J) S
    rw [up2_s] at i4
    have by0 := (v_49 S (F := f_X12_byteAt 49 (nn (s + i)))).trans (m_byte (J := J) S (T' (nn (s + i))) hn (show s + i < 100000 by omega))
    rw [show byM b n (s + i) = nn (b (s + i)) from if_pos (by omega)] at by0
    refine ⟨(), ?_, trivial⟩
    show f_X12_skipWord_b0 (N + 1) 49 (st w (up2 I 49 4 (nn (s + i))) J) = f_X12_skipWord_b0 N 49 (st w (up2 I 49 4 (nn (s + (i + 1)))) J)
    rw [f_X12_skipWord_b0, bd_st i4, bd_st by0, bd_st (m_isS (W.2 _ (by omega))), bI_t hd, if_neg (by decide), bd_st i4, nn_succ, bd_st (w_49_4 S), up2_2, Nat.add_assoc]
  · intro N _ _
    show f_X12_skipWord_b0 (N + 1) 49 (st w (up2 I 49 4 (nn (s + (wE b n s - s)))) J) = _
    rw [show s + (wE b n s - s) = wE b n s by omega]
    have i4 := i_49_4 (I := up2 I 49 4 (nn (wE b n s))) (J := J) S
    rw [up2_s] at i4
    have by0 := (v_49 S (F := f_X12_byteAt 49 (nn (wE b n s)))).trans (m_byte (J := J) S (T' (nn (wE b n s))) hn (show wE b n s < 100000 by omega))
    have fs : ∀ {σ : PS}, f_X12_isSmall (byM b n (wE b n s)) σ = some (.inl 0, σ) := fun {σ} => by
      by_cases h : wE b n s < n
      · rw [show byM b n (wE b n s) = nn (b (wE b n s)) from if_pos h, m_isS (W.2 _ h), bI_f (wE_e hs h)]
      · rw [show byM b n (wE b n s) = -1 from if_neg h]
        exact m_isS1
    rw [f_X12_skipWord_b0, bd_st i4, bd_st by0, bd_st fs, if_pos rfl]
    rfl
end WORD2
