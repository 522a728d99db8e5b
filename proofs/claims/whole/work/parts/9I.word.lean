/-! PURE PART: a known word in a text, in both -/
def chL (k i : Nat) : Nat := (sChv k (nn i)).toNatClampNeg
def lnL (k : Nat) : Nat := leL.getD k 0
theorem ch_s : ∀ k, k < 3 → ∀ i, i < lnL k → sChv k (nn i) = nn (chL k i) ∧ chL k i < 128 ∧ inN (nn i) (leL.getD k 0) = true := by decide +kernel
theorem ln_b : ∀ k, k < 3 → lnL k ≤ 54 := by decide
theorem sLen_s {k : Nat} (hk : k < 3) {σ : PS} : sLen k σ = some (.inl (nn (lnL k)), σ) := by
  unfold sLen
  rw [if_pos (by omega)]
  rfl
theorem sChr_s {k i : Nat} (hk : k < 3) (hi : i < lnL k) {σ : PS} : sChr k (nn i) σ = some (.inl (nn (chL k i)), σ) := by
  obtain ⟨e, -, h⟩ := ch_s k hk i hi
  unfold sChr
  rw [if_pos ⟨by omega, h⟩, e]
  rfl
/-- the end of the small letters -/
def wE (b : Nat → Nat) (n s : Nat) : Nat := sc (isS b) n s
theorem wE_ge {b : Nat → Nat} {n s : Nat} (h : s ≤ n) : s ≤ wE b n s ∧ wE b n s ≤ n := sc_ge h
theorem wE_in {b : Nat → Nat} {n s c : Nat} (h1 : s ≤ c) (h2 : c < wE b n s) : 97 ≤ b c ∧ b c ≤ 122 := by
  have := sc_in (f := isS b) h1 h2
  unfold isS at this
  simpa using this
theorem wE_e {b : Nat → Nat} {n s : Nat} (hs : s ≤ n) (h : wE b n s < n) : ¬ (97 ≤ b (wE b n s) ∧ b (wE b n s) ≤ 122) := by
  have := sc_end (f := isS b) hs h
  intro q
  refine this ?_
  show (decide (97 ≤ b (wE b n s)) && decide (b (wE b n s) ≤ 122)) = true
  rw [decide_eq_true q.1, decide_eq_true q.2]
  rfl
abbrev samP (k : Nat) (b : Nat → Nat) (s e f t : Nat) : Prop := e - s = t - f ∧ ∀ i, i < t - f → b (s + i) = chL k (f + i)
/-- the words of a known text, by their ends -/
def sgO (k : Nat) : Nat → List Nat → Prop
  | f, [] => f = lnL k + 1
  | f, t :: l => f ≤ t ∧ t ≤ lnL k ∧ t - f ≤ 6 ∧ (∀ i, i < t - f → 97 ≤ chL k (f + i) ∧ chL k (f + i) ≤ 122) ∧ (t = lnL k ∨ chL k t = 32) ∧ sgO k (t + 1) l
def wIx (k : Nat) (b : Nat → Nat) (s e : Nat) : Nat → Nat → List Nat → Option Nat
  | _, _, [] => none
  | x, f, t :: l => if samP k b s e f t then some x else wIx k b s e (x + 1) (t + 1) l
section WORD
variable {w : Wd} {I : Is} {J : Js} {b : Nat → Nat} {n : Nat}
theorem c_same (S : Sw w) (W : TxW b n) (T : TxC I b n) {k s e f t : Nat} (hk : k < 3) (h3 : I 1 3 = nn e) (h4 : I 1 4 = nn s) (hse : s ≤ e) (hen : e ≤ n) (hft : f ≤ t) (ht : t ≤ lnL k) : f_X8_isSame 1 k (nn f) (nn t) (st w I J) = some (.inl (bI (samP k b s e f t)), st w I J) := by
  have hn := W.1
  have hl := ln_b k hk
  have i3 := i_1_3 (I := I) (J := J) S
  rw [h3] at i3
  have i4 := i_1_4 (I := I) (J := J) S
  rw [h4] at i4
  rw [f_X8_isSame, bd_st i3, bd_st i4, nn_sub hft, nn_sub hse]
  by_cases hd : e - s = t - f
  rotate_left
  · rw [if_neg (by rw [nn_eq (by omega) (by omega)]; omega), bI_f (fun q => hd q.1)]
    rfl
  rw [if_pos (by rw [hd])]
  have key := loopQ (fun N i (_ : Unit) => f_X8_isSame_b20 N 1 k (nn f) (nn t) (nn (f + i)) (st w I J)) (t - f) (fun i _ => ∀ j, j < i → b (s + j) = chL k (f + j)) (fun z => z = some (.inl (bI (samP k b s e f t)), st w I J)) ?_ ?_ (t - f) 0 () NF (by omega) (NF_gt (by omega)) (fun j hj => by omega)
  · exact key
  · intro N i _ hi hP
    have l := l_2 (I := I) (J := J) (k := s + i) S (by omega)
    rw [T.2 _ (by omega)] at l
    have ix : (nn s + nn (f + i)) - nn f = nn (s + i) := by
      rw [nn_add, nn_sub (by omega)]
      congr 1
      omega
    have q : (nn (chL k (f + i)) = sx (b (s + i))) = (b (s + i) = chL k (f + i)) := by
      rw [← sx_eq _ (W.2 _ (by omega)) _ (ch_s k hk (f + i) (by omega)).2.1]
      exact propext eq_comm
    have e1 : f_X8_isSame_b20 (N + 1) 1 k (nn f) (nn t) (nn (f + i)) (st w I J) = (if (nn (chL k (f + i)) = sx (b (s + i)) : Prop) then ((f_X8_isSame_b20 N) 1 k (nn f) (nn t) (nn (f + i) + 1)) else pu 0) (st w I J) := by
      rw [f_X8_isSame_b20, if_neg (by rw [nn_le (by omega) (by omega)]; omega), bd_st (sChr_s hk (by omega)), bd_st (r_1_0 S), bd_st i4, ix, bd_st l]
    by_cases h : b (s + i) = chL k (f + i)
    · left
      refine ⟨(), ?_, fun j hj => ?_⟩
      · show f_X8_isSame_b20 (N + 1) 1 k (nn f) (nn t) (nn (f + i)) (st w I J) = f_X8_isSame_b20 N 1 k (nn f) (nn t) (nn (f + (i + 1))) (st w I J)
        rw [e1, if_pos (by rw [q]; exact h), nn_succ, Nat.add_assoc]
      · by_cases ej : j = i
        · rw [ej]; exact h
        · exact hP j (by omega)
    · right
      show f_X8_isSame_b20 (N + 1) 1 k (nn f) (nn t) (nn (f + i)) (st w I J) = _
      rw [e1, if_neg (by rw [q]; exact h), bI_f (fun z => h (z.2 i hi))]
      rfl
  · intro N _ hP
    show f_X8_isSame_b20 (N + 1) 1 k (nn f) (nn t) (nn (f + (t - f))) (st w I J) = _
    rw [f_X8_isSame_b20, if_pos (by rw [nn_le (by omega) (by omega)]; omega), bI_t (show samP k b s e f t from ⟨hd, hP⟩)]
    rfl
theorem c_wdS (S : Sw w) (W : TxW b n) (T : TxC I b n) {k s e f t : Nat} (hk : k < 3) (h3 : I 1 3 = nn e) (h4 : I 1 4 = nn s) (hse : s ≤ e) (hen : e ≤ n) (hft : f ≤ t) (ht : t ≤ lnL k) (hc : ∀ i, i < t - f → 97 ≤ chL k (f + i) ∧ chL k (f + i) ≤ 122) (he : t = lnL k ∨ chL k t = 32) (x : Nat) : ∀ d i N, t - i = d → f ≤ i → i ≤ t → f_X8_word_b71 (N + d + 1) 1 k (nn x) (nn f) (nn i) (st w I J) = (if samP k b s e f t then some (.inl (nn x), st w I J) else f_X8_word_b71 N 1 k (nn (x + 1)) (nn (t + 1)) (nn (t + 1)) (st w I J)) := by
  have hl := ln_b k hk
  have b100 : ∀ N, f_X8_word_b100 (f_X8_word_b71 N) 1 k (nn x) (nn f) (nn t) (st w I J) = (if samP k b s e f t then some (.inl (nn x), st w I J) else f_X8_word_b71 N 1 k (nn (x + 1)) (nn (t + 1)) (nn (t + 1)) (st w I J)) := fun N => by
    rw [f_X8_word_b100, bd_st ((v_1 S).trans (c_same (J := J) S W T hk h3 h4 hse hen hft ht))]
    by_cases h : samP k b s e f t
    · rw [if_pos h, bI_t h, if_neg (by decide)]
      rfl
    · rw [if_neg h, bI_f h, if_pos rfl, f_X8_word_b121, nn_succ, nn_succ]
  intro d
  induction d with
  | zero =>
    intro i N hd h1 h2
    have ei : i = t := by omega
    subst ei
    rw [Nat.add_zero, f_X8_word_b71, bd_st (sLen_s hk), if_neg (by rw [nn_lt (by omega) (by omega)]; omega), bd_st (sLen_s hk)]
    rcases Nat.eq_or_lt_of_le ht with q | q
    · rw [if_pos (by rw [q])]
      exact b100 N
    · rw [if_neg (by rw [nn_eq (by omega) (by omega)]; omega), bd_st (sChr_s hk q), if_pos (by rw [he.resolve_left (by omega)]; rfl)]
      exact b100 N
  | succ d ih =>
    intro i N hd h1 h2
    have c0 := hc (i - f) (by omega)
    rw [show f + (i - f) = i by omega] at c0
    rw [show N + (d + 1) + 1 = (N + d + 1) + 1 by omega, f_X8_word_b71, bd_st (sLen_s hk), if_neg (by rw [nn_lt (by omega) (by omega)]; omega), bd_st (sLen_s hk), if_neg (by rw [nn_eq (by omega) (by omega)]; omega), bd_st (sChr_s hk (by omega)), if_neg (by rw [show (32 : Int32) = nn 32 from rfl, nn_eq (by omega) (by omega)]; omega), f_X8_word_b121, nn_succ]
    exact ih (i + 1) N (by omega) (by omega) (by omega)
/-- where the class's word ends -/
theorem c_wdL (S : Sw w) (W : TxW b n) (T : TxC I b n) {k s e : Nat} (hk : k < 3) (h3 : I 1 3 = nn e) (h4 : I 1 4 = nn s) (hse : s ≤ e) (hen : e ≤ n) : ∀ (l : List Nat) (x f N : Nat), sgO k f l → lnL k + 2 < N + f → f_X8_word_b71 N 1 k (nn x) (nn f) (nn f) (st w I J) = (match wIx k b s e x f l with
      | some y => some (.inl (nn y), st w I J)
      | none => some (.inl (-1), st w (up2 (up2 I 1 5 1) 1 6 (nn s)) J)) := by
  have hl := ln_b k hk
  intro l
  induction l with
  | nil =>
    intro x f N hf hN
    have hf : f = lnL k + 1 := hf
    obtain ⟨N, rfl⟩ : ∃ M, N = M + 1 := ⟨N - 1, by omega⟩
    have i4 := i_1_4 (I := I) (J := J) S
    rw [h4] at i4
    rw [f_X8_word_b71, bd_st (sLen_s hk), if_pos (by rw [nn_lt (by omega) (by omega)]; omega), bd_st i4, bd_st ((v_1 S).trans (show f_X8_fail 1 1 (nn s) (st w I J) = some (.inl 0, st w (up2 (up2 I 1 5 1) 1 6 (nn s)) J) from by rw [f_X8_fail, bd_st (w_1_5 S), bd_st (w_1_6 S)]; rfl))]
    rfl
  | cons t l ih =>
    intro x f N hf hN
    obtain ⟨h1, h2, -, h5, h6, h7⟩ := hf
    obtain ⟨M, rfl⟩ : ∃ M, N = M + (t - f) + 1 := ⟨N - (t - f) - 1, by omega⟩
    rw [c_wdS S W T hk h3 h4 hse hen h1 h2 h5 h6 x (t - f) f M rfl (Nat.le_refl _) h1]
    unfold wIx
    by_cases h : samP k b s e f t
    · rw [if_pos h, if_pos h]
    · rw [if_neg h, if_neg h]
      exact ih (x + 1) (t + 1) M h7 (by omega)
end WORD
