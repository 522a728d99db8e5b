/-! PURE PART: the class keeps the words it read -/
theorem said_at {F : Fo} {V : Wo} (H : WoW F V) {k : Nat} (hk : k < V.1) : saidW V (V.2.1 k) = nn (V.2.2 k) := by
  have key : ∀ m, m ≤ V.1 → k < m → lp (fun j x => if V.2.1 j = V.2.1 k then nn (V.2.2 j) else x) m 0 (-1) = nn (V.2.2 k) := by
    intro m
    induction m with
    | zero => intro _ h; omega
    | succ m ih =>
      intro hm h
      rw [lp_end, Nat.zero_add]
      by_cases e : V.2.1 m = V.2.1 k
      · rw [if_pos e, H.2.2 m k (by omega) hk e]
      · rw [if_neg e]
        exact ih (by omega) (by have : ¬ m = k := fun q => e (by rw [q]); omega)
  exact key V.1 (Nat.le_refl _) hk
theorem bit_o64 {x : Int64} {i f : Nat} (hi : i < 64) (hf : f < 64) : ((x ||| ((1 : Int64) <<< (Int32.toInt64 (nn i) &&& 63))).toBitVec.getLsbD f = true) ↔ (x.toBitVec.getLsbD f = true ∨ f = i) := by
  have e : (1 : Int64) <<< (Int32.toInt64 (nn i) &&& 63) = lN (1 * 2 ^ i) := wb_shl 1 hi
  rw [e, Int64.toBitVec_or, BitVec.getLsbD_or, wb_tb, Nat.one_mul, BitVec.getLsbD_ofNat, Nat.testBit_two_pow]
  simp only [Bool.or_eq_true, Bool.and_eq_true, decide_eq_true_eq]
  constructor
  · rintro (h | h)
    · exact Or.inl h
    · exact Or.inr h.2.symm
  · rintro (h | h)
    · exact Or.inl h
    · exact Or.inr ⟨hf, h.symm⟩
section WORDS2
variable {w : Wd} {I : Is} {J : Js} {b : Nat → Nat} {n : Nat} {F : Fo} {V : Wo}
theorem c_agrees (S : Sw w) (HF : FoC I F) (WF : FoW F) (WV : WoW F V) (hs : ∀ q, q < 8 → I 25 q = saidW V q) {f : Nat} : f_X1_agrees 24 (nn f) (st w I J) = some (.inl (bI (agrP F V f)), st w I J) := by
  have z8 := WF.1
  unfold f_X1_agrees
  have i4 := i_3_4 (I := I) (J := J) S
  rw [fc_sz HF] at i4
  refine loopQ (fun N i (_ : Unit) => f_X1_agrees_b2 N 24 (nn f) (nn i) (st w I J)) (sz F) (fun i _ => ∀ k, k < V.1 → V.2.1 k < i → 6 - bc32 (nn (fa F (V.2.1 k)) ^^^ nn f) = nn (V.2.2 k)) (fun z => z = some (.inl (bI (agrP F V f)), st w I J)) ?_ ?_ (sz F) 0 () NF (by omega) (NF_gt (by omega)) (fun k hk h => by omega)
  · intro N i _ hi hP
    have q : ¬ nn (sz F) ≤ nn i := by rw [nn_le (by omega) (by omega)]; omega
    have l := l_25 (I := I) (J := J) (k := i) S (by omega)
    rw [hs i (by omega)] at l
    have lf := l_4 (I := I) (J := J) (k := i) S (by omega)
    rw [fc_fa HF hi] at lf
    have ic : f_X1_inCommon 24 (nn i) (nn f) (st w I J) = some (.inl (6 - bc32 (nn (fa F i) ^^^ nn f)), st w I J) := by
      rw [f_X1_inCommon, bd_st (r_24_0 S), bd_st (r_3_0 S), bd_st lf]
      rfl
    have e1 : f_X1_agrees_b2 (N + 1) 24 (nn f) (nn i) (st w I J) = (if (saidW V i = (-1) : Prop) then (f_X1_agrees_b40 (f_X1_agrees_b2 N) 24 (nn f) (nn i)) else bd (gR 1 1 24) fun r5 => bd (al 0 r5 (nn i)) fun v6 => bd (cv 1 24 (f_X1_inCommon 24 (nn i) (nn f))) fun v7 => if (v6 = v7 : Prop) then (f_X1_agrees_b40 (f_X1_agrees_b2 N) 24 (nn f) (nn i)) else pu 0) (st w I J) := by
      rw [f_X1_agrees_b2, bd_st (r_24_0 S), bd_st i4, if_neg q, bd_st (r_24_1 S), bd_st l]
    by_cases ht : tld V i
    · have h1 : ¬ saidW V i = -1 := fun x => (said_t WV i).1 x ht
      have ⟨k, hk, ek⟩ : ∃ k, k < V.1 ∧ V.2.1 k = i := Classical.byContradiction fun x => ht fun k hk e => x ⟨k, hk, e⟩
      have sa := said_at WV hk
      rw [ek] at sa
      by_cases hg : saidW V i = 6 - bc32 (nn (fa F i) ^^^ nn f)
      · left
        refine ⟨(), ?_, fun k' hk' h' => ?_⟩
        · show f_X1_agrees_b2 (N + 1) 24 (nn f) (nn i) (st w I J) = f_X1_agrees_b2 N 24 (nn f) (nn (i + 1)) (st w I J)
          rw [e1, if_neg h1, bd_st (r_24_1 S), bd_st l, bd_st ((v_24 S).trans ic), if_pos hg, f_X1_agrees_b40, nn_succ]
        · by_cases e : V.2.1 k' = i
          · have : k' = k := WV.2.2 k' k hk' hk (e.trans ek.symm)
            rw [e, this, ← hg]
            exact sa
          · exact hP k' hk' (by omega)
      · right
        show f_X1_agrees_b2 (N + 1) 24 (nn f) (nn i) (st w I J) = _
        rw [e1, if_neg h1, bd_st (r_24_1 S), bd_st l, bd_st ((v_24 S).trans ic), if_neg hg, bI_f (fun x => hg (by rw [sa, ← x k hk, ek]))]
        rfl
    · have h1 : saidW V i = -1 := (said_t WV i).2 ht
      have ht : ∀ k, k < V.1 → ¬ V.2.1 k = i := Classical.not_not.1 ht
      left
      refine ⟨(), ?_, fun k' hk' h' => hP k' hk' (by have := ht k' hk'; omega)⟩
      show f_X1_agrees_b2 (N + 1) 24 (nn f) (nn i) (st w I J) = f_X1_agrees_b2 N 24 (nn f) (nn (i + 1)) (st w I J)
      rw [e1, if_pos h1, f_X1_agrees_b40, nn_succ]
  · intro N _ hP
    show f_X1_agrees_b2 (N + 1) 24 (nn f) (nn (sz F)) (st w I J) = _
    rw [f_X1_agrees_b2, bd_st (r_24_0 S), bd_st i4, if_pos (by rw [nn_le (by omega) (by omega)]; omega), bI_t (fun k hk => hP k hk (WV.2.1 k hk).1)]
    rfl
theorem c_fit (S : Sw w) (HF : FoC I F) (WF : FoW F) (WV : WoW F V) (hs : ∀ q, q < 8 → I 25 q = saidW V q) : ∃ x, f_X1_read_b79 NF 24 0 (st w I (up2 J 24 5 0)) = some (.inl 1, st w I (up2 J 24 5 x)) ∧ fitJ x F V := by
  refine loopQ (fun N i (x : Int64) => f_X1_read_b79 N 24 (nn i) (st w I (up2 J 24 5 x))) 64 (fun i x => ∀ f, f < 64 → (x.toBitVec.getLsbD f = true ↔ f < i ∧ agrP F V f)) (fun z => ∃ x, z = some (.inl 1, st w I (up2 J 24 5 x)) ∧ fitJ x F V) ?_ ?_ 64 0 0 NF (by omega) (NF_gt (by omega)) (fun f hf => ⟨fun h => by simp at h, fun h => by omega⟩)
  · intro N i x hi hP
    left
    have ca := (v_24 S).trans (c_agrees (J := up2 J 24 5 x) S HF WF WV hs (f := i))
    have j := j_24_5 (I := I) (J := up2 J 24 5 x) S
    rw [up2_s] at j
    by_cases h : agrP F V i
    · refine ⟨x ||| ((1 : Int64) <<< (Int32.toInt64 (nn i) &&& 63)), ?_, fun f hf => ?_⟩
      · show f_X1_read_b79 (N + 1) 24 (nn i) (st w I (up2 J 24 5 x)) = f_X1_read_b79 N 24 (nn (i + 1)) _
        have uu : up2 (up2 J 24 5 x) 24 5 (x ||| ((1 : Int64) <<< (Int32.toInt64 (nn i) &&& 63))) = up2 J 24 5 (x ||| ((1 : Int64) <<< (Int32.toInt64 (nn i) &&& 63))) := by
          funext a k
          unfold up2
          by_cases q : a = 24 ∧ k = 5
          · rw [if_pos q, if_pos q]
          · rw [if_neg q, if_neg q, if_neg q]
        rw [f_X1_read_b79, if_neg (le64 hi), bd_st ca, bI_t h, if_neg (by decide), bd_st j, bd_st (wj_24_5 S), uu, f_X1_read_b105, nn_succ]
      · rw [bit_o64 hi hf, hP f hf]
        constructor
        · rintro (q | q)
          · exact ⟨by omega, q.2⟩
          · rw [q]; exact ⟨by omega, h⟩
        · rintro ⟨q1, q2⟩
          by_cases e : f = i
          · exact Or.inr e
          · exact Or.inl ⟨by omega, q2⟩
    · refine ⟨x, ?_, fun f hf => ?_⟩
      · show f_X1_read_b79 (N + 1) 24 (nn i) (st w I (up2 J 24 5 x)) = f_X1_read_b79 N 24 (nn (i + 1)) _
        rw [f_X1_read_b79, if_neg (le64 hi), bd_st ca, bI_f h, if_pos rfl, f_X1_read_b105, nn_succ]
      · rw [hP f hf]
        constructor
        · rintro ⟨q1, q2⟩
          exact ⟨by omega, q2⟩
        · rintro ⟨q1, q2⟩
          by_cases e : f = i
          · rw [e] at q2; exact absurd q2 h
          · exact ⟨by omega, q2⟩
  · intro N x hP
    refine ⟨x, ?_, fun f hf => (bit64 hf).trans ((hP f hf).trans ⟨fun q => q.2, fun q => ⟨hf, q⟩⟩)⟩
    show f_X1_read_b79 (N + 1) 24 (nn 64) (st w I (up2 J 24 5 x)) = _
    rw [f_X1_read_b79, if_pos (by decide)]
    rfl
theorem c_b52 (S : Sw w) (HF : FoC I F) (WF : FoW F) (WV : WoW F V) (hs : ∀ q, q < 8 → I 26 q = saidW V q) : ∃ I1 J1, f_X1_read_b52 24 (nn V.1) (st w I J) = some (.inl 1, st w I1 J1) ∧ Ag [24, 25] I I1 ∧ WoC I1 J1 F V := by
  have b0 := S.1
  have c1 := cp_st (I := I) (J := J) (w := w) (a0 := 26) (a1 := 25) (x := 8) (k := 8) rfl (by decide) (by omega) (by omega) ((S.2.1 26 (by decide)).trans rfl) ((S.2.1 25 (by decide)).trans rfl) (by decide) (by decide)
  obtain ⟨I1, hI1⟩ : ∃ I1, I1 = up2 (up1 I 25 (va_cpy (I 26) (I 25) 0 0 8)) 24 4 (nn V.1) := ⟨_, rfl⟩
  have a1 : Ag [24, 25] I I1 := fun a ha => by
    simp only [List.mem_cons, List.not_mem_nil, or_false, not_or] at ha
    rw [hI1, up2_ra ha.1, up1_n ha.2]
  have s1 : ∀ q, q < 8 → I1 25 q = saidW V q := fun q hq => by
    rw [hI1, up2_a (by decide), up1_s]
    show (if 0 ≤ q ∧ q < 0 + 8 then I 26 (0 + (q - 0)) else I 25 q) = _
    rw [if_pos (by omega), Nat.zero_add, Nat.sub_zero]
    exact hs q hq
  have HF1 : FoC I1 F := by
    have := HF
    unfold FoC at this ⊢
    rw [a1 3 (by decide), a1 4 (by decide), a1 5 (by decide), a1 6 (by decide), a1 7 (by decide)]
    exact this
  obtain ⟨x, ex, fx⟩ := c_fit (J := J) S HF1 WF WV s1
  refine ⟨I1, up2 J 24 5 x, ?_, a1, ?_, s1, ?_⟩
  · rw [f_X1_read_b52, bd_st (r_24_2 S), bd_st (r_24_1 S), bd_st c1, bd_st (w_24_4 S), ← hI1, bd_st (wj_24_5 S)]
    exact ex
  · rw [hI1, up2_s]
  · rw [up2_s]
    exact fx
/-- the class reads the words -/
def WRd (w : Wd) (I : Is) (J : Js) (F : Fo) : (Int32 × Nat) ⊕ Wo → Prop
  | .inl r => ∃ I1, f_X1_read 24 1 (st w I J) = some (.inl 0, st w I1 J) ∧ Ag [1, 26] I I1 ∧ I1 1 1 = I 1 1 ∧ I1 1 5 = r.1 ∧ I1 1 6 = nn r.2
  | .inr V => ∃ I1 J1, f_X1_read 24 1 (st w I J) = some (.inl 1, st w I1 J1) ∧ Ag [1, 24, 25, 26] I I1 ∧ I1 1 1 = I 1 1 ∧ I1 1 6 = I 1 6 ∧ WoW F V ∧ WoC I1 J1 F V
theorem c_readW (S : Sw w) (W : TxW b n) (HF : FoC I F) (WF : FoW F) (T : TxC I b n) (h3 : I 1 3 = nn 0) {r : (Int32 × Nat) ⊕ Wo} {d : Nat} (H : WP b n (sz F) d 0 (0, fun _ => 0, fun _ => 0) r) : WRd w I J F r := by
  have e0 : ∃ I1, f_X1_read 24 1 (st w I J) = f_X1_read_b23 NF 24 1 0 (st w I1 J) ∧ Ag [26] I I1 ∧ ∀ q, q < 8 → I1 26 q = -1 := by
    refine loopQ (fun N i (I1 : Is) => f_X1_read_b2 N 24 1 (nn i) (st w I1 J)) 8 (fun i I1 => Ag [26] I I1 ∧ ∀ q, q < i → I1 26 q = -1) (fun z => ∃ I1, z = f_X1_read_b23 NF 24 1 0 (st w I1 J) ∧ Ag [26] I I1 ∧ ∀ q, q < 8 → I1 26 q = -1) ?_ ?_ 8 0 I NF (by omega) (NF_gt (by omega)) ⟨Ag.refl _ _, fun q hq => by omega⟩
    · intro N i I1 hi ⟨a1, b1⟩
      left
      refine ⟨up2 I1 26 i (-1), ?_, a1.up (by decide), fun q hq => ?_⟩
      · show f_X1_read_b2 (N + 1) 24 1 (nn i) (st w I1 J) = _
        rw [f_X1_read_b2, if_neg (by rw [show (8 : Int32) = nn 8 from rfl, nn_le (by omega) (by omega)]; omega), bd_st (r_24_2 S), bd_st (s_26 S (by omega)), nn_succ]
      · by_cases e : q = i
        · rw [e, up2_s]
        · rw [up2_k e]; exact b1 q (by omega)
    · intro N I1 ⟨a1, b1⟩
      refine ⟨I1, ?_, a1, b1⟩
      show f_X1_read_b2 (N + 1) 24 1 (nn 8) (st w I1 J) = _
      rw [f_X1_read_b2, if_pos (by decide)]
  obtain ⟨I1, e1, a1, d1⟩ := e0
  have T1 : TxC I1 b n := ⟨by rw [a1 1 (by decide)]; exact T.1, fun c hc => by rw [a1 2 (by decide)]; exact T.2 c hc⟩
  have x1 : I1 1 = I 1 := a1 1 (by decide)
  have key := c_words (J := J) S W WF d 0 (0, fun _ => 0, fun _ => 0) I1 NF H (I0 := I1) ⟨Ag.refl _ _, T1, rfl, rfl, by rw [x1]; exact h3, by rw [a1 3 (by decide)]; exact fc_sz HF, d1⟩ (Nat.zero_le _) ⟨Nat.zero_le _, fun k hk => absurd hk (Nat.not_lt_zero _), fun j k hj => absurd hj (Nat.not_lt_zero _)⟩ (NF_gt (by omega))
  rcases r with r | V
  · obtain ⟨I2, e2, a2, t2, f2, p2⟩ := key
    exact ⟨I2, e1.trans e2, (a1.mono (by decide)).trans a2, by rw [t2, x1], f2, p2⟩
  · obtain ⟨I2, e2, a2, t2, p2, WV, s2⟩ := key
    have a12 : Ag [1, 26] I I2 := (a1.mono (by decide)).trans a2
    have HF2 : FoC I2 F := by
      have := HF
      unfold FoC at this ⊢
      rw [a12 3 (by decide), a12 4 (by decide), a12 5 (by decide), a12 6 (by decide), a12 7 (by decide)]
      exact this
    obtain ⟨I3, J3, e3, a3, w3⟩ := c_b52 (J := J) S HF2 WF WV s2
    refine ⟨I3, J3, e1.trans (e2.trans e3), (a12.mono (by decide)).trans (a3.mono (by decide)), ?_, ?_, WV, w3⟩
    · rw [a3 1 (by decide), t2, x1]
    · rw [a3 1 (by decide), p2, x1]
end WORDS2
