/-! PURE PART: image and restore -/
section IMAGE
variable {w w' : Wd} {I I' : Is} {J J' : Js} {D : Dt} {k : Nat}
theorem KS3 (S : Sw w) {j : Nat} (hj : j < 3) : 517 + j < w.1 ∧ w.2.2.1 (517 + j) = .inl (0, 3877, 0) := ⟨Nat.lt_of_lt_of_le (q_516 j hj).1 S.1, (S.2.1 _ (q_516 j hj).1).trans (q_516 j hj).2⟩
/-- one number put away, or taken back; the spot goes on -/
theorem m_puts0 (S : Sw w) {j s : Nat} (hj : j < 3) (hs : s < 3877) (h35 : I 49 35 = nn s) (v : Int32) : f_X12_puts 49 (517 + j) v 0 (st w I J) = some (.inl v, st w (up2 (up2 I (517 + j) s v) 49 35 (nn (s + 1))) J) := by
  have i35 := i_49_35 (I := I) (J := J) S
  rw [h35] at i35
  have j35 := i_49_35 (I := up2 I (517 + j) s v) (J := J) S
  rw [up2_a (by omega), h35] at j35
  have k35 := i_49_35 (I := up2 (up2 I (517 + j) s v) 49 35 (nn (s + 1))) (J := J) S
  rw [up2_s] at k35
  have l := l_517 (I := up2 (up2 I (517 + j) s v) 49 35 (nn (s + 1))) (J := J) (p := j) (k := s) S hj hs
  rw [up2_a (by omega), up2_s] at l
  rw [f_X12_puts, if_pos rfl, bd_st i35, bd_st (s_517 S hj hs), f_X12_puts_b11, bd_st j35, nn_succ, bd_st (w_49_35 S), bd_st k35, nn_pred (by omega), Nat.add_sub_cancel, bd_st l]
  rfl
theorem m_puts1 (S : Sw w) {j s : Nat} (hj : j < 3) (hs : s < 3877) (h35 : I 49 35 = nn s) (v : Int32) : f_X12_puts 49 (517 + j) v 1 (st w I J) = some (.inl (I (517 + j) s), st w (up2 I 49 35 (nn (s + 1))) J) := by
  have i35 := i_49_35 (I := I) (J := J) S
  rw [h35] at i35
  have k35 := i_49_35 (I := up2 I 49 35 (nn (s + 1))) (J := J) S
  rw [up2_s] at k35
  have l := l_517 (I := up2 I 49 35 (nn (s + 1))) (J := J) (p := j) (k := s) S hj hs
  rw [up2_a (by omega)] at l
  rw [f_X12_puts, if_neg (by decide), f_X12_puts_b11, bd_st i35, nn_succ, bd_st (w_49_35 S), bd_st k35, nn_pred (by omega), Nat.add_sub_cancel, bd_st l]
  rfl
/-- putting away: row 517 + j holds works, now and before; nothing else but the spot changes -/
def PA (I I' : Is) (j : Nat) : Prop := Ag [49, 517 + j] I I' ∧ (∀ i, i ≠ 35 → I' 49 i = I 49 i)
theorem PA.trans {I I' I'' : Is} {j : Nat} (h : PA I I' j) (h' : PA I' I'' j) : PA I I'' j := ⟨h.1.trans h'.1, fun i hi => (h'.2 i hi).trans (h.2 i hi)⟩
theorem PA.put {I I' : Is} {j s : Nat} {v x : Int32} (h : PA I I' j) : PA I (up2 (up2 I' (517 + j) s v) 49 35 x) j := ⟨(h.1.up (by simp)).up (by simp), fun i hi => by rw [up2_k hi, up2_a (by omega)]; exact h.2 i hi⟩
/-- a copy of a row onto itself, while it is put away from s0 on -/
theorem m_rowIn (S : Sw w) {j r s0 : Nat} (hj : j < 3) (hr : r ≠ 49 ∧ r < 517) (T : RoS w r) (h35 : I 49 35 = nn s0) (hs : s0 + 228 ≤ 3877) (B : Nat → Int32 → Mo Unit) (E : Mo Unit) (hB : ∀ N i (I1 : Is), i < 228 → B (N + 1) (nn i) (st w I1 J) = bd (al 0 r (nn i)) (fun v => bd (cv 12 49 (f_X12_puts 49 (517 + j) v 0)) fun u => bd (as_ r (nn i) u) fun _ => B N (nn (i + 1))) (st w I1 J)) (hE : ∀ N (I1 : Is), B (N + 1) (nn 228) (st w I1 J) = E (st w I1 J)) : ∃ I1, B NF 0 (st w I J) = E (st w I1 J) ∧ PA I I1 j ∧ I1 49 35 = nn (s0 + 228) ∧ (∀ c, c < s0 → I1 (517 + j) c = I (517 + j) c) ∧ ∀ c, c < 228 → I1 (517 + j) (s0 + c) = I r c := by
  refine loopQ (fun N i (I1 : Is) => B N (nn i) (st w I1 J)) 228 (fun i I1 => PA I I1 j ∧ I1 49 35 = nn (s0 + i) ∧ (∀ c, c < s0 → I1 (517 + j) c = I (517 + j) c) ∧ ∀ c, c < i → I1 (517 + j) (s0 + c) = I r c) (fun z => ∃ I1, z = E (st w I1 J) ∧ PA I I1 j ∧ I1 49 35 = nn (s0 + 228) ∧ (∀ c, c < s0 → I1 (517 + j) c = I (517 + j) c) ∧ ∀ c, c < 228 → I1 (517 + j) (s0 + c) = I r c) ?_ ?_ 228 0 I NF (by omega) (NF_gt (by decide)) ⟨⟨Ag.refl _ _, fun _ _ => rfl⟩, h35, fun _ _ => rfl, fun c hc => by omega⟩
  · intro N i I1 hi ⟨a1, b1, c1, d1⟩
    left
    have er : I1 r = I r := a1.1 r (by simp; omega)
    have p := m_puts0 (J := J) S hj (show s0 + i < 3877 by omega) b1 (I1 r i)
    refine ⟨up2 (up2 I1 (517 + j) (s0 + i) (I1 r i)) 49 35 (nn (s0 + i + 1)), ?_, a1.put, ?_, fun c hc => ?_, fun c hc => ?_⟩
    · show B (N + 1) (nn i) (st w I1 J) = _
      have e2 : up2 (up2 (up2 I1 (517 + j) (s0 + i) (I1 r i)) 49 35 (nn (s0 + i + 1))) r i (I1 r i) = up2 (up2 I1 (517 + j) (s0 + i) (I1 r i)) 49 35 (nn (s0 + i + 1)) := by
        funext a c
        by_cases q : a = r ∧ c = i
        · rw [q.1, q.2, up2_s, up2_a (by omega), up2_a (by omega)]
        · unfold up2
          rw [if_neg q]
      rw [hB N i I1 hi, bd_st (o_l T hi), bd_st ((v_49 S).trans p), bd_st (o_s T hi), e2]
    · rw [up2_s]
      rfl
    · rw [up2_a (by omega), up2_k (by omega)]
      exact c1 c hc
    · rw [up2_a (by omega)]
      by_cases e : c = i
      · rw [e, up2_s, er]
      · rw [up2_k (by omega)]
        exact d1 c (by omega)
  · intro N I1 ⟨a1, b1, c1, d1⟩
    exact ⟨I1, hE N I1, a1, b1, c1, d1⟩
theorem m_putAway (S : Sw w) {j : Nat} (hj : j < 3) : ∃ I1, f_X12_putsAll 49 (517 + j) 0 (st w I J) = some (.inl (), st w I1 J) ∧ PA I I1 j ∧ I1 (517 + j) 0 = I 49 32 ∧ (∀ c, c < 228 → I1 (517 + j) (1 + c) = I 497 c) ∧ ∀ v c, v < 16 → c < 228 → I1 (517 + j) (229 + 228 * v + c) = I (500 + v) c := by
  obtain ⟨I0, eI0⟩ : ∃ I0, I0 = up2 (up2 (up2 (up2 I 49 35 0) (517 + j) 0 (I 49 32)) 49 35 (nn 1)) 49 32 (I 49 32) := ⟨_, rfl⟩
  have p0 : PA I I0 j := by
    rw [eI0]
    refine ⟨((((Ag.refl _ _).up (by simp)).up (by simp)).up (by simp)).up (by simp), fun i hi => ?_⟩
    by_cases e : i = 32
    · rw [e, up2_s]
    · rw [up2_k e, up2_k hi, up2_a (by omega), up2_k hi]
  have s0 : I0 49 35 = nn 1 := by rw [eI0, up2_k (by decide), up2_s]
  have z0 : I0 (517 + j) 0 = I 49 32 := by rw [eI0, up2_a (by omega), up2_a (by omega), up2_s]
  have e0 : f_X12_putsAll 49 (517 + j) 0 (st w I J) = f_X12_putsAll_b21 NF 49 (517 + j) 0 0 (st w I0 J) := by
    have i32 := i_49_32 (I := up2 I 49 35 0) (J := J) S
    rw [up2_k (by decide)] at i32
    have p := m_puts0 (I := up2 I 49 35 0) (J := J) S hj (s := 0) (by decide) up2_s (I 49 32)
    rw [f_X12_putsAll, bd_st (w_49_35 S), bd_st i32, bd_st ((v_49 S).trans p), bd_st (w_49_32 S), eI0]
  obtain ⟨I1, e1, p1, s1, k1, d1⟩ := m_rowIn (J := J) S hj (r := 497) ⟨by decide, by decide⟩ (RoS_497 S) s0 (by decide) (fun N x => f_X12_putsAll_b21 N 49 (517 + j) 0 x) (f_X12_putsAll_b54 NF 49 (517 + j) 0 0) (fun N i I1 hi => by
    have hn : ¬ (228 : Int32) ≤ nn i := by rw [show (228 : Int32) = nn 228 from rfl, nn_le (by omega) (by omega)]; omega
    show f_X12_putsAll_b21 (N + 1) 49 (517 + j) 0 (nn i) (st w I1 J) = _
    rw [f_X12_putsAll_b21, if_neg hn, bd_st (r_49_27 S), bd_st (r_49_27 S), nn_succ]) (fun N I1 => by
    show f_X12_putsAll_b21 (N + 1) 49 (517 + j) 0 (nn 228) (st w I1 J) = _
    rw [f_X12_putsAll_b21, if_pos (show (228 : Int32) ≤ nn 228 by decide)])
  have e1' : f_X12_putsAll_b21 NF 49 (517 + j) 0 0 (st w I0 J) = f_X12_putsAll_b54 NF 49 (517 + j) 0 0 (st w I1 J) := e1
  rw [e0, e1']
  refine loopQ (fun N v (I2 : Is) => f_X12_putsAll_b54 N 49 (517 + j) 0 (nn v) (st w I2 J)) 16 (fun v I2 => PA I I2 j ∧ I2 49 35 = nn (229 + 228 * v) ∧ I2 (517 + j) 0 = I 49 32 ∧ (∀ c, c < 228 → I2 (517 + j) (1 + c) = I 497 c) ∧ ∀ u c, u < v → c < 228 → I2 (517 + j) (229 + 228 * u + c) = I (500 + u) c) (fun z => ∃ I1, z = some (.inl (), st w I1 J) ∧ PA I I1 j ∧ I1 (517 + j) 0 = I 49 32 ∧ (∀ c, c < 228 → I1 (517 + j) (1 + c) = I 497 c) ∧ ∀ v c, v < 16 → c < 228 → I1 (517 + j) (229 + 228 * v + c) = I (500 + v) c) ?_ ?_ 16 0 I1 NF (by omega) (NF_gt (by decide)) ⟨p0.trans p1, s1, ?_, fun c hc => ?_, fun u c hu => by omega⟩
  · intro N v I2 hv ⟨p2, s2, z2, n2, b2⟩
    left
    have hn : ¬ (16 : Int32) ≤ nn v := by rw [show (16 : Int32) = nn 16 from rfl, nn_le (by omega) (by omega)]; omega
    obtain ⟨I3, e3, p3, s3, k3, d3⟩ := m_rowIn (J := J) (I := I2) S hj (r := 500 + v) ⟨by omega, by omega⟩ (RoS_500 S hv) s2 (by omega) (fun N x => f_X12_putsAll_b63 (f_X12_putsAll_b54 N) N 49 (517 + j) 0 (nn v) x) (f_X12_putsAll_b54 N 49 (517 + j) 0 (nn (v + 1))) (fun M i I1 hi => by sorry) (fun M I1 => by sorry)
    sorry
  · intro N I2 ⟨p2, s2, z2, n2, b2⟩
    refine ⟨I2, ?_, p2, z2, n2, b2⟩
    show f_X12_putsAll_b54 (N + 1) 49 (517 + j) 0 (nn 16) (st w I2 J) = _
    rw [f_X12_putsAll_b54, if_pos (show (16 : Int32) ≤ nn 16 by decide)]
    rfl
  · rw [k1 0 (by decide)]; exact z0
  · rw [d1 c hc, p0.1 497 (by simp; omega)]
end IMAGE
