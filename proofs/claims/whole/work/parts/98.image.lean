/-! PURE PART: image and restore -/
section IMAGE
variable {w w' : Wd} {I I' : Is} {J J' : Js} {D : Dt} {k : Nat}
theorem KS3 (S : Sw w) {j : Nat} (hj : j < 3) : 517 + j < w.1 ∧ w.2.2.1 (517 + j) = .inl (0, 3877, 0) := ⟨Nat.lt_of_lt_of_le (q_516 j hj).1 S.1, (S.2.1 _ (q_516 j hj).1).trans (q_516 j hj).2⟩
/-- one number put away, or taken back; the spot goes on -/
theorem m_puts0 (S : Sw w) {j s : Nat} (hj : j < 3) (hs : s < 3877) (h35 : I 49 35 = nn s) (v : Int32) : f_X12_puts 49 (517 + j) v 0 (st w I J) = some (.inl v, st w (up2 (up2 I (517 + j) s v) 49 35 (nn (s + 1))) J) := by
  have i35 := i_49_35 (I := I) (J := J) S
  rw [h35] at i35
  have j35 := i_49_35 (I := up2 I (517 + j) s v) (J := J) S
  rw [up2_a (by omega), h35] at j35
  have k35 := i_49_35 (I := up2 (up2 I (517 + j) s v) 49 35 (nn (s + 1))) (J := J) S
  rw [up2_s] at k35
  have l := l_517 (I := up2 (up2 I (517 + j) s v) 49 35 (nn (s + 1))) (J := J) (p := j) (k := s) S hj hs
  rw [up2_a (by omega), up2_s] at l
  rw [f_X12_puts, if_pos rfl, bd_st i35, bd_st (s_517 S hj hs), f_X12_puts_b11, bd_st j35, nn_succ, bd_st (w_49_35 S), bd_st k35, nn_pred (by omega), Nat.add_sub_cancel, bd_st l]
  rfl
theorem m_puts1 (S : Sw w) {j s : Nat} (hj : j < 3) (hs : s < 3877) (h35 : I 49 35 = nn s) (v : Int32) : f_X12_puts 49 (517 + j) v 1 (st w I J) = some (.inl (I (517 + j) s), st w (up2 I 49 35 (nn (s + 1))) J) := by
  have i35 := i_49_35 (I := I) (J := J) S
  rw [h35] at i35
  have k35 := i_49_35 (I := up2 I 49 35 (nn (s + 1))) (J := J) S
  rw [up2_s] at k35
  have l := l_517 (I := up2 I 49 35 (nn (s + 1))) (J := J) (p := j) (k := s) S hj hs
  rw [up2_a (by omega)] at l
  rw [f_X12_puts, if_neg (by decide), f_X12_puts_b11, bd_st i35, nn_succ, bd_st (w_49_35 S), bd_st k35, nn_pred (by omega), Nat.add_sub_cancel, bd_st l]
  rfl
/-- putting away: row 517 + j holds works, now and before; nothing else but the spot changes -/
def PA (I I' : Is) (j : Nat) : Prop := Ag [49, 517 + j] I I' ∧ (∀ i, i ≠ 35 → I' 49 i = I 49 i)
theorem PA.trans {I I' I'' : Is} {j : Nat} (h : PA I I' j) (h' : PA I' I'' j) : PA I I'' j := ⟨h.1.trans h'.1, fun i hi => (h'.2 i hi).trans (h.2 i hi)⟩
theorem PA.put {I I' : Is} {j s : Nat} {v x : Int32} (h : PA I I' j) : PA I (up2 (up2 I' (517 + j) s v) 49 35 x) j := ⟨(h.1.up (by simp)).up (by simp), fun i hi => by rw [up2_k hi, up2_a (by omega)]; exact h.2 i hi⟩
/-- a copy of a row onto itself, while it is put away from s0 on -/
theorem m_rowIn (S : Sw w) {j r s0 : Nat} (hj : j < 3) (hr : r ≠ 49 ∧ r < 517) (T : RoS w r) (h35 : I 49 35 = nn s0) (hs : s0 + 228 ≤ 3877) (B : Nat → Int32 → Mo Unit) (E : Mo Unit) (hB : ∀ N i (I1 : Is), i < 228 → B (N + 1) (nn i) (st w I1 J) = bd (al 0 r (nn i)) (fun v => bd (cv 12 49 (f_X12_puts 49 (517 + j) v 0)) fun u => bd (as_ r (nn i) u) fun _ => B N (nn (i + 1))) (st w I1 J)) (hE : ∀ N (I1 : Is), B (N + 1) (nn 228) (st w I1 J) = E (st w I1 J)) : ∃ I1, B NF 0 (st w I J) = E (st w I1 J) ∧ PA I I1 j ∧ I1 49 35 = nn (s0 + 228) ∧ (∀ c, c < s0 → I1 (517 + j) c = I (517 + j) c) ∧ ∀ c, c < 228 → I1 (517 + j) (s0 + c) = I r c := by
  refine loopQ (fun N i (I1 : Is) => B N (nn i) (st w I1 J)) 228 (fun i I1 => PA I I1 j ∧ I1 49 35 = nn (s0 + i) ∧ (∀ c, c < s0 → I1 (517 + j) c = I (517 + j) c) ∧ ∀ c, c < i → I1 (517 + j) (s0 + c) = I r c) (fun z => ∃ I1, z = E (st w I1 J) ∧ PA I I1 j ∧ I1 49 35 = nn (s0 + 228) ∧ (∀ c, c < s0 → I1 (517 + j) c = I (517 + j) c) ∧ ∀ c, c < 228 → I1 (517 + j) (s0 + c) = I r c) ?_ ?_ 228 0 I NF (by omega) (NF_gt (by decide)) ⟨⟨Ag.refl _ _, fun _ _ => rfl⟩, h35, fun _ _ => rfl, fun c hc => by omega⟩
  · intro N i I1 hi ⟨a1, b1, c1, d1⟩
    left
    have er : I1 r = I r := a1.1 r (by simp; omega)
    have p := m_puts0 (J := J) S hj (show s0 + i < 3877 by omega) b1 (I1 r i)
    refine ⟨up2 (up2 I1 (517 + j) (s0 + i) (I1 r i)) 49 35 (nn (s0 + i + 1)), ?_, a1.put, ?_, fun c hc => ?_, fun c hc => ?_⟩
    · show B (N + 1) (nn i) (st w I1 J) = _
      have e2 : up2 (up2 (up2 I1 (517 + j) (s0 + i) (I1 r i)) 49 35 (nn (s0 + i + 1))) r i (I1 r i) = up2 (up2 I1 (517 + j) (s0 + i) (I1 r i)) 49 35 (nn (s0 + i + 1)) := by
        funext a c
        by_cases q : a = r ∧ c = i
        · rw [q.1, q.2, up2_s, up2_a (by omega), up2_a (by omega)]
        · unfold up2
          rw [if_neg q]
      rw [hB N i I1 hi, bd_st (o_l T hi), bd_st ((v_49 S).trans p), bd_st (o_s T hi), e2]
    · rw [up2_s]
      rfl
    · rw [up2_a (by omega), up2_k (by omega)]
      exact c1 c hc
    · rw [up2_a (by omega)]
      by_cases e : c = i
      · rw [e, up2_s, er]
      · rw [up2_k (by omega)]
        exact d1 c (by omega)
  · intro N I1 ⟨a1, b1, c1, d1⟩
    exact ⟨I1, hE N I1, a1, b1, c1, d1⟩
theorem m_putAway (S : Sw w) {j : Nat} (hj : j < 3) : ∃ I1, f_X12_putsAll 49 (517 + j) 0 (st w I J) = some (.inl (), st w I1 J) ∧ PA I I1 j ∧ I1 (517 + j) 0 = I 49 32 ∧ (∀ c, c < 228 → I1 (517 + j) (1 + c) = I 497 c) ∧ ∀ v c, v < 16 → c < 228 → I1 (517 + j) (229 + 228 * v + c) = I (500 + v) c := by
  obtain ⟨I0, eI0⟩ : ∃ I0, I0 = up2 (up2 (up2 (up2 I 49 35 0) (517 + j) 0 (I 49 32)) 49 35 (nn 1)) 49 32 (I 49 32) := ⟨_, rfl⟩
  have p0 : PA I I0 j := by
    rw [eI0]
    refine ⟨((((Ag.refl _ _).up (by simp)).up (by simp)).up (by simp)).up (by simp), fun i hi => ?_⟩
    by_cases e : i = 32
    · rw [e, up2_s]
    · rw [up2_k e, up2_k hi, up2_a (by omega), up2_k hi]
  have s0 : I0 49 35 = nn 1 := by rw [eI0, up2_k (by decide), up2_s]
  have z0 : I0 (517 + j) 0 = I 49 32 := by rw [eI0, up2_a (by omega), up2_a (by omega), up2_s]
  have e0 : f_X12_putsAll 49 (517 + j) 0 (st w I J) = f_X12_putsAll_b21 NF 49 (517 + j) 0 0 (st w I0 J) := by
    have i32 := i_49_32 (I := up2 I 49 35 0) (J := J) S
    rw [up2_k (by decide)] at i32
    have p := m_puts0 (I := up2 I 49 35 0) (J := J) S hj (s := 0) (by decide) up2_s (I 49 32)
    rw [f_X12_putsAll, bd_st (w_49_35 S), bd_st i32, bd_st ((v_49 S).trans p), bd_st (w_49_32 S), eI0]
  obtain ⟨I1, e1, p1, s1, k1, d1⟩ := m_rowIn (J := J) S hj (r := 497) ⟨by decide, by decide⟩ (RoS_497 S) s0 (by decide) (fun N x => f_X12_putsAll_b21 N 49 (517 + j) 0 x) (f_X12_putsAll_b54 NF 49 (517 + j) 0 0) (fun N i I1 hi => by
    have hn : ¬ (228 : Int32) ≤ nn i := by rw [show (228 : Int32) = nn 228 from rfl, nn_le (by omega) (by omega)]; omega
    show f_X12_putsAll_b21 (N + 1) 49 (517 + j) 0 (nn i) (st w I1 J) = _
    rw [f_X12_putsAll_b21, if_neg hn, bd_st (r_49_27 S), bd_st (r_49_27 S), nn_succ]) (fun N I1 => by
    show f_X12_putsAll_b21 (N + 1) 49 (517 + j) 0 (nn 228) (st w I1 J) = _
    rw [f_X12_putsAll_b21, if_pos (show (228 : Int32) ≤ nn 228 by decide)])
  have e1' : f_X12_putsAll_b21 NF 49 (517 + j) 0 0 (st w I0 J) = f_X12_putsAll_b54 NF 49 (517 + j) 0 0 (st w I1 J) := e1
  rw [e0, e1']
  refine loopQ (fun N v (I2 : Is) => f_X12_putsAll_b54 N 49 (517 + j) 0 (nn v) (st w I2 J)) 16 (fun v I2 => PA I I2 j ∧ I2 49 35 = nn (229 + 228 * v) ∧ I2 (517 + j) 0 = I 49 32 ∧ (∀ c, c < 228 → I2 (517 + j) (1 + c) = I 497 c) ∧ ∀ u c, u < v → c < 228 → I2 (517 + j) (229 + 228 * u + c) = I (500 + u) c) (fun z => ∃ I1, z = some (.inl (), st w I1 J) ∧ PA I I1 j ∧ I1 (517 + j) 0 = I 49 32 ∧ (∀ c, c < 228 → I1 (517 + j) (1 + c) = I 497 c) ∧ ∀ v c, v < 16 → c < 228 → I1 (517 + j) (229 + 228 * v + c) = I (500 + v) c) ?_ ?_ 16 0 I1 NF (by omega) (NF_gt (by decide)) ⟨p0.trans p1, s1, ?_, fun c hc => ?_, fun u c hu => by omega⟩
  · intro N v I2 hv ⟨p2, s2, z2, n2, b2⟩
    left
    have hn : ¬ (16 : Int32) ≤ nn v := by rw [show (16 : Int32) = nn 16 from rfl, nn_le (by omega) (by omega)]; omega
    obtain ⟨I3, e3, p3, s3, k3, d3⟩ := m_rowIn (J := J) (I := I2) S hj (r := 500 + v) ⟨by omega, by omega⟩ (RoS_500 S hv) s2 (by omega) (fun M x => f_X12_putsAll_b63 (f_X12_putsAll_b54 N) M 49 (517 + j) 0 (nn v) x) (f_X12_putsAll_b54 N 49 (517 + j) 0 (nn (v + 1))) (fun M i I1 hi => by
      have hn : ¬ (228 : Int32) ≤ nn i := by rw [show (228 : Int32) = nn 228 from rfl, nn_le (by omega) (by omega)]; omega
      show f_X12_putsAll_b63 (f_X12_putsAll_b54 N) (M + 1) 49 (517 + j) 0 (nn v) (nn i) (st w I1 J) = _
      rw [f_X12_putsAll_b63, if_neg hn, bd_st (r_49_29 S), bd_st (g_499 S hv), bd_st (r_49_29 S), bd_st (g_499 S hv), nn_succ]) (fun M I1 => by
      show f_X12_putsAll_b63 (f_X12_putsAll_b54 N) (M + 1) 49 (517 + j) 0 (nn v) (nn 228) (st w I1 J) = _
      rw [f_X12_putsAll_b63, if_pos (show (228 : Int32) ≤ nn 228 by decide), nn_succ])
    have e3' : f_X12_putsAll_b63 (f_X12_putsAll_b54 N) NF 49 (517 + j) 0 (nn v) 0 (st w I2 J) = f_X12_putsAll_b54 N 49 (517 + j) 0 (nn (v + 1)) (st w I3 J) := e3
    refine ⟨I3, ?_, p2.trans p3, ?_, ?_, fun c hc => ?_, fun u c hu hc => ?_⟩
    · show f_X12_putsAll_b54 (N + 1) 49 (517 + j) 0 (nn v) (st w I2 J) = _
      rw [f_X12_putsAll_b54, if_neg hn]
      exact e3'
    · rw [s3, show 229 + 228 * v + 228 = 229 + 228 * (v + 1) by omega]
    · rw [k3 0 (by omega)]; exact z2
    · rw [k3 _ (by omega)]; exact n2 c hc
    · by_cases e : u = v
      · rw [e, d3 c hc, p2.1 (500 + v) (by simp; omega)]
      · rw [k3 _ (by omega)]
        exact b2 u c (by omega) hc
  · intro N I2 ⟨p2, s2, z2, n2, b2⟩
    refine ⟨I2, ?_, p2, z2, n2, b2⟩
    show f_X12_putsAll_b54 (N + 1) 49 (517 + j) 0 (nn 16) (st w I2 J) = _
    rw [f_X12_putsAll_b54, if_pos (show (16 : Int32) ≤ nn 16 by decide)]
    rfl
  · rw [k1 0 (by decide)]; exact z0
  · rw [d1 c hc, p0.1 497 (by simp; omega)]
/-- taking back -/
theorem m_rowBk (S : Sw w) {j r s0 : Nat} (hj : j < 3) (hr : r ≠ 49 ∧ r < 517) (T : RoS w r) (h35 : I 49 35 = nn s0) (hs : s0 + 228 ≤ 3877) (B : Nat → Int32 → Mo Unit) (E : Mo Unit) (hB : ∀ N i (I1 : Is), i < 228 → B (N + 1) (nn i) (st w I1 J) = bd (al 0 r (nn i)) (fun v => bd (cv 12 49 (f_X12_puts 49 (517 + j) v 1)) fun u => bd (as_ r (nn i) u) fun _ => B N (nn (i + 1))) (st w I1 J)) (hE : ∀ N (I1 : Is), B (N + 1) (nn 228) (st w I1 J) = E (st w I1 J)) : ∃ I1, B NF 0 (st w I J) = E (st w I1 J) ∧ Ag [49, r] I I1 ∧ (∀ i, i ≠ 35 → I1 49 i = I 49 i) ∧ I1 49 35 = nn (s0 + 228) ∧ ∀ c, c < 228 → I1 r c = I (517 + j) (s0 + c) := by
  refine loopQ (fun N i (I1 : Is) => B N (nn i) (st w I1 J)) 228 (fun i I1 => Ag [49, r] I I1 ∧ (∀ x, x ≠ 35 → I1 49 x = I 49 x) ∧ I1 49 35 = nn (s0 + i) ∧ ∀ c, c < i → I1 r c = I (517 + j) (s0 + c)) (fun z => ∃ I1, z = E (st w I1 J) ∧ Ag [49, r] I I1 ∧ (∀ i, i ≠ 35 → I1 49 i = I 49 i) ∧ I1 49 35 = nn (s0 + 228) ∧ ∀ c, c < 228 → I1 r c = I (517 + j) (s0 + c)) ?_ ?_ 228 0 I NF (by omega) (NF_gt (by decide)) ⟨Ag.refl _ _, fun _ _ => rfl, h35, fun c hc => by omega⟩
  · intro N i I1 hi ⟨a1, f1, b1, d1⟩
    left
    have er : I1 (517 + j) = I (517 + j) := a1 (517 + j) (by simp; omega)
    have p := m_puts1 (J := J) S hj (show s0 + i < 3877 by omega) b1 (I1 r i)
    rw [er] at p
    refine ⟨up2 (up2 I1 49 35 (nn (s0 + i + 1))) r i (I (517 + j) (s0 + i)), ?_, (a1.up (by simp)).up (by simp), fun x hx => ?_, ?_, fun c hc => ?_⟩
    · show B (N + 1) (nn i) (st w I1 J) = _
      rw [hB N i I1 hi, bd_st (o_l T hi), bd_st ((v_49 S).trans p), bd_st (o_s T hi)]
    · rw [up2_a (by omega), up2_k hx]
      exact f1 x hx
    · rw [up2_a (by omega), up2_s]
      rfl
    · by_cases e : c = i
      · rw [e, up2_s]
      · rw [up2_k e, up2_a (by omega)]
        exact d1 c (by omega)
  · intro N I1 ⟨a1, f1, b1, d1⟩
    exact ⟨I1, hE N I1, a1, f1, b1, d1⟩
def KB : List Nat := [49, 497, 500, 501, 502, 503, 504, 505, 506, 507, 508, 509, 510, 511, 512, 513, 514, 515]
theorem KB_in {v : Nat} (h : v < 16) : 500 + v ∈ KB := by
  have : ∀ v, v < 16 → 500 + v ∈ KB := by decide
  exact this v h
theorem m_putBack (S : Sw w) {j : Nat} (hj : j < 3) : ∃ I1, f_X12_putsAll 49 (517 + j) 1 (st w I J) = some (.inl (), st w I1 J) ∧ Ag KB I I1 ∧ (∀ i, i ≠ 35 → i ≠ 32 → I1 49 i = I 49 i) ∧ I1 49 32 = I (517 + j) 0 ∧ (∀ c, c < 228 → I1 497 c = I (517 + j) (1 + c)) ∧ ∀ v c, v < 16 → c < 228 → I1 (500 + v) c = I (517 + j) (229 + 228 * v + c) := by
  obtain ⟨I0, eI0⟩ : ∃ I0, I0 = up2 (up2 (up2 I 49 35 0) 49 35 (nn 1)) 49 32 (I (517 + j) 0) := ⟨_, rfl⟩
  have p0 : Ag [49] I I0 := by rw [eI0]; exact (((Ag.refl _ _).up (by simp)).up (by simp)).up (by simp)
  have f0 : ∀ i, i ≠ 35 → i ≠ 32 → I0 49 i = I 49 i := fun i h1 h2 => by rw [eI0, up2_k h2, up2_k h1, up2_k h1]
  have s0 : I0 49 35 = nn 1 := by rw [eI0, up2_k (by decide), up2_s]
  have z0 : I0 49 32 = I (517 + j) 0 := by rw [eI0, up2_s]
  have e0 : f_X12_putsAll 49 (517 + j) 1 (st w I J) = f_X12_putsAll_b21 NF 49 (517 + j) 1 0 (st w I0 J) := by
    have i32 := i_49_32 (I := up2 I 49 35 0) (J := J) S
    rw [up2_k (by decide)] at i32
    have p := m_puts1 (I := up2 I 49 35 0) (J := J) S hj (s := 0) (by decide) up2_s (I 49 32)
    rw [up2_a (by omega)] at p
    rw [f_X12_putsAll, bd_st (w_49_35 S), bd_st i32, bd_st ((v_49 S).trans p), bd_st (w_49_32 S), eI0]
  obtain ⟨I1, e1, p1, f1, s1, d1⟩ := m_rowBk (J := J) S hj (r := 497) ⟨by decide, by decide⟩ (RoS_497 S) s0 (by decide) (fun N x => f_X12_putsAll_b21 N 49 (517 + j) 1 x) (f_X12_putsAll_b54 NF 49 (517 + j) 1 0) (fun N i I1 hi => by
    have hn : ¬ (228 : Int32) ≤ nn i := by rw [show (228 : Int32) = nn 228 from rfl, nn_le (by omega) (by omega)]; omega
    show f_X12_putsAll_b21 (N + 1) 49 (517 + j) 1 (nn i) (st w I1 J) = _
    rw [f_X12_putsAll_b21, if_neg hn, bd_st (r_49_27 S), bd_st (r_49_27 S), nn_succ]) (fun N I1 => by
    show f_X12_putsAll_b21 (N + 1) 49 (517 + j) 1 (nn 228) (st w I1 J) = _
    rw [f_X12_putsAll_b21, if_pos (show (228 : Int32) ≤ nn 228 by decide)])
  have e1' : f_X12_putsAll_b21 NF 49 (517 + j) 1 0 (st w I0 J) = f_X12_putsAll_b54 NF 49 (517 + j) 1 0 (st w I1 J) := e1
  rw [e0, e1']
  have k0 : I0 (517 + j) = I (517 + j) := p0 (517 + j) (by simp; omega)
  refine loopQ (fun N v (I2 : Is) => f_X12_putsAll_b54 N 49 (517 + j) 1 (nn v) (st w I2 J)) 16 (fun v I2 => Ag KB I I2 ∧ (∀ i, i ≠ 35 → i ≠ 32 → I2 49 i = I 49 i) ∧ I2 49 32 = I (517 + j) 0 ∧ I2 49 35 = nn (229 + 228 * v) ∧ (∀ c, c < 228 → I2 497 c = I (517 + j) (1 + c)) ∧ ∀ u c, u < v → c < 228 → I2 (500 + u) c = I (517 + j) (229 + 228 * u + c)) (fun z => ∃ I1, z = some (.inl (), st w I1 J) ∧ Ag KB I I1 ∧ (∀ i, i ≠ 35 → i ≠ 32 → I1 49 i = I 49 i) ∧ I1 49 32 = I (517 + j) 0 ∧ (∀ c, c < 228 → I1 497 c = I (517 + j) (1 + c)) ∧ ∀ v c, v < 16 → c < 228 → I1 (500 + v) c = I (517 + j) (229 + 228 * v + c)) ?_ ?_ 16 0 I1 NF (by omega) (NF_gt (by decide)) ⟨(p0.mono (by decide)).trans (p1.mono (by decide)), fun i h1 h2 => (f1 i h1).trans (f0 i h1 h2), (f1 32 (by decide)).trans z0, s1, fun c hc => by rw [d1 c hc, k0], fun u c hu => by omega⟩
  · intro N v I2 hv ⟨p2, g2, z2, s2, n2, b2⟩
    left
    have hn : ¬ (16 : Int32) ≤ nn v := by rw [show (16 : Int32) = nn 16 from rfl, nn_le (by omega) (by omega)]; omega
    have k2 : I2 (517 + j) = I (517 + j) := p2 (517 + j) (by
      have : ∀ j, j < 3 → 517 + j ∉ KB := by decide
      exact this j hj)
    obtain ⟨I3, e3, p3, f3, s3, d3⟩ := m_rowBk (J := J) (I := I2) S hj (r := 500 + v) ⟨by omega, by omega⟩ (RoS_500 S hv) s2 (by omega) (fun M x => f_X12_putsAll_b63 (f_X12_putsAll_b54 N) M 49 (517 + j) 1 (nn v) x) (f_X12_putsAll_b54 N 49 (517 + j) 1 (nn (v + 1))) (fun M i I1 hi => by
      have hn : ¬ (228 : Int32) ≤ nn i := by rw [show (228 : Int32) = nn 228 from rfl, nn_le (by omega) (by omega)]; omega
      show f_X12_putsAll_b63 (f_X12_putsAll_b54 N) (M + 1) 49 (517 + j) 1 (nn v) (nn i) (st w I1 J) = _
      rw [f_X12_putsAll_b63, if_neg hn, bd_st (r_49_29 S), bd_st (g_499 S hv), bd_st (r_49_29 S), bd_st (g_499 S hv), nn_succ]) (fun M I1 => by
      show f_X12_putsAll_b63 (f_X12_putsAll_b54 N) (M + 1) 49 (517 + j) 1 (nn v) (nn 228) (st w I1 J) = _
      rw [f_X12_putsAll_b63, if_pos (show (228 : Int32) ≤ nn 228 by decide), nn_succ])
    have e3' : f_X12_putsAll_b63 (f_X12_putsAll_b54 N) NF 49 (517 + j) 1 (nn v) 0 (st w I2 J) = f_X12_putsAll_b54 N 49 (517 + j) 1 (nn (v + 1)) (st w I3 J) := e3
    refine ⟨I3, ?_, p2.trans (p3.mono ?_), fun i h1 h2 => (f3 i h1).trans (g2 i h1 h2), (f3 32 (by decide)).trans z2, ?_, fun c hc => ?_, fun u c hu hc => ?_⟩
    · show f_X12_putsAll_b54 (N + 1) 49 (517 + j) 1 (nn v) (st w I2 J) = _
      rw [f_X12_putsAll_b54, if_neg hn]
      exact e3'
    · intro a ha
      simp only [List.mem_cons, List.not_mem_nil, or_false] at ha
      rcases ha with h | h
      · rw [h]; decide
      · rw [h]; exact KB_in hv
    · rw [s3, show 229 + 228 * v + 228 = 229 + 228 * (v + 1) by omega]
    · rw [p3 497 (by simp; omega)]; exact n2 c hc
    · by_cases e : u = v
      · rw [e, d3 c hc, k2]
      · rw [p3 (500 + u) (by simp; omega)]
        exact b2 u c (by omega) hc
  · intro N I2 ⟨p2, g2, z2, s2, n2, b2⟩
    refine ⟨I2, ?_, p2, g2, z2, n2, b2⟩
    show f_X12_putsAll_b54 (N + 1) 49 (517 + j) 1 (nn 16) (st w I2 J) = _
    rw [f_X12_putsAll_b54, if_pos (show (16 : Int32) ≤ nn 16 by decide)]
    rfl
/-- a row moved elsewhere -/
theorem RwR.mv {I I1 : Is} {r o r' o' : Nat} {A : At} (H : RwR I r o A) (h : ∀ c, c < 228 → I1 r' (o' + c) = I r (o + c)) (h40 : hg A ≤ 40) : RwR I1 r' o' A := by
  obtain ⟨h1, ⟨h2, h3, h4, h5⟩, h6⟩ := H
  refine ⟨fun p hp => ?_, ⟨?_, ?_, ?_, ?_⟩, fun i hi => ?_⟩
  · rw [h _ (by omega), h _ (by omega), h _ (by omega)]
    exact h1 p hp
  · rw [h _ (by omega)]; exact h2
  · rw [h _ (by omega)]; exact h3
  · rw [h _ (by omega)]; exact h4
  · rw [h _ (by omega)]; exact h5
  · rw [h _ (by omega), h _ (by omega), h _ (by omega), h _ (by omega), h _ (by omega)]
    exact h6 i hi
theorem HiM.mv {I I1 : Is} {F : Fo} {r r' : Nat → Nat × Nat} : ∀ {l : List At}, HiW F l → HiM I r l → (∀ i c, i < l.length → c < 228 → I1 (r' i).1 ((r' i).2 + c) = I (r i).1 ((r i).2 + c)) → HiM I1 r' l
  | [], _, _, _ => trivial
  | A :: l, W, H, h => ⟨H.1.mv (fun c hc => h l.length c (Nat.lt_succ_self _) hc) W.1.1, HiM.mv W.2.2.2 H.2 fun i c hi hc => h i c (Nat.lt_succ_of_lt hi) hc⟩
end IMAGE
