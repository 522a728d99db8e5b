/-! PURE PART: the model reads the town -/
theorem six_p : f_X12_six 16 5 18 19 15 14 = pu (nn (wcK 0 0 6)) := by
  unfold f_X12_six f_X12_six_b29 f_X12_six_b49
  rw [if_neg (by decide), if_neg (by decide), if_neg (by decide)]
  exact congrArg pu (by decide +kernel)
theorem six_l : f_X12_six 12 9 11 5 0 0 = pu (nn (wcK 0 11 15)) := by
  unfold f_X12_six f_X12_six_b29 f_X12_six_b49
  rw [if_neg (by decide), if_pos rfl, if_pos rfl]
  exact congrArg pu (by decide +kernel)
theorem six_s : f_X12_six 19 8 25 0 0 0 = pu (nn (wcK 0 7 10)) := by
  unfold f_X12_six f_X12_six_b29 f_X12_six_b49
  rw [if_pos rfl, if_pos rfl, if_pos rfl]
  exact congrArg pu (by decide +kernel)
theorem kd_ne : ¬ nn (wcK 0 0 6) = nn (wcK 0 11 15) ∧ ¬ nn (wcK 0 0 6) = nn (wcK 0 7 10) ∧ ¬ nn (wcK 0 7 10) = nn (wcK 0 11 15) := by decide +kernel
def kdM : Er ⊕ (Nat × Nat) → Int32
  | .inl _ => -1
  | .inr v => if v.1 = 0 then 0 else if v.1 = 1 then 2 else 1
def DM (I : Is) (G : Fo) : Prop := I 52 0 = nn (sz G) ∧ I 52 1 = nn (ak G) ∧ (∀ p, p < sz G → I (57 + p) 0 = nn (fa G p) ∧ I (57 + p) 1 = nn (te G p) ∧ I (57 + p) 2 = nn (pr G p)) ∧ ∀ p, p < 8 → I 54 p = nn (if p < sz G then sy G p else 0)
section TOWN3
variable {w : Wd} {I : Is} {J : Js} {b : Nat → Nat} {n p : Nat} {G : Fo}
theorem m_kindR (S : Sw w) (W : TxW b n) (hp : p ≤ n) (C : MT b n p I) : ∃ I1, f_X12_kindHere 49 (st w I J) = some (.inl (kdM (wdR b n 0 [6, 10, 15] p)), st w I1 J) ∧ MA I I1 ∧ MT b n p I1 ∧ I1 49 4 = nn (sk b n p) := by
  have hb : ∀ c, sk b n p ≤ c → c < wE b n (sk b n p) → 97 ≤ b c ∧ b c ≤ 122 := fun c h1 h2 => wE_in h1 h2
  obtain ⟨-, -, l6, hc0, -, -, -, l10, hc1, -, -, -, l15, hc2, -, -⟩ := sg_0
  have k0 := wc_lk (b := b) (s := sk b n p) (e := wE b n (sk b n p)) l6 hc0 hb
  have k1 := wc_lk (b := b) (s := sk b n p) (e := wE b n (sk b n p)) l10 hc1 hb
  have k2 := wc_lk (b := b) (s := sk b n p) (e := wE b n (sk b n p)) l15 hc2 hb
  have k1 : samP 0 b (sk b n p) (wE b n (sk b n p)) 7 10 ↔ wcM b (sk b n p) (wE b n (sk b n p)) = nn (wcK 0 7 10) := k1
  have k2 : samP 0 b (sk b n p) (wE b n (sk b n p)) 11 15 ↔ wcM b (sk b n p) (wE b n (sk b n p)) = nn (wcK 0 11 15) := k2
  have ew : wdR b n 0 [6, 10, 15] p = if samP 0 b (sk b n p) (wE b n (sk b n p)) 0 6 then .inr (0, wE b n (sk b n p)) else if samP 0 b (sk b n p) (wE b n (sk b n p)) 7 10 then .inr (1, wE b n (sk b n p)) else if samP 0 b (sk b n p) (wE b n (sk b n p)) 11 15 then .inr (2, wE b n (sk b n p)) else .inl (1, sk b n p) := by
    unfold wdR
    simp only [wIx]
    by_cases q0 : samP 0 b (sk b n p) (wE b n (sk b n p)) 0 6
    · rw [if_pos q0, if_pos q0]
    · rw [if_neg q0, if_neg q0]
      by_cases q1 : samP 0 b (sk b n p) (wE b n (sk b n p)) 7 10
      · rw [if_pos q1]
        rw [if_pos q1]
      · by_cases q2 : samP 0 b (sk b n p) (wE b n (sk b n p)) 11 15
        · rw [if_neg q1, if_pos q2]
          rw [if_neg q1, if_pos q2]
        · rw [if_neg q1, if_neg q2]
          simp only [q1, q2, if_false]
  obtain ⟨n1, n2, n3⟩ := kd_ne
  obtain ⟨I1, e1, a1, c1, p1⟩ := m_isWR (J := J) S W C six_p
  obtain ⟨I2, e2, a2, c2, p2⟩ := m_isWR (J := J) S W c1 six_l
  obtain ⟨I3, e3, a3, c3, p3⟩ := m_isWR (J := J) S W c2 six_s
  rw [ew]
  by_cases q0 : wcM b (sk b n p) (wE b n (sk b n p)) = nn (wcK 0 0 6)
  · rw [bI_t q0] at e1
    refine ⟨I1, ?_, a1, c1, p1⟩
    rw [if_pos (k0.2 q0), f_X12_kindHere, bd_st ((v_49 S).trans e1), if_neg (by decide)]
    rfl
  rw [bI_f q0] at e1
  by_cases q1 : wcM b (sk b n p) (wE b n (sk b n p)) = nn (wcK 0 11 15)
  · rw [bI_t q1] at e2
    refine ⟨I2, ?_, a1.trans a2, c2, p2⟩
    rw [if_neg (fun x => q0 (k0.1 x)), if_neg (fun x => n3 ((k1.1 x).symm.trans q1)), if_pos (k2.2 q1), f_X12_kindHere, bd_st ((v_49 S).trans e1), if_pos rfl, bd_st ((v_49 S).trans e2), if_neg (by decide)]
    rfl
  rw [bI_f q1] at e2
  by_cases q2 : wcM b (sk b n p) (wE b n (sk b n p)) = nn (wcK 0 7 10)
  · rw [bI_t q2] at e3
    refine ⟨I3, ?_, (a1.trans a2).trans a3, c3, p3⟩
    rw [if_neg (fun x => q0 (k0.1 x)), if_pos (k1.2 q2), f_X12_kindHere, bd_st ((v_49 S).trans e1), if_pos rfl, bd_st ((v_49 S).trans e2), if_pos rfl, bd_st ((v_49 S).trans e3), if_neg (by decide)]
    rfl
  · rw [bI_f q2] at e3
    refine ⟨I3, ?_, (a1.trans a2).trans a3, c3, p3⟩
    rw [if_neg (fun x => q0 (k0.1 x)), if_neg (fun x => q2 (k1.1 x)), if_neg (fun x => q1 (k2.1 x)), f_X12_kindHere, bd_st ((v_49 S).trans e1), if_pos rfl, bd_st ((v_49 S).trans e2), if_pos rfl, bd_st ((v_49 S).trans e3), if_pos rfl]
    rfl
end TOWN3
