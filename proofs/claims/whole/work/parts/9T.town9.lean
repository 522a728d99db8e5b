/-! PURE PART: nothing told yet -/
def fo0 : Fo := ((0, 1), (fun _ => 0), (fun _ => 0), (fun _ => 0), fun _ => 0)
theorem fo0_W : FoW fo0 := ⟨by decide, by decide, fun p hp => absurd hp (Nat.not_lt_zero _)⟩
section TOWN9
variable {w : Wd} {I : Is} {J : Js} {b : Nat → Nat} {n : Nat}
theorem m_nothing (S : Sw w) : ∃ I1, f_X12_tellsNothing 49 (st w I J) = some (.inl (), st w I1 J) ∧ Ag [52, 54] I I1 ∧ DM I1 fo0 := by
  have key := loopQ (fun N i (I1 : Is) => f_X12_tellsNothing_b16 N 49 (nn i) (st w I1 J)) 8 (fun i I1 => Ag [52, 54] I I1 ∧ I1 52 0 = 0 ∧ I1 52 1 = 1 ∧ ∀ q, q < i → I1 54 q = 0) (fun z => ∃ I1, z = some (.inl (), st w I1 J) ∧ Ag [52, 54] I I1 ∧ DM I1 fo0) ?_ ?_ 8 0 (up2 (up2 I 52 0 0) 52 1 1) NF (by omega) (NF_gt (by omega)) ⟨((Ag.refl _ _).up (by decide)).up (by decide), by rw [up2_k (by decide), up2_s], up2_s, fun q hq => by omega⟩
  · obtain ⟨I1, e1, h1⟩ := key
    refine ⟨I1, ?_, h1⟩
    rw [f_X12_tellsNothing, bd_st (r_49_11 S), bd_st (s_52_0 S), bd_st (r_49_11 S), bd_st (s_52_1 S)]
    exact e1
  · intro N i I1 hi ⟨a1, b1, c1, d1⟩
    left
    refine ⟨up2 I1 54 i 0, ?_, a1.up (by decide), by rw [up2_a (by decide)]; exact b1, by rw [up2_a (by decide)]; exact c1, fun q hq => ?_⟩
    · show f_X12_tellsNothing_b16 (N + 1) 49 (nn i) (st w I1 J) = _
      rw [f_X12_tellsNothing_b16, if_neg (by rw [show (8 : Int32) = nn 8 from rfl, nn_le (by omega) (by omega)]; omega), bd_st (r_49_13 S), bd_st (s_54 S hi), nn_succ]
    · by_cases e : q = i
      · rw [e, up2_s]
      · rw [up2_k e]; exact d1 q (by omega)
  · intro N I1 ⟨a1, b1, c1, d1⟩
    refine ⟨I1, ?_, a1, b1, c1, fun p hp => absurd hp (Nat.not_lt_zero _), fun p hp => ?_⟩
    · show f_X12_tellsNothing_b16 (N + 1) 49 (nn 8) (st w I1 J) = _
      rw [f_X12_tellsNothing_b16, if_pos (by decide)]
      rfl
    · rw [d1 p hp, if_neg (show ¬ p < sz fo0 from Nat.not_lt_zero p)]
      rfl
/-- the class reads a town from its start -/
theorem c_readT (S : Sw w) (W : TxW b n) (C : CT b n 0 I) : CRw w J I (f_X2_read 8 1 (st w I J)) (twR b n 61 0 0 fo0) := by
  have a0 : Ag [8] I (up2 (up2 I 8 4 0) 8 5 1) := ((Ag.refl _ _).up (by decide)).up (by decide)
  have D0 : DC (up2 (up2 I 8 4 0) 8 5 1) fo0 := ⟨by rw [up2_k (by decide), up2_s]; rfl, by rw [up2_s]; rfl, fun p hp => absurd hp (Nat.not_lt_zero _)⟩
  have R := c_townR (J := J) S W 61 0 0 fo0 _ NF rfl (C.ag a0 (by decide) (by decide)) D0 fo0_W (NF_gt (by omega))
  have e : f_X2_read 8 1 (st w I J) = f_X2_read_b12 NF 8 1 (nn 0) (st w (up2 (up2 I 8 4 0) 8 5 1) J) := by
    rw [f_X2_read, bd_st (w_8_4 S), bd_st (w_8_5 S)]
    rfl
  rw [e]
  cases h : twR b n 61 0 0 fo0 with
  | inl r =>
    rw [h] at R
    obtain ⟨I1, e1, a1, x1⟩ := R
    exact ⟨I1, e1, (a0.mono (by decide)).trans a1, x1⟩
  | inr G =>
    rw [h] at R
    obtain ⟨I1, e1, a1, x1⟩ := R
    exact ⟨I1, e1, (a0.mono (by decide)).trans a1, x1⟩
end TOWN9
