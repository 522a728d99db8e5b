/-! PURE PART: the model reads the whole town -/
def MTe (w : Wd) (J : Js) (I : Is) (b : Nat → Nat) (n : Nat) (z : Option ((Int32 ⊕ (Nat × Nat)) × PS)) : Er ⊕ Fo → Prop
  | .inl r => ∃ I1, z = f_X12_town_b71 49 (st w I1 J) ∧ Ag KE I I1 ∧ (∀ j, j ≠ 4 → j ≠ 5 → j ≠ 6 → j ≠ 7 → I1 49 j = I 49 j) ∧ MTx b n r I1
  | .inr G => ∃ I1, z = f_X12_town_b71 49 (st w I1 J) ∧ Ag KE I I1 ∧ (∀ j, j ≠ 4 → j ≠ 5 → j ≠ 6 → j ≠ 7 → I1 49 j = I 49 j) ∧ I1 49 5 = 0 ∧ DM I1 G ∧ FoW G
section TOWN8
variable {w : Wd} {J : Js} {b : Nat → Nat} {n : Nat}
theorem m_townR (S : Sw w) (W : TxW b n) : ∀ d c p G I N, c + d = 61 → c ≤ 60 → p ≤ n → MT b n p I → I 49 4 = nn (sk b n p) → DM I G → FoW G → I 49 7 = nn c → d + 1 < N → MTe w J I b n (f_X12_town_b42 N 49 (st w I J)) (twR b n d c p G) := by
  have hn := W.1
  intro d
  induction d with
  | zero => intro c p G I N hc hc'; omega
  | succ d ih =>
    intro c p G I N hc hc' hp C h4 D WG h7 hN
    obtain ⟨N, rfl⟩ : ∃ M, N = M + 2 := ⟨N - 2, by omega⟩
    have g := sk_ge (b := b) hp
    have i5 := i_49_5 (I := I) (J := J) S
    rw [C.2.1] at i5
    have i4 := i_49_4 (I := I) (J := J) S
    rw [h4] at i4
    have i2 := i_49_2 (I := I) (J := J) S
    rw [C.1.1] at i2
    have ql : (nn n ≤ nn (sk b n p)) = (n ≤ sk b n p) := nn_le (by omega) (by omega)
    unfold twR
    by_cases h : sk b n p < n
    rotate_left
    · rw [if_neg h]
      refine ⟨I, ?_, Ag.refl _ _, fun _ _ _ _ _ => rfl, C.2.1, D, WG⟩
      rw [f_X12_town_b42, bd_st i5, if_pos rfl, bd_st i4, bd_st i2, if_pos (by rw [ql]; omega)]
    rw [if_pos h]
    have R := m_clauR (J := J) S W WG hp hc' C D h7
    cases h2 : clR b n c p G with
    | inl r =>
      rw [h2] at R
      obtain ⟨I1, e1, a1, g1, c1⟩ := R
      obtain ⟨I2, e2, a2, c2⟩ := m_blX (J := J) S W c1
      have h5 : ¬ I2 49 5 = 0 := by rw [c2.2.1]; exact c2.2.2.1
      refine ⟨I2, ?_, a1.trans (a2.1.mono (by decide)), fun j x y z t => (a2.2 j x y z).trans (g1 j x y z t), c2⟩
      rw [show N + 2 = N + 1 + 1 from rfl, f_X12_town_b42, bd_st i5, if_pos rfl, bd_st i4, bd_st i2, if_neg (by rw [ql]; omega), bd_st ((v_49 S).trans e1), bd_st ((v_49 S).trans e2), f_X12_town_b42, bd_st (i_49_5 S), if_neg h5]
    | inr u =>
      rw [h2] at R
      obtain ⟨I1, e1, a1, g1, c1, d1, s1⟩ := R
      obtain ⟨W2, n2, q60⟩ := clR_W WG hp h2
      obtain ⟨I2, e2, a2, c2, p2⟩ := m_blR (J := J) S W c1
      have d2 := d1.ma W2.1 a2.1
      have s2 : I2 49 7 = nn (c + 1) := (a2.2 7 (by decide) (by decide) (by decide)).trans s1
      have e3 : f_X12_town_b42 (N + 2) 49 (st w I J) = f_X12_town_b42 (N + 1) 49 (st w I2 J) := by
        rw [show N + 2 = N + 1 + 1 from rfl, f_X12_town_b42, bd_st i5, if_pos rfl, bd_st i4, bd_st i2, if_neg (by rw [ql]; omega), bd_st ((v_49 S).trans e1), bd_st ((v_49 S).trans e2)]
      rw [e3]
      have R2 := ih (c + 1) u.1 u.2 I2 (N + 1) (by omega) (by omega) n2 c2 p2 d2 W2 s2 (by omega)
      have aa : Ag KE I I2 := a1.trans (a2.1.mono (by decide))
      show MTe w J I b n _ (twR b n d (c + 1) u.1 u.2)
      cases h3 : twR b n d (c + 1) u.1 u.2 with
      | inl r =>
        rw [h3] at R2
        obtain ⟨I3, e4, a4, g4, x4⟩ := R2
        exact ⟨I3, e4, aa.trans a4, fun j x y z t => (g4 j x y z t).trans ((a2.2 j x y z).trans (g1 j x y z t)), x4⟩
      | inr G' =>
        rw [h3] at R2
        obtain ⟨I3, e4, a4, g4, x4⟩ := R2
        exact ⟨I3, e4, aa.trans a4, fun j x y z t => (g4 j x y z t).trans ((a2.2 j x y z).trans (g1 j x y z t)), x4⟩
end TOWN8
