/-! PURE PART: the class takes the folk it read -/
section TOWN10
variable {w : Wd} {I : Is} {J : Js} {G : Fo}
theorem c_copyT (S : Sw w) (D : DC I G) (WG : FoW G) : ∃ I1, f_X2_copyFrom 3 8 (st w I J) = some (.inl (), st w I1 J) ∧ Ag [3, 4, 5, 6, 7] I I1 ∧ FoC I1 G := by
  have b0 := S.1
  have z8 := WG.1
  have cp := fun (I : Is) (a c : Nat) (h1 : a < 526) (h2 : c < 526) (s1 : shT a = .inl (0, 8, 0)) (s2 : shT c = .inl (0, 8, 0)) => cp_st (I := I) (J := J) (w := w) (a0 := a) (a1 := c) (x := 8) (k := 8) rfl (by decide) (by omega) (by omega) ((S.2.1 a h1).trans s1) ((S.2.1 c h2).trans s2) (by decide) (by decide)
  obtain ⟨I1, hI1⟩ : ∃ I1, I1 = up1 (up1 (up1 (up1 I 4 (va_cpy (I 9) (I 4) 0 0 8)) 5 (va_cpy (I 10) (I 5) 0 0 8)) 6 (va_cpy (I 11) (I 6) 0 0 8)) 7 (va_cpy (I 12) (I 7) 0 0 8) := ⟨_, rfl⟩
  have a1 : Ag [4, 5, 6, 7] I I1 := fun a ha => by
    simp only [List.mem_cons, List.not_mem_nil, or_false, not_or] at ha
    rw [hI1, up1_n ha.2.2.2, up1_n ha.2.2.1, up1_n ha.2.1, up1_n ha.1]
  have j4 := i_8_4 (I := I1) (J := J) S
  rw [a1 8 (by decide), D.1] at j4
  have j5 := i_8_5 (I := up2 I1 3 4 (nn (sz G))) (J := J) S
  rw [up2_a (by decide), a1 8 (by decide), D.2.1] at j5
  refine ⟨up2 (up2 I1 3 4 (nn (sz G))) 3 5 (nn (ak G)), ?_, ((a1.mono (by decide)).up (by decide)).up (by decide), by rw [up2_k (by decide), up2_s], up2_s, fun p hp => ?_⟩
  · rw [f_X2_copyFrom, bd_st (r_8_0 S), bd_st (r_3_0 S), bd_st (cp I 9 4 (by decide) (by decide) rfl rfl), bd_st (r_8_1 S), bd_st (r_3_1 S), bd_st (cp _ 10 5 (by decide) (by decide) rfl rfl), bd_st (r_8_2 S), bd_st (r_3_2 S), bd_st (cp _ 11 6 (by decide) (by decide) rfl rfl), bd_st (r_8_3 S), bd_st (r_3_3 S), bd_st (cp _ 12 7 (by decide) (by decide) rfl rfl)]
    simp (disch := decide) only [up1_n]
    rw [← hI1, bd_st j4, bd_st (w_3_4 S), bd_st j5, bd_st (w_3_5 S)]
    rfl
  · have d := D.2.2 p hp
    have v : ∀ f g : Nat → Int32, va_cpy f g 0 0 8 p = f p := fun f g => by
      show (if 0 ≤ p ∧ p < 0 + 8 then f (0 + (p - 0)) else g p) = _
      rw [if_pos (by omega), Nat.zero_add, Nat.sub_zero]
    simp (disch := decide) only [up2_a, hI1, up1_n, up1_s, v]
    exact d
end TOWN10
