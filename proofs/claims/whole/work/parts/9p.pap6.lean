/-! PURE PART: papers, paper, the calls -/
section PCALL
variable {w : Wd} {I : Is} {J : Js} {D : Dt}
theorem KQ_KC : ∀ a ∈ KQ, a ∈ KC := by decide
theorem b_pap (S : Sw w) (HC : RC w I J D) (HM : RM I D) (W : WD D) : ∃ I1, f_X0_match 33 43 (st w I J) = some (.inl (), st w I1 J) ∧ Ag KC I I1 ∧ I1 33 4 = nn (MXc (maF (dF D) (dA D)) (sz (dF D)) 0 (Fr0 (dA D))) ∧ (∀ q, q < sz (dF D) → I1 34 q = ohI (LXc (maF (dF D) (dA D)) (sz (dF D)) 0 (Fr0 (dA D)) q)) ∧ ∀ J', ∃ I2, f_X12_laysPapers 49 (st w (up2 I1 49 0 0) J') = some (.inl (), st w I2 J') ∧ AgM (up2 I1 49 0 0) I2 ∧ I2 49 44 = nn (MXc (maF (dF D) (dA D)) (sz (dF D)) 0 (Fr0 (dA D))) ∧ ∀ q, q < sz (dF D) → I2 523 q = ohI (LXc (maF (dF D) (dA D)) (sz (dF D)) 0 (Fr0 (dA D)) q) := by
  have Ws := W
  obtain ⟨WF, ⟨WA, -⟩, -⟩ := W
  obtain ⟨I1, e1, a1, c1, p1⟩ := c_match (J := J) S HC.1.1 WF HC.1.2.1 WA
  have a1' : Ag KC I I1 := a1.mono KQ_KC
  refine ⟨I1, e1, a1', c1, p1, fun J' => ?_⟩
  have HM1 : RM (up2 I1 49 0 0) D := (HM.ag Ws a1' (fun a ha => (KC_sg a ha).2)).t0 Ws
  obtain ⟨I2, e2, f2, c2, p2⟩ := m_papers (J := J') S WF WA HM1.1.1 HM1.1.2.1
  refine ⟨I2, e2, ⟨f2.1.mono (by decide), fun j hj => f2.2.1 j ?_⟩, c2, p2⟩
  intro e
  subst e
  exact absurd hj (by decide)
theorem g_papers (S : Sw w) (HC : RC w I J D) (HM : RM I D) (W : WD D) : CallG w I J (f_X11_papers 0) (f_X12_papers 49) := by
  obtain ⟨I1, e1, a1, c1, p1, h⟩ := b_pap S HC HM W
  have i4 := i_33_4 (I := I1) (J := J) S
  rw [c1] at i4
  refine ⟨nn (MXc (maF (dF D) (dA D)) (sz (dF D)) 0 (Fr0 (dA D))), I1, ?_, a1, fun J' => ?_⟩
  · rw [f_X11_papers, bd_st (r_0_9 S), bd_st (r_0_11 S), bd_st ((v_33 S).trans e1), bd_st (r_0_9 S), bd_st i4]
    rfl
  · obtain ⟨I2, e2, a2, c2, p2⟩ := h J'
    have i44 := i_49_44 (I := I2) (J := J') S
    rw [c2] at i44
    refine ⟨I2, ?_, a2⟩
    rw [f_X12_papers, bd_st (w_49_0 S), bd_st ((v_49 S).trans e2), bd_st i44]
    rfl
theorem g_paper (S : Sw w) (hr : Rm w) (HC : RC w I J D) (HM : RM I D) (W : WD D) (x1 : Int32) : Call w I J 1 (f_X11_paper 0 x1) (f_X12_paper 49 x1) := by
  have HF := HC.1.1
  have h8 := W.1.1
  by_cases h1 : inP (sz (dF D)) x1
  rotate_left
  · refine Or.inr (Or.inl ⟨?_, fun J' => ⟨0, ?_⟩⟩)
    · rw [f_X11_paper, bd_er ((v_0 S).trans (cp_no S hr HF h8 h1))]
    · have S1 := tw_Sw S 13
      have HMx : RM (up2 (up2 I 0 16 (I 0 16 + 1)) 49 0 0) D := (HM.ag W ((Ag.refl [0] I).up (by decide)) (by decide)).t0 W
      have MF := HMx.1.1
      have t0 : up2 (up2 I 0 16 (I 0 16 + 1)) 49 0 0 49 0 = 0 := up2_s
      have e := mb_10 (J := J') S1 1 (by decide) t0
      rw [up2_a (by decide), up2_a (by decide)] at e
      rw [f_X12_paper, bd_st (w_49_0 S1), bd_st ((v_49 S1).trans (mp_no S1 MF h8 h1)), if_pos rfl, f_X12_paper_b19, bd_st ((v_49 S1).trans e), if_neg (by decide)]
      rfl
  obtain ⟨k1, h1, rfl⟩ := h1
  refine Or.inl ?_
  obtain ⟨I1, e1, a1, c1, p1, h⟩ := b_pap S HC HM W
  have l34 := l_34 (I := I1) (J := J) (k := k1) S (by omega)
  rw [p1 k1 h1] at l34
  refine ⟨ohI (LXc (maF (dF D) (dA D)) (sz (dF D)) 0 (Fr0 (dA D)) k1), I1, ?_, a1, fun J' => ?_⟩
  · rw [f_X11_paper, bd_st ((v_0 S).trans (cp_ok S HF h8 h1)), bd_st (r_0_9 S), bd_st (r_0_11 S), bd_st ((v_33 S).trans e1), bd_st (r_0_9 S), bd_st (r_33_1 S), bd_st l34]
    rfl
  · obtain ⟨I2, e2, a2, c2, p2⟩ := h J'
    have HM1 : RM (up2 I1 49 0 0) D := (HM.ag W a1 (fun a ha => (KC_sg a ha).2)).t0 W
    have t0 : up2 I1 49 0 0 49 0 = 0 := up2_s
    have l := l_523 (I := I2) (J := J') (k := k1) S (by omega)
    rw [p2 k1 h1] at l
    refine ⟨I2, ?_, a2⟩
    rw [f_X12_paper, bd_st (w_49_0 S), bd_st ((v_49 S).trans (mp_ok S HM1.1.1 h8 h1)), if_neg (by decide), f_X12_paper_b19, bd_st ((v_49 S).trans (mb_0 S 1 0 t0)), if_pos rfl, bd_st ((v_49 S).trans e2), bd_st (r_49_43 S), bd_st l]
    rfl
end PCALL
