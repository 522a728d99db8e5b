/-! PURE PART: words, the call -/
def KW : List Nat := [1, 24, 25, 26, 49, 397, 398, 399, 400, 401, 402, 403, 404, 406, 407, 408, 409, 410, 411, 412, 413]
section WCALL
variable {w : Wd} {I I' : Is} {J J' : Js} {D : Dt} {k : Nat}
theorem inv_w (S : Sw w) (n1 : w.1 ≤ 526 + 7 * k) (n2 : w.2.1 ≤ 50000 + 100 * k) (HC : RC w I J D) (HM : RM I D) (W : WD D) {V : Wo} {P : Int32} (ag : Ag KW I I') (g6 : ∀ j, 9 ≤ j → j ≠ 31 → I' 49 j = I 49 j) (c1 : I' 1 1 = 0) (c6 : I' 1 6 = P) (hC : WoC I' J' (dF D) V) (m1 : I' 49 1 = 0) (m3 : I' 49 3 = P) (hM : WoM I' V) (hW : WoW (dF D) V) : Inv (k + 1) w I' J' := by
  obtain ⟨⟨HF, HA, HL, HWo, ⟨HT1, HT2⟩, HH, ⟨HI1, HI2⟩, hP, hN⟩, hE, hG⟩ := HC
  obtain ⟨⟨MF, MA, ML, MW, ⟨MT1, MT2⟩, ⟨MH1, MH2⟩, ⟨MI1, MI2⟩, mP, mN⟩, mE, mG⟩ := HM
  obtain ⟨WF, WHi, W16, WL, WW, ⟨WT1, WT2⟩, WM3, WMi⟩ := W
  refine ⟨S, by omega, by omega, ((dF D, dA D, dL D, V), (0, dB D), D.2.2.1, (P, dN D, dE D, dG D)), ⟨⟨?_, ?_, ?_, hC, ⟨c1, fun c hc => absurd hc (Nat.not_lt_zero _)⟩, ?_, ⟨?_, ?_⟩, c6, ?_⟩, ?_, ?_⟩, ⟨⟨?_, ?_, ?_, hM, ⟨m1, fun c hc => absurd hc (Nat.not_lt_zero _)⟩, ⟨?_, ?_⟩, ⟨?_, ?_⟩, m3, ?_⟩, ?_, ?_⟩, ⟨WF, WHi, W16, WL, hW, ⟨Nat.zero_le _, fun c hc => absurd hc (Nat.not_lt_zero _)⟩, WM3, WMi⟩⟩
  · have := HF
    unfold FoC at this
    show FoC I' (dF D)
    unfold FoC
    rw [ag 3 (by decide), ag 4 (by decide), ag 5 (by decide), ag 6 (by decide), ag 7 (by decide)]
    exact this
  · exact HA.ag ag (by decide)
  · exact HL.ag ag (by decide) (by decide)
  · exact HH.ag fun b hb => ag b (by simp [KW]; omega)
  · rw [ag 0 (by decide)]
    exact HI1
  · exact HI2.ag fun b hb => ag b (by simp [KW]; omega)
  · rw [ag 0 (by decide)]
    exact hN
  · rw [ag 0 (by decide)]
    exact hE
  · rw [ag 0 (by decide)]
    exact hG
  · exact MF.ag WF.1 ag (by decide)
  · exact MA.ag ag (by decide)
  · exact ML.kp WL.1 (fun j hj => ag (75 + j) (by simp [KW]; omega)) (g6 17 (by decide) (by decide))
  · rw [g6 32 (by decide) (by decide)]
    exact MH1
  · exact HiM.ag (fun i hi => ag (500 + i) (by simp [KW]; omega)) MH2
  · rw [g6 34 (by decide) (by decide)]
    exact MI1
  · exact ImM.ag (fun i hi => ag (517 + i) (by simp [KW]; omega)) MI2
  · rw [g6 33 (by decide) (by decide)]
    exact mN
  · rw [ag 51 (by decide)]
    exact mE
  · rw [ag 51 (by decide)]
    exact mG
theorem g_words (H : Inv k w I J) (hk : k ≤ 512) (x : Int32) : CallK k w I J 1 (f_X11_words 0 x) (f_X12_words 49 x) := by
  have Hs := H
  have hr := H.rm hk
  obtain ⟨S, n1, n2, D, HC, HM, W⟩ := H
  have HCs := HC
  have HMs := HM
  have Ws := W
  obtain ⟨⟨HF, HA, HL, HWo, ⟨HT1, HT2⟩, HH, ⟨HI1, HI2⟩, hP, hN⟩, hE, hG⟩ := HC
  obtain ⟨⟨MF, MA, ML, MW, ⟨MT1, MT2⟩, ⟨MH1, MH2⟩, ⟨MI1, MI2⟩, mP, mN⟩, mE, mG⟩ := HM
  obtain ⟨WF, WHi, W16, WL, WW, ⟨WT1, WT2⟩, WM3, WMi⟩ := W
  have sixty : (60 : Int32) = nn 60 := rfl
  by_cases hx : lnP (dT D) 60 x
  rotate_left
  · refine Or.inr (Or.inr (CallX.ok (Or.inr ⟨rfl, rfl⟩) Hs ⟨?_, fun J1 => ⟨0, ?_⟩⟩))
    · rw [f_X11_words, sixty, bd_er ((v_0 S).trans (c_openNo S hr HT1 WT1 (by decide) hx))]
    · obtain ⟨I1, hI1⟩ : ∃ I1, I1 = up2 (up2 I 0 17 (I 0 17 + 1)) 49 0 0 := ⟨_, rfl⟩
      have S' := tw_Sw S 14
      have x1 : I1 49 1 = nn (dT D) := by rw [hI1, up2_k (by decide), up2_a (by decide)]; exact MT1
      have x0 : I1 49 0 = 0 := by rw [hI1, up2_s]
      have x51 : I1 51 1 = I 51 1 := by rw [hI1, up2_a (by decide), up2_a (by decide)]
      have i1 := i_49_1 (I := I1) (J := J1) S'
      rw [x1] at i1
      have fin : f_X12_words_b24 49 x 49 (st (tw w 14) I1 J1) = some (.inl 0, st (tw w 14) (up2 (up2 I1 49 0 1) 51 1 (I 51 1 + 1)) J1) := by
        have e := mb_11 (I := I1) (J := J1) S' 1 (by decide) x0
        rw [x51] at e
        rw [f_X12_words_b24, f_X12_words_b29, bd_st ((v_49 S').trans e), if_neg (by decide)]
        rfl
      rw [f_X12_words, bd_st (w_49_0 S'), ← hI1, bd_st i1]
      by_cases q0 : x < 0
      · rw [show bd (f_X12_in x 0 (nn (dT D))) _ _ = _ from bd_st (x := 0) (σ' := st (tw w 14) I1 J1) (by rw [f_X12_in, if_pos q0]; rfl), if_pos rfl]
        exact fin
      by_cases q1 : nn (dT D) < x
      · rw [show bd (f_X12_in x 0 (nn (dT D))) _ _ = _ from bd_st (x := 0) (σ' := st (tw w 14) I1 J1) (by rw [f_X12_in, if_neg q0, if_pos q1]; rfl), if_pos rfl]
        exact fin
      rw [show bd (f_X12_in x 0 (nn (dT D))) _ _ = _ from bd_st (x := 1) (σ' := st (tw w 14) I1 J1) (by rw [f_X12_in, if_neg q0, if_neg q1]; rfl), if_neg (by decide)]
      by_cases q2 : x ≤ 60
      · obtain ⟨m, hm, rfl⟩ := nn_of q0
        rw [nn_lt (by omega) hm] at q1
        rw [sixty, nn_le hm (by omega)] at q2
        exact absurd ⟨m, by omega, by omega, rfl⟩ hx
      · rw [if_neg q2]
        exact fin
  obtain ⟨m, hm1, hm2, rfl⟩ := hx
  left
  have TW : TxW (dB D) m := ⟨by omega, fun c hc => WT2 c (by omega)⟩
  obtain ⟨r, hr'⟩ := WP_tot (dB D) m (sz (dF D)) (m + 1) 0 (0, fun _ => 0, fun _ => 0) (by omega) (Nat.zero_le _)
  have eO := (v_0 S (F := f_X11_openText 0 (nn m) (nn 60))).trans (c_openOk (J := J) S HT1 WT1 (by decide) hm1 hm2)
  have oT : TxC (opI I m) (dB D) m := by
    refine ⟨?_, fun c hc => ?_⟩
    · unfold opI
      simp (disch := decide) only [up2_k, up2_s]
    · unfold opI
      simp (disch := decide) only [up2_a]
      exact HT2 c (by omega)
  have oA : Ag [1] I (opI I m) := ((((((Ag.refl _ _).up (by decide)).up (by decide)).up (by decide)).up (by decide)).up (by decide)).up (by decide)
  have o3 : opI I m 1 3 = nn 0 := by
    unfold opI
    simp (disch := decide) only [up2_k, up2_s]
    rfl
  have o1 : opI I m 1 1 = 0 := by
    unfold opI
    simp (disch := decide) only [up2_k, up2_s]
  have o6 : opI I m 1 6 = -1 := by
    unfold opI
    rw [up2_s]
  have HFo : FoC (opI I m) (dF D) := by
    have := HF
    unfold FoC at this ⊢
    rw [oA 3 (by decide), oA 4 (by decide), oA 5 (by decide), oA 6 (by decide), oA 7 (by decide)]
    exact this
  have key := c_readW (J := J) S TW HFo WF oT o3 hr'
  -- the model from a state that keeps its cells
  have mod : ∀ I1 J1, Ag [1, 24, 25, 26] I I1 → ∃ z, f_X12_words 49 (nn m) (st w I1 J1) = z ∧ ∃ I2, Ag [49] I1 I2 ∧ (∀ j, 9 ≤ j → I2 49 j = I1 49 j) ∧ I2 49 0 = 0 ∧ I2 49 1 = 0 ∧ WMe w J1 I2 z r := fun I1 J1 a1 => by
    obtain ⟨I2, hI2⟩ : ∃ I2, I2 = up2 I1 49 0 0 := ⟨_, rfl⟩
    have x49 : I1 49 = I 49 := a1 49 (by decide)
    have x1 : I2 49 1 = nn (dT D) := by rw [hI2, up2_k (by decide), x49]; exact MT1
    have x0 : I2 49 0 = 0 := by rw [hI2, up2_s]
    have i1 := i_49_1 (I := I2) (J := J1) S
    rw [x1] at i1
    have T2 : ∀ c, c < m → I2 50 c = nn (dB D c) := fun c hc => by rw [hI2, up2_a (by decide), a1 50 (by decide)]; exact MT2 c (by omega)
    have a3 : Ag [49] I1 (staI I2 (dB D) m) := by
      rw [hI2]
      exact (((((((((Ag.refl _ _).up (by decide)).up (by decide)).up (by decide)).up (by decide)).up (by decide)).up (by decide)).up (by decide)).up (by decide)).up (by decide)
    have e : f_X12_words 49 (nn m) (st w I1 J1) = f_X12_words_b48 NF 49 0 0 (st w (staI I2 (dB D) m) J1) := by
      rw [f_X12_words, bd_st (w_49_0 S), ← hI2, bd_st i1, bd_st (in_ok WT1 hm1), if_neg (by decide), if_pos (by rw [sixty, nn_le (by omega) (by omega)]; omega), f_X12_words_b29, bd_st ((v_49 S).trans (mb_0 S 1 1 x0)), if_pos rfl, bd_st ((v_49 S).trans (m_starts S TW T2))]
    refine ⟨_, e, staI I2 (dB D) m, a3, fun j hj => ?_, ?_, ?_, ?_⟩
    · rw [hI2]
      unfold staI
      rw [up2_k (by omega), up2_k (by omega), up2_k (by omega), up2_k (by omega), up2_k (by omega), up2_k (by omega), up2_k (by omega), up2_k (by omega), up2_k (by omega)]
    · unfold staI
      simp (disch := decide) only [up2_k]
      exact x0
    · unfold staI
      simp (disch := decide) only [up2_k, up2_s]
    · refine m_words S TW WF (m + 1) 0 (0, fun _ => 0, fun _ => 0) 0 _ NF hr' ⟨Ag.refl _ _, fun _ _ _ _ => rfl, st_T T2, ?_, ?_, ?_, fun j hj => absurd hj (Nat.not_lt_zero _), fun q hq => ⟨fun h => ?_, fun h => absurd (fun k hk => absurd hk (Nat.not_lt_zero _)) h⟩⟩ (Nat.zero_le _) ⟨Nat.zero_le _, fun k hk => absurd hk (Nat.not_lt_zero _), fun j k hj => absurd hj (Nat.not_lt_zero _)⟩ (NF_gt (by omega))
      · unfold staI
        simp (disch := decide) only [up2_k, up2_s]
      · unfold staI
        rw [up2_s]
      · rw [a3 53 (by decide), a1 53 (by decide)]
        exact fm_sz MF
      · have : ∀ q, q < 8 → ¬ bit 0 q := by unfold bit; decide
        exact absurd h (this q hq)
  rcases r with r | V
  · obtain ⟨I1, e1, a1, t1, f1, p1⟩ := key
    have i5 := i_1_5 (I := I1) (J := J) S
    rw [f1] at i5
    have aI : Ag [1, 26] I I1 := (oA.mono (by decide)).trans a1
    refine ⟨r.1 - 10, w, I1, J, ?_, fun J1 hJ => ?_⟩
    · rw [f_X11_words, sixty, bd_st eO, bd_st (r_0_6 S), bd_st (r_0_0 S), bd_st ((v_24 S).trans e1), if_pos rfl, bd_st (r_0_0 S), bd_st ((v_1 S).trans (show f_X8_faultAnswer 1 (st w I1 J) = some (.inl (r.1 - 10), st w I1 J) from by rw [f_X8_faultAnswer, bd_st i5]; rfl))]
      rfl
    · obtain ⟨z, ez, I2, b2, g2, z2, y2, I3, e3, a3, g3, p3⟩ := mod I1 J1 (aI.mono (by decide))
      have aa : Ag KW I I3 := (aI.mono (by decide)).trans ((b2.mono (by decide)).trans (a3.mono (by decide)))
      have k1 : I3 1 = I1 1 := by rw [a3 1 (by decide), b2 1 (by decide)]
      refine ⟨I3, ez.trans e3, ?_, inv_w S n1 n2 HCs HMs Ws aa (fun j j9 _ => ?_) ?_ (P := nn r.2) ?_ (V := dW D) ?_ ?_ p3 ?_ WW⟩
      · rw [g3 0 (by decide) (by decide) (by decide) (by decide)]
        exact z2
      · rw [g3 j (by omega) (by omega) (by omega) (by omega), g2 j j9, aI 49 (by decide)]
      · rw [k1, t1]
        exact o1
      · rw [k1]
        exact p1
      · unfold WoC
        rw [a3 24 (by decide), b2 24 (by decide), aI 24 (by decide), a3 25 (by decide), b2 25 (by decide), aI 25 (by decide), hJ]
        exact HWo
      · rw [g3 1 (by decide) (by decide) (by decide) (by decide)]
        exact y2
      · refine ⟨by rw [g3 31 (by decide) (by decide) (by decide) (by decide), g2 31 (by decide), aI 49 (by decide)]; exact MW.1, fun j hj => ?_⟩
        have := WW.1
        have := WF.1
        rw [a3 (397 + j) (by simp [KR]; omega), b2 (397 + j) (by simp; omega), aI (397 + j) (by simp; omega)]
        exact MW.2 j hj
  · obtain ⟨I1, J0, e1, a1, t1, p1, WV, wc⟩ := key
    have i4 := i_24_4 (I := I1) (J := J0) S
    rw [wc.1] at i4
    have aI : Ag [1, 24, 25, 26] I I1 := (oA.mono (by decide)).trans a1
    refine ⟨nn V.1, w, I1, J0, ?_, fun J1 hJ => ?_⟩
    · rw [f_X11_words, sixty, bd_st eO, bd_st (r_0_6 S), bd_st (r_0_0 S), bd_st ((v_24 S).trans e1), if_neg (by decide), bd_st (r_0_6 S), bd_st i4]
      rfl
    · obtain ⟨z, ez, I2, b2, g2, z2, y2, I3, e3, a3, g3, f3, w3⟩ := mod I1 J1 aI
      obtain ⟨I4, e4, a4, g4, p4, w4⟩ := m_b169 (J := J1) S WF WV f3 w3
      have aa : Ag KW I I4 := (aI.mono (by decide)).trans ((b2.mono (by decide)).trans ((a3.mono (by decide)).trans (a4.mono (by decide))))
      have k1 : I4 1 = I1 1 := by rw [a4 1 (by decide), a3 1 (by decide), b2 1 (by decide)]
      refine ⟨I4, ez.trans (e3.trans e4), ?_, inv_w S n1 n2 HCs HMs Ws aa (fun j j9 j31 => ?_) ?_ (P := -1) ?_ (V := V) ?_ ?_ p4 w4 WV⟩
      · rw [g4 0 (by decide) (by decide), g3 0 (by decide) (by decide) (by decide)]
        exact z2
      · rw [g4 j (by omega) j31, g3 j (by omega) (by omega) (by omega), g2 j j9, aI 49 (by decide)]
      · rw [k1, t1]
        exact o1
      · rw [k1, p1]
        exact o6
      · unfold WoC
        rw [a4 24 (by decide), a3 24 (by decide), b2 24 (by decide), a4 25 (by decide), a3 25 (by decide), b2 25 (by decide), hJ]
        exact wc
      · rw [g4 1 (by decide) (by decide), g3 1 (by decide) (by decide) (by decide)]
        exact y2
end WCALL
