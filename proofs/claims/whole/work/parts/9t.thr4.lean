/-! PURE PART: calls by what they may throw, texts -/
section CX4
variable {w : Wd} {I I' : Is} {J J' : Js} {F : Fo} {A : At} {L : Lw} {D : Dt} {k : Nat}
theorem a_words (H : Inv k w I J) (hk : k ≤ 512) (x : Int32) : CallI k w I J (f_X11_words 0 x) (f_X12_words 49 x) ∨ CallE k w I J 14 1 (f_X11_words 0 x) (f_X12_words 49 x) := by
  have Hs := H
  have hr := H.rm hk
  obtain ⟨S, n1, n2, D, HC, HM, W⟩ := H
  have HCs := HC
  have HMs := HM
  have Ws := W
  obtain ⟨⟨HF, HA, HL, HWo, ⟨HT1, HT2⟩, HH, ⟨HI1, HI2⟩, hP, hN⟩, hE, hG⟩ := HC
  obtain ⟨⟨MF, MA, ML, MW, ⟨MT1, MT2⟩, ⟨MH1, MH2⟩, ⟨MI1, MI2⟩, mP, mN⟩, mE, mG⟩ := HM
  obtain ⟨WF, WHi, W16, WL, WW, ⟨WT1, WT2⟩, WM3, WMi⟩ := W
  have sixty : (60 : Int32) = nn 60 := rfl
  by_cases hx : lnP (dT D) 60 x
  rotate_left
  · refine Or.inr ((CallX.ok (Or.inr ⟨rfl, rfl⟩) Hs ⟨?_, fun J1 => ⟨0, ?_⟩⟩))
    · rw [f_X11_words, sixty, bd_er ((v_0 S).trans (c_openNo S hr HT1 WT1 (by decide) hx))]
    · obtain ⟨I1, hI1⟩ : ∃ I1, I1 = up2 (up2 I 0 17 (I 0 17 + 1)) 49 0 0 := ⟨_, rfl⟩
      have S' := tw_Sw S 14
      have x1 : I1 49 1 = nn (dT D) := by rw [hI1, up2_k (by decide), up2_a (by decide)]; exact MT1
      have x0 : I1 49 0 = 0 := by rw [hI1, up2_s]
      have x51 : I1 51 1 = I 51 1 := by rw [hI1, up2_a (by decide), up2_a (by decide)]
      have i1 := i_49_1 (I := I1) (J := J1) S'
      rw [x1] at i1
      have fin : f_X12_words_b24 49 x 49 (st (tw w 14) I1 J1) = some (.inl 0, st (tw w 14) (up2 (up2 I1 49 0 1) 51 1 (I 51 1 + 1)) J1) := by
        have e := mb_11 (I := I1) (J := J1) S' 1 (by decide) x0
        rw [x51] at e
        rw [f_X12_words_b24, f_X12_words_b29, bd_st ((v_49 S').trans e), if_neg (by decide)]
        rfl
      rw [f_X12_words, bd_st (w_49_0 S'), ← hI1, bd_st i1]
      by_cases q0 : x < 0
      · rw [show bd (f_X12_in x 0 (nn (dT D))) _ _ = _ from bd_st (x := 0) (σ' := st (tw w 14) I1 J1) (by rw [f_X12_in, if_pos q0]; rfl), if_pos rfl]
        exact fin
      by_cases q1 : nn (dT D) < x
      · rw [show bd (f_X12_in x 0 (nn (dT D))) _ _ = _ from bd_st (x := 0) (σ' := st (tw w 14) I1 J1) (by rw [f_X12_in, if_neg q0, if_pos q1]; rfl), if_pos rfl]
        exact fin
      rw [show bd (f_X12_in x 0 (nn (dT D))) _ _ = _ from bd_st (x := 1) (σ' := st (tw w 14) I1 J1) (by rw [f_X12_in, if_neg q0, if_neg q1]; rfl), if_neg (by decide)]
      by_cases q2 : x ≤ 60
      · obtain ⟨m, hm, rfl⟩ := nn_of q0
        rw [nn_lt (by omega) hm] at q1
        rw [sixty, nn_le hm (by omega)] at q2
        exact absurd ⟨m, by omega, by omega, rfl⟩ hx
      · rw [if_neg q2]
        exact fin
  obtain ⟨m, hm1, hm2, rfl⟩ := hx
  left
  have TW : TxW (dB D) m := ⟨by omega, fun c hc => WT2 c (by omega)⟩
  obtain ⟨r, hr'⟩ := WP_tot (dB D) m (sz (dF D)) (m + 1) 0 (0, fun _ => 0, fun _ => 0) (by omega) (Nat.zero_le _)
  have eO := (v_0 S (F := f_X11_openText 0 (nn m) (nn 60))).trans (c_openOk (J := J) S HT1 WT1 (by decide) hm1 hm2)
  have oT : TxC (opI I m) (dB D) m := by
    refine ⟨?_, fun c hc => ?_⟩
    · unfold opI
      simp (disch := decide) only [up2_k, up2_s]
    · unfold opI
      simp (disch := decide) only [up2_a]
      exact HT2 c (by omega)
  have oA : Ag [1] I (opI I m) := ((((((Ag.refl _ _).up (by decide)).up (by decide)).up (by decide)).up (by decide)).up (by decide)).up (by decide)
  have o3 : opI I m 1 3 = nn 0 := by
    unfold opI
    simp (disch := decide) only [up2_k, up2_s]
    rfl
  have o1 : opI I m 1 1 = 0 := by
    unfold opI
    simp (disch := decide) only [up2_k, up2_s]
  have o6 : opI I m 1 6 = -1 := by
    unfold opI
    rw [up2_s]
  have HFo : FoC (opI I m) (dF D) := by
    have := HF
    unfold FoC at this ⊢
    rw [oA 3 (by decide), oA 4 (by decide), oA 5 (by decide), oA 6 (by decide), oA 7 (by decide)]
    exact this
  have key := c_readW (J := J) S TW HFo WF oT o3 hr'
  -- the model from a state that keeps its cells
  have mod : ∀ I1 J1, Ag [1, 24, 25, 26] I I1 → ∃ z, f_X12_words 49 (nn m) (st w I1 J1) = z ∧ ∃ I2, Ag [49] I1 I2 ∧ (∀ j, 9 ≤ j → I2 49 j = I1 49 j) ∧ I2 49 0 = 0 ∧ I2 49 1 = 0 ∧ WMe w J1 I2 z r := fun I1 J1 a1 => by
    obtain ⟨I2, hI2⟩ : ∃ I2, I2 = up2 I1 49 0 0 := ⟨_, rfl⟩
    have x49 : I1 49 = I 49 := a1 49 (by decide)
    have x1 : I2 49 1 = nn (dT D) := by rw [hI2, up2_k (by decide), x49]; exact MT1
    have x0 : I2 49 0 = 0 := by rw [hI2, up2_s]
    have i1 := i_49_1 (I := I2) (J := J1) S
    rw [x1] at i1
    have T2 : ∀ c, c < m → I2 50 c = nn (dB D c) := fun c hc => by rw [hI2, up2_a (by decide), a1 50 (by decide)]; exact MT2 c (by omega)
    have a3 : Ag [49] I1 (staI I2 (dB D) m) := by
      rw [hI2]
      exact (((((((((Ag.refl _ _).up (by decide)).up (by decide)).up (by decide)).up (by decide)).up (by decide)).up (by decide)).up (by decide)).up (by decide)).up (by decide)
    have e : f_X12_words 49 (nn m) (st w I1 J1) = f_X12_words_b48 NF 49 0 0 (st w (staI I2 (dB D) m) J1) := by
      rw [f_X12_words, bd_st (w_49_0 S), ← hI2, bd_st i1, bd_st (in_ok WT1 hm1), if_neg (by decide), if_pos (by rw [sixty, nn_le (by omega) (by omega)]; omega), f_X12_words_b29, bd_st ((v_49 S).trans (mb_0 S 1 1 x0)), if_pos rfl, bd_st ((v_49 S).trans (m_starts S TW T2))]
    refine ⟨_, e, staI I2 (dB D) m, a3, fun j hj => ?_, ?_, ?_, ?_⟩
    · rw [hI2]
      unfold staI
      rw [up2_k (by omega), up2_k (by omega), up2_k (by omega), up2_k (by omega), up2_k (by omega), up2_k (by omega), up2_k (by omega), up2_k (by omega), up2_k (by omega)]
    · unfold staI
      simp (disch := decide) only [up2_k]
      exact x0
    · unfold staI
      simp (disch := decide) only [up2_k, up2_s]
    · refine m_words S TW WF (m + 1) 0 (0, fun _ => 0, fun _ => 0) 0 _ NF hr' ⟨Ag.refl _ _, fun _ _ _ _ => rfl, st_T T2, ?_, ?_, ?_, fun j hj => absurd hj (Nat.not_lt_zero _), fun q hq => ⟨fun h => ?_, fun h => absurd (fun k hk => absurd hk (Nat.not_lt_zero _)) h⟩⟩ (Nat.zero_le _) ⟨Nat.zero_le _, fun k hk => absurd hk (Nat.not_lt_zero _), fun j k hj => absurd hj (Nat.not_lt_zero _)⟩ (NF_gt (by omega))
      · unfold staI
        simp (disch := decide) only [up2_k, up2_s]
      · unfold staI
        rw [up2_s]
      · rw [a3 53 (by decide), a1 53 (by decide)]
        exact fm_sz MF
      · have : ∀ q, q < 8 → ¬ bit 0 q := by unfold bit; decide
        exact absurd h (this q hq)
  rcases r with r | V
  · obtain ⟨I1, e1, a1, t1, f1, p1⟩ := key
    have i5 := i_1_5 (I := I1) (J := J) S
    rw [f1] at i5
    have aI : Ag [1, 26] I I1 := (oA.mono (by decide)).trans a1
    refine ⟨r.1 - 10, w, I1, J, ?_, fun J1 hJ => ?_⟩
    · rw [f_X11_words, sixty, bd_st eO, bd_st (r_0_6 S), bd_st (r_0_0 S), bd_st ((v_24 S).trans e1), if_pos rfl, bd_st (r_0_0 S), bd_st ((v_1 S).trans (show f_X8_faultAnswer 1 (st w I1 J) = some (.inl (r.1 - 10), st w I1 J) from by rw [f_X8_faultAnswer, bd_st i5]; rfl))]
      rfl
    · obtain ⟨z, ez, I2, b2, g2, z2, y2, I3, e3, a3, g3, p3⟩ := mod I1 J1 (aI.mono (by decide))
      have aa : Ag KW I I3 := (aI.mono (by decide)).trans ((b2.mono (by decide)).trans (a3.mono (by decide)))
      have k1 : I3 1 = I1 1 := by rw [a3 1 (by decide), b2 1 (by decide)]
      refine ⟨I3, ez.trans e3, ?_, inv_w S n1 n2 HCs HMs Ws aa (fun j j9 _ => ?_) ?_ (P := nn r.2) ?_ (V := dW D) ?_ ?_ p3 ?_ WW⟩
      · rw [g3 0 (by decide) (by decide) (by decide) (by decide)]
        exact z2
      · rw [g3 j (by omega) (by omega) (by omega) (by omega), g2 j j9, aI 49 (by decide)]
      · rw [k1, t1]
        exact o1
      · rw [k1]
        exact p1
      · unfold WoC
        rw [a3 24 (by decide), b2 24 (by decide), aI 24 (by decide), a3 25 (by decide), b2 25 (by decide), aI 25 (by decide), hJ]
        exact HWo
      · rw [g3 1 (by decide) (by decide) (by decide) (by decide)]
        exact y2
      · refine ⟨by rw [g3 31 (by decide) (by decide) (by decide) (by decide), g2 31 (by decide), aI 49 (by decide)]; exact MW.1, fun j hj => ?_⟩
        have := WW.1
        have := WF.1
        rw [a3 (397 + j) (by simp [KR]; omega), b2 (397 + j) (by simp; omega), aI (397 + j) (by simp; omega)]
        exact MW.2 j hj
  · obtain ⟨I1, J0, e1, a1, t1, p1, WV, wc⟩ := key
    have i4 := i_24_4 (I := I1) (J := J0) S
    rw [wc.1] at i4
    have aI : Ag [1, 24, 25, 26] I I1 := (oA.mono (by decide)).trans a1
    refine ⟨nn V.1, w, I1, J0, ?_, fun J1 hJ => ?_⟩
    · rw [f_X11_words, sixty, bd_st eO, bd_st (r_0_6 S), bd_st (r_0_0 S), bd_st ((v_24 S).trans e1), if_neg (by decide), bd_st (r_0_6 S), bd_st i4]
      rfl
    · obtain ⟨z, ez, I2, b2, g2, z2, y2, I3, e3, a3, g3, f3, w3⟩ := mod I1 J1 aI
      obtain ⟨I4, e4, a4, g4, p4, w4⟩ := m_b169 (J := J1) S WF WV f3 w3
      have aa : Ag KW I I4 := (aI.mono (by decide)).trans ((b2.mono (by decide)).trans ((a3.mono (by decide)).trans (a4.mono (by decide))))
      have k1 : I4 1 = I1 1 := by rw [a4 1 (by decide), a3 1 (by decide), b2 1 (by decide)]
      refine ⟨I4, ez.trans (e3.trans e4), ?_, inv_w S n1 n2 HCs HMs Ws aa (fun j j9 j31 => ?_) ?_ (P := -1) ?_ (V := V) ?_ ?_ p4 w4 WV⟩
      · rw [g4 0 (by decide) (by decide), g3 0 (by decide) (by decide) (by decide)]
        exact z2
      · rw [g4 j (by omega) j31, g3 j (by omega) (by omega) (by omega), g2 j j9, aI 49 (by decide)]
      · rw [k1, t1]
        exact o1
      · rw [k1, p1]
        exact o6
      · unfold WoC
        rw [a4 24 (by decide), a3 24 (by decide), b2 24 (by decide), a4 25 (by decide), a3 25 (by decide), b2 25 (by decide), hJ]
        exact wc
      · rw [g4 1 (by decide) (by decide), g3 1 (by decide) (by decide) (by decide)]
        exact y2
theorem a_town (H : Inv k w I J) (hk : k ≤ 512) (x : Int32) : CallI k w I J (f_X11_town 0 x) (f_X12_town 49 x) ∨ CallE k w I J 14 1 (f_X11_town 0 x) (f_X12_town 49 x) := by
  have Hs := H
  have hr := H.rm hk
  obtain ⟨S, n1, n2, D, HC, HM, W⟩ := H
  have HCs := HC
  have HMs := HM
  have Ws := W
  obtain ⟨⟨HF, HA, HL, HWo, ⟨HT1, HT2⟩, HH, ⟨HI1, HI2⟩, hP, hN⟩, hE, hG⟩ := HC
  obtain ⟨⟨MF, MA, ML, MW, ⟨MT1, MT2⟩, ⟨MH1, MH2⟩, ⟨MI1, MI2⟩, mP, mN⟩, mE, mG⟩ := HM
  obtain ⟨WF, WHi, W16, WL, WW, ⟨WT1, WT2⟩, WM3, WMi⟩ := W
  have lim : (600 : Int32) = nn 600 := rfl
  by_cases hx : lnP (dT D) 600 x
  rotate_left
  · refine Or.inr ((CallX.ok (Or.inr ⟨rfl, rfl⟩) Hs ⟨?_, fun J1 => ⟨0, ?_⟩⟩))
    · rw [f_X11_town, lim, bd_er ((v_0 S).trans (c_openNo S hr HT1 WT1 (by decide) hx))]
    · obtain ⟨I1, hI1⟩ : ∃ I1, I1 = up2 (up2 I 0 17 (I 0 17 + 1)) 49 0 0 := ⟨_, rfl⟩
      have S' := tw_Sw S 14
      have x1 : I1 49 1 = nn (dT D) := by rw [hI1, up2_k (by decide), up2_a (by decide)]; exact MT1
      have x0 : I1 49 0 = 0 := by rw [hI1, up2_s]
      have x51 : I1 51 1 = I 51 1 := by rw [hI1, up2_a (by decide), up2_a (by decide)]
      have i1 := i_49_1 (I := I1) (J := J1) S'
      rw [x1] at i1
      have fin : f_X12_town_b23 49 x 1 49 (st (tw w 14) I1 J1) = some (.inl 0, st (tw w 14) (up2 (up2 I1 49 0 1) 51 1 (I 51 1 + 1)) J1) := by
        have e := mb_11 (I := I1) (J := J1) S' 1 (by decide) x0
        rw [x51] at e
        rw [f_X12_town_b23, bd_st ((v_49 S').trans e), if_neg (by decide)]
        rfl
      rw [f_X12_town, bd_st (w_49_0 S'), ← hI1, bd_st i1]
      by_cases q0 : x < 0
      · rw [show bd (f_X12_in x 0 (nn (dT D))) _ _ = _ from bd_st (x := 0) (σ' := st (tw w 14) I1 J1) (by rw [f_X12_in, if_pos q0]; rfl), if_pos rfl]
        exact fin
      by_cases q1 : nn (dT D) < x
      · rw [show bd (f_X12_in x 0 (nn (dT D))) _ _ = _ from bd_st (x := 0) (σ' := st (tw w 14) I1 J1) (by rw [f_X12_in, if_neg q0, if_pos q1]; rfl), if_pos rfl]
        exact fin
      obtain ⟨m, hm, rfl⟩ := nn_of q0
      rw [nn_lt (by omega) hm] at q1
      exact absurd ⟨m, by omega, by omega, rfl⟩ hx
  obtain ⟨m, hm1, hm2, rfl⟩ := hx
  left
  have TW : TxW (dB D) m := ⟨by omega, fun c hc => WT2 c (by omega)⟩
  have eO := (v_0 S (F := f_X11_openText 0 (nn m) (nn 600))).trans (c_openOk (J := J) S HT1 WT1 (by decide) hm1 hm2)
  obtain ⟨oC, oA⟩ := op_C (I := I) HT2 hm1
  have key := c_readT (J := J) S TW oC
  -- the model from a state that keeps its cells
  have mod : ∀ w1 I1 J1, Sw w1 → Ag KT I I1 → ∃ z, f_X12_town 49 (nn m) (st w1 I1 J1) = z ∧ ∃ I2, Ag [49, 52, 54] I1 I2 ∧ (∀ j, 9 ≤ j → I2 49 j = I1 49 j) ∧ I2 49 0 = 0 ∧ I2 49 1 = 0 ∧ MTe w1 J1 I2 (dB D) m z (twR (dB D) m 61 0 0 fo0) := fun w1 I1 J1 S1 a1 => by
    obtain ⟨I2, hI2⟩ : ∃ I2, I2 = up2 I1 49 0 0 := ⟨_, rfl⟩
    have x49 : I1 49 = I 49 := a1 49 (by decide)
    have x1 : I2 49 1 = nn (dT D) := by rw [hI2, up2_k (by decide), x49]; exact MT1
    have x0 : I2 49 0 = 0 := by rw [hI2, up2_s]
    have i1 := i_49_1 (I := I2) (J := J1) S1
    rw [x1] at i1
    have T2 : ∀ c, c < m → I2 50 c = nn (dB D c) := fun c hc => by rw [hI2, up2_a (by decide), a1 50 (by decide)]; exact MT2 c (by omega)
    obtain ⟨s1, s2, s3, s4, s5, s6, s7, -⟩ := sta_M (I := I2) TW T2 x0
    obtain ⟨I3, e3, a3, d3⟩ := m_nothing (I := staI I2 (dB D) m) (J := J1) S1
    have e : f_X12_town 49 (nn m) (st w1 I1 J1) = f_X12_town_b42 NF 49 (st w1 I3 J1) := by
      rw [f_X12_town, bd_st (w_49_0 S1), ← hI2, bd_st i1, bd_st (in_ok WT1 hm1), if_neg (by decide), f_X12_town_b23, bd_st ((v_49 S1).trans (mb_0 S1 1 1 x0)), if_pos rfl, bd_st ((v_49 S1).trans (m_starts S1 TW T2)), bd_st ((v_49 S1).trans e3)]
    have k49 : I3 49 = staI I2 (dB D) m 49 := a3 49 (by decide)
    have aI2 : Ag [49] I1 I2 := by rw [hI2]; exact (Ag.refl _ _).up (by decide)
    refine ⟨_, e, I3, ((aI2.trans s3).mono (by decide)).trans (a3.mono (by decide)), fun j hj => ?_, ?_, ?_, ?_⟩
    · rw [k49, s4 j hj, hI2, up2_k (by omega)]
    · rw [k49]; exact s5
    · rw [k49]; exact s6
    · exact m_townR S1 TW 61 0 0 fo0 I3 NF rfl (by decide) (Nat.zero_le _) (s1.ag a3 (by decide) (by decide)) (by rw [k49]; exact s2) d3 fo0_W (by rw [k49]; exact s7) (NF_gt (by decide))
  cases hR : twR (dB D) m 61 0 0 fo0 with
  | inl r =>
    rw [hR] at key
    obtain ⟨I1, e1, a1, c1⟩ := key
    have aI : Ag KD I I1 := (oA.mono (by decide)).trans a1
    refine ⟨r.1 - 10, w, I1, J, ?_, fun J1 hJ => ?_⟩
    · rw [f_X11_town, lim, bd_st eO, bd_st (r_0_2 S), bd_st (r_0_0 S), bd_st ((v_8 S).trans e1), if_pos rfl, bd_st (r_0_0 S), bd_st ((v_1 S).trans (c_fltA S c1))]
      rfl
    · obtain ⟨z, ez, I2, b2, g2, z2, y2, R⟩ := mod w I1 J1 S (aI.mono (by decide))
      rw [hR] at R
      obtain ⟨I3, e3, a3, g3, X3⟩ := R
      have h5 : ¬ I3 49 5 = 0 := by rw [X3.2.1]; exact X3.2.2.1
      have e4 : f_X12_town_b71 49 (st w I3 J1) = some (.inl (r.1 - 10), st w (up2 I3 49 3 (nn r.2)) J1) := by
        rw [f_X12_town_b71, bd_st (i_49_5 S), if_neg h5, bd_st ((v_49 S).trans (m_endsR S X3))]
        rfl
      have aa : Ag ([1, 8, 9, 10, 11, 12] ++ KE) I (up2 I3 49 3 (nn r.2)) := (((aI.mono (by decide)).trans (b2.mono (by decide))).trans (a3.mono (by decide))).up (by decide)
      have k1 : up2 I3 49 3 (nn r.2) 1 = I1 1 := by rw [up2_ra (by decide), a3 1 (by decide), b2 1 (by decide)]
      refine ⟨up2 I3 49 3 (nn r.2), ez.trans (e3.trans e4), ?_, inv_f S n1 n2 HCs HMs Ws (P := nn r.2) (sgA_ag aa (by decide)) (fun j hj => ?_) ?_ ?_ ?_ up2_s hJ⟩
      · rw [up2_k (by decide), g3 0 (by decide) (by decide) (by decide) (by decide)]
        exact z2
      · have q : ∀ j ∈ [17, 31, 32, 33, 34], 9 ≤ j := by decide
        have := q j hj
        rw [up2_k (by omega), g3 j (by omega) (by omega) (by omega) (by omega), g2 j this, aI 49 (by decide)]
      · rw [k1]; exact c1.1
      · rw [k1]; exact c1.2.2
      · rw [up2_k (by decide), g3 1 (by decide) (by decide) (by decide) (by decide)]
        exact y2
  | inr G =>
    rw [hR] at key
    obtain ⟨I1, e1, a1, t1, p1, D1, WG⟩ := key
    obtain ⟨I2, e2, a2, f2⟩ := c_copyT (J := J) S D1 WG
    obtain ⟨I3, e3, a3, l3⟩ := c_usual (I := I2) (J := J) S
    obtain ⟨I4, e4, a4, w4⟩ := c_clrW (I := I3) (J := J) S G
    obtain ⟨I5, e5, a5, s5⟩ := c_clrS (I := I4) (J := up2 J 24 5 (-1)) S
    have S1 : Sw (sR w 0 13 none) := sR_Sw S r13
    obtain ⟨I6, hI6⟩ : ∃ I6, I6 = up2 (up2 I5 0 14 0) 0 15 0 := ⟨_, rfl⟩
    have a6 : Ag [0] I5 I6 := by rw [hI6]; exact ((Ag.refl _ _).up (by decide)).up (by decide)
    have aT : Ag KT I I6 := (((((((oA.mono (by decide)).trans (a1.mono (by decide))).trans (a2.mono (by decide))).trans (a3.mono (by decide))).trans (a4.mono (by decide))).trans (a5.mono (by decide))).trans (a6.mono (by decide)))
    have i4 := i_3_4 (I := I6) (J := up2 J 24 5 (-1)) S1
    rw [a6 3 (by decide), a5 3 (by decide), a4 3 (by decide), a3 3 (by decide), f2.1] at i4
    refine ⟨nn (sz G), sR w 0 13 none, I6, up2 J 24 5 (-1), ?_, fun J1 hJ => ?_⟩
    · rw [f_X11_town, lim, bd_st eO, bd_st (r_0_2 S), bd_st (r_0_0 S), bd_st ((v_8 S).trans e1), if_neg (by decide), bd_st (r_0_1 S), bd_st (r_0_2 S), bd_st ((v_3 S).trans e2), bd_st (r_0_3 S), bd_st ((v_13 S).trans e3), bd_st (r_0_6 S), bd_st ((v_24 S).trans e4), bd_st (r_0_11 S), bd_st ((v_43 S).trans e5), bd_st (wH_st S none), bd_st (w_0_14 S1), bd_st (w_0_15 S1), ← hI6, bd_st (r_0_1 S1), bd_st i4]
      rfl
    · obtain ⟨z, ez, I7, b7, g7, z7, y7, R⟩ := mod (sR w 0 13 none) I6 J1 S1 aT
      rw [hR] at R
      obtain ⟨I8, e8, a8, g8, h5, D8, -⟩ := R
      obtain ⟨I9, e9, a9, g9, f9, r9, q17, q31, q32, q33, q34⟩ := m_anew (I := up2 I8 49 3 (-1)) (J := J1) S1 (D8.ma WG.1 ((Ag.refl _ _).up (by decide))) WG
      have i5 := i_49_5 (I := I8) (J := J1) S1
      rw [h5] at i5
      have l53 := l_53_0 (I := I9) (J := J1) S1
      rw [f9.1] at l53
      have e71 : f_X12_town_b71 49 (st (sR w 0 13 none) I8 J1) = some (.inl (nn (sz G)), st (sR w 0 13 none) I9 J1) := by
        rw [f_X12_town_b71, bd_st i5, if_pos rfl, bd_st (w_49_3 S1), bd_st ((v_49 S1).trans e9), bd_st (r_49_12 S1), bd_st l53]
        rfl
      have aM : Ag (KE ++ KN) I6 I9 := (((b7.mono (by decide)).trans (a8.mono (by decide))).up (by decide)).trans (a9.mono (by decide))
      have k0 : I9 0 = I6 0 := aM 0 (by decide)
      have k1 : I9 1 = I1 1 := by rw [aM 1 (by decide), a6 1 (by decide), a5 1 (by decide), a4 1 (by decide), a3 1 (by decide), a2 1 (by decide)]
      have c49 : ∀ j, j ≠ 17 → j ≠ 31 → j ≠ 32 → j ≠ 33 → j ≠ 34 → j ≠ 3 → j ≠ 4 → j ≠ 5 → j ≠ 6 → j ≠ 7 → I9 49 j = I7 49 j := fun j h1 h2 h3 h4 h6 h7 h8 h9 ha hb => by
        rw [g9 j h1 h2 h3 h4 h6, up2_k h7, g8 j h8 h9 ha hb]
      have x0 : ∀ j, j ≠ 14 → j ≠ 15 → I9 0 j = I 0 j := fun j h1 h2 => by
        rw [k0, hI6, up2_k h2, up2_k h1, a5 0 (by decide), a4 0 (by decide), a3 0 (by decide), a2 0 (by decide), a1 0 (by decide), oA 0 (by decide)]
      refine ⟨I9, ez.trans (e8.trans e71), ?_, S1, ?_, ?_, ((G, at0, lwU, wo0), (0, dB D), ([], []), (-1, 0, dE D, dG D)), ⟨⟨?_, ?_, ?_, ?_, ⟨?_, fun c hc => absurd hc (Nat.not_lt_zero _)⟩, ?_, ⟨?_, trivial⟩, ?_, ?_⟩, ?_, ?_⟩, ⟨⟨f9, r9, Or.inr ⟨q17, rfl⟩, ⟨q31, fun j hj => absurd hj (Nat.not_lt_zero _)⟩, ⟨?_, fun c hc => absurd hc (Nat.not_lt_zero _)⟩, ⟨q32, trivial⟩, ⟨q34, trivial⟩, ?_, q33⟩, ?_, ?_⟩, ⟨WG, ⟨⟨Nat.zero_le _, Nat.zero_le _, fun i hi => absurd hi (Nat.not_lt_zero _)⟩, Nat.zero_le _, fun p hp => ⟨Nat.zero_le _, Nat.zero_le _⟩, trivial⟩, Nat.zero_le _, ?_, ⟨Nat.zero_le _, fun k hk => absurd hk (Nat.not_lt_zero _), fun j k hj => absurd hj (Nat.not_lt_zero _)⟩, ⟨Nat.zero_le _, fun c hc => absurd hc (Nat.not_lt_zero _)⟩, Nat.zero_le _, fun q hq => absurd hq List.not_mem_nil⟩⟩
      · rw [c49 0 (by decide) (by decide) (by decide) (by decide) (by decide) (by decide) (by decide) (by decide) (by decide) (by decide)]
        exact z7
      · show w.1 ≤ _
        omega
      · show w.2.1 ≤ _
        omega
      · have x : ∀ a ∈ [3, 4, 5, 6, 7], I9 a = I2 a := by
          intro a ha
          have q : ∀ a ∈ [3, 4, 5, 6, 7], a ∉ KE ++ KN ∧ a ∉ [0] ∧ a ∉ [43, 44, 45, 46] ∧ a ∉ [24, 25] ∧ a ∉ [13, 14] := by decide
          obtain ⟨q1, q2, q3, q4, q5⟩ := q a ha
          rw [aM a q1, a6 a q2, a5 a q3, a4 a q4, a3 a q5]
        show FoC I9 G
        unfold FoC
        rw [x 3 (by decide), x 4 (by decide), x 5 (by decide), x 6 (by decide), x 7 (by decide)]
        exact f2
      · exact s5.ag ((a6.mono (by decide)).trans (aM.mono (by decide : ∀ a ∈ KE ++ KN, a ∈ [0] ++ (KE ++ KN)))) (by decide)
      · exact l3.ag (((a4.mono (by decide)).trans (a5.mono (by decide))).trans ((a6.mono (by decide)).trans (aM.mono (by decide : ∀ a ∈ KE ++ KN, a ∈ [0, 24, 25, 43, 44, 45, 46] ++ (KE ++ KN))))) (by decide) (by decide)
      · show WoC I9 J1 G wo0
        unfold WoC
        rw [aM 24 (by decide), a6 24 (by decide), a5 24 (by decide), aM 25 (by decide), a6 25 (by decide), a5 25 (by decide), hJ]
        exact w4
      · rw [k1]; exact t1
      · show up2 w.2.2.2 0 13 none 0 13 = none
        exact up2_s
      · rw [k0, hI6, up2_k (by decide), up2_s]
        rfl
      · rw [k1]; exact p1
      · rw [k0, hI6, up2_s]
        rfl
      · rw [x0 16 (by decide) (by decide)]; exact hE
      · rw [x0 17 (by decide) (by decide)]; exact hG
      · rw [c49 1 (by decide) (by decide) (by decide) (by decide) (by decide) (by decide) (by decide) (by decide) (by decide) (by decide)]
        exact y7
      · rw [g9 3 (by decide) (by decide) (by decide) (by decide) (by decide), up2_s]
        rfl
      · rw [aM 51 (by decide), aT 51 (by decide)]; exact mE
      · rw [aM 51 (by decide), aT 51 (by decide)]; exact mG
      · exact lwU_W
theorem a_law (H : Inv k w I J) (hk : k ≤ 512) (x : Int32) : CallI k w I J (f_X11_law 0 x) (f_X12_law 49 x) ∨ CallE k w I J 14 1 (f_X11_law 0 x) (f_X12_law 49 x) := by
  have Hs := H
  have hr := H.rm hk
  obtain ⟨S, n1, n2, D, HC, HM, W⟩ := H
  have HCs := HC
  have HMs := HM
  have Ws := W
  obtain ⟨⟨HF, HA, HL, HWo, ⟨HT1, HT2⟩, HH, ⟨HI1, HI2⟩, hP, hN⟩, hE, hG⟩ := HC
  obtain ⟨⟨MF, MA', ML, MW, ⟨MT1, MT2⟩, ⟨MH1, MH2⟩, ⟨MI1, MI2⟩, mP, mN⟩, mE, mG⟩ := HM
  obtain ⟨WF, WHi, W16, WL, WW, ⟨WT1, WT2⟩, WM3, WMi⟩ := W
  have lim : (150 : Int32) = nn 150 := rfl
  by_cases hx : lnP (dT D) 150 x
  rotate_left
  · refine Or.inr ((CallX.ok (Or.inr ⟨rfl, rfl⟩) Hs ⟨?_, fun J1 => ⟨0, ?_⟩⟩))
    · rw [f_X11_law, lim, bd_er ((v_0 S).trans (c_openNo S hr HT1 WT1 (by decide) hx))]
    · obtain ⟨I1, hI1⟩ : ∃ I1, I1 = up2 (up2 I 0 17 (I 0 17 + 1)) 49 0 0 := ⟨_, rfl⟩
      have S' := tw_Sw S 14
      have x1 : I1 49 1 = nn (dT D) := by rw [hI1, up2_k (by decide), up2_a (by decide)]; exact MT1
      have x0 : I1 49 0 = 0 := by rw [hI1, up2_s]
      have x51 : I1 51 1 = I 51 1 := by rw [hI1, up2_a (by decide), up2_a (by decide)]
      have i1 := i_49_1 (I := I1) (J := J1) S'
      rw [x1] at i1
      have fin : f_X12_law_b25 49 x 49 (st (tw w 14) I1 J1) = some (.inl 0, st (tw w 14) (up2 (up2 I1 49 0 1) 51 1 (I 51 1 + 1)) J1) := by
        have e := mb_11 (I := I1) (J := J1) S' 1 (by decide) x0
        rw [x51] at e
        rw [f_X12_law_b25, f_X12_law_b30, bd_st ((v_49 S').trans e), if_neg (by decide)]
        rfl
      rw [f_X12_law, bd_st (w_49_0 S'), ← hI1, bd_st i1]
      by_cases q0 : x < 0
      · rw [show bd (f_X12_in x 0 (nn (dT D))) _ _ = _ from bd_st (x := 0) (σ' := st (tw w 14) I1 J1) (by rw [f_X12_in, if_pos q0]; rfl), if_pos rfl]
        exact fin
      by_cases q1 : nn (dT D) < x
      · rw [show bd (f_X12_in x 0 (nn (dT D))) _ _ = _ from bd_st (x := 0) (σ' := st (tw w 14) I1 J1) (by rw [f_X12_in, if_neg q0, if_pos q1]; rfl), if_pos rfl]
        exact fin
      rw [show bd (f_X12_in x 0 (nn (dT D))) _ _ = _ from bd_st (x := 1) (σ' := st (tw w 14) I1 J1) (by rw [f_X12_in, if_neg q0, if_neg q1]; rfl), if_neg (by decide)]
      by_cases q2 : x ≤ 150
      · obtain ⟨m, hm, rfl⟩ := nn_of q0
        rw [nn_lt (by omega) hm] at q1
        rw [lim, nn_le hm (by omega)] at q2
        exact absurd ⟨m, by omega, by omega, rfl⟩ hx
      · rw [if_neg q2]
        exact fin
  obtain ⟨m, hm1, hm2, rfl⟩ := hx
  left
  have TW : TxW (dB D) m := ⟨by omega, fun c hc => WT2 c (by omega)⟩
  have eO := (v_0 S (F := f_X11_openText 0 (nn m) (nn 150))).trans (c_openOk (J := J) S HT1 WT1 (by decide) hm1 hm2)
  obtain ⟨oC, oA⟩ := op_C (I := I) HT2 hm1
  have key := c_readL (J := J) S TW hm2 oC
  -- the model from a state that keeps its cells
  have mod : ∀ I1 J1, Ag [1, 13, 14, 16, 17] I I1 → ∃ I2, f_X12_law 49 (nn m) (st w I1 J1) = f_X12_law_b85 49 (st w I2 J1) ∧ (∀ a, a ≠ 49 → (a < 236 ∨ 395 < a) → I2 a = I1 a) ∧ (∀ j, 9 ≤ j → j ≠ 18 → I2 49 j = I1 49 j) ∧ I2 49 0 = 0 ∧ I2 49 1 = 0 ∧ (match lwT (dB D) m with
      | .inl r => MTx (dB D) m r I2
      | .inr L => I2 49 5 = 0 ∧ LM I2 L) := fun I1 J1 a1 => by
    obtain ⟨I2, hI2⟩ : ∃ I2, I2 = up2 I1 49 0 0 := ⟨_, rfl⟩
    have x49 : I1 49 = I 49 := a1 49 (by decide)
    have x1 : I2 49 1 = nn (dT D) := by rw [hI2, up2_k (by decide), x49]; exact MT1
    have x0 : I2 49 0 = 0 := by rw [hI2, up2_s]
    have i1 := i_49_1 (I := I2) (J := J1) S
    rw [x1] at i1
    have T2 : ∀ c, c < m → I2 50 c = nn (dB D c) := fun c hc => by rw [hI2, up2_a (by decide), a1 50 (by decide)]; exact MT2 c (by omega)
    obtain ⟨s1, s2, s3, s4, s5, s6, s7, s8⟩ := sta_M (I := I2) TW T2 x0
    obtain ⟨I3, hI3⟩ : ∃ I3, I3 = up2 (staI I2 (dB D) m) 49 18 0 := ⟨_, rfl⟩
    have f3 : (∀ a, a ≠ 49 → I3 a = I1 a) ∧ ∀ j, 9 ≤ j → j ≠ 18 → I3 49 j = I1 49 j := by
      refine ⟨fun a ha => ?_, fun j hj h18 => ?_⟩
      · rw [hI3, up2_ra ha, s3 a (by simpa using ha), hI2, up2_ra ha]
      · rw [hI3, up2_k h18, s4 j hj, hI2, up2_k (by omega)]
    have Q3 : QM (dB D) m 0 (0, (0, fun _ => (0, 0))) I3 := by
      obtain ⟨t1, t2, q, hq, t3, t4⟩ := s1
      rw [hI3]
      exact ⟨⟨t1.up ⟨by decide, Or.inr (by decide)⟩, by rw [up2_k (by decide)]; exact t2, q, hq, by rw [up2_k (by decide)]; exact t3, t4⟩, by rw [up2_k (by decide)]; exact s8, ⟨up2_s, fun k hk => absurd hk (Nat.not_lt_zero _)⟩, Nat.zero_le _⟩
    have R := m_sumR (J := J1) S TW hm2 12 0 (by decide) (by decide) 0 (0, fun _ => (0, 0)) I3 (Nat.zero_le _) (Nat.zero_le _) Q3
    have z0 : I3 49 0 = 0 := by rw [hI3, up2_k (by decide)]; exact s5
    have z1 : I3 49 1 = 0 := by rw [hI3, up2_k (by decide)]; exact s6
    have e0 : f_X12_law 49 (nn m) (st w I1 J1) = (bd (cv 12 49 (F_X12_sum 12 49)) fun _ => bd (cv 12 49 (f_X12_blanks 49)) fun _ => bd (gI 12 5 49) fun v8 => if (v8 = 0 : Prop) then (bd (gI 12 4 49) fun v9 => bd (gI 12 2 49) fun v10 => if (v10 ≤ v9 : Prop) then (f_X12_law_b85 49) else bd (gI 12 4 49) fun v11 => bd (cv 12 49 (f_X12_wrong 49 1 v11)) fun _ => f_X12_law_b85 49) else f_X12_law_b85 49) (st w I3 J1) := by
      rw [f_X12_law, bd_st (w_49_0 S), ← hI2, bd_st i1, bd_st (in_ok WT1 hm1), if_neg (by decide), if_pos (by rw [lim, nn_le (by omega) (by omega)]; omega), f_X12_law_b30, bd_st ((v_49 S).trans (mb_0 S 1 1 x0)), if_pos rfl, bd_st ((v_49 S).trans (m_starts S TW T2)), bd_st (w_49_18 S), ← hI3]
    -- the end of it
    have fin : ∀ I4 I5, LF I3 I4 → MA I4 I5 → (∀ a, a ≠ 49 → (a < 236 ∨ 395 < a) → I5 a = I1 a) ∧ (∀ j, 9 ≤ j → j ≠ 18 → I5 49 j = I1 49 j) ∧ I5 49 0 = 0 ∧ I5 49 1 = 0 := fun I4 I5 l4 a5 => by
      refine ⟨fun a h1 h2 => ?_, fun j h1 h2 => ?_, ?_, ?_⟩
      · rw [a5.1 a (by simpa using h1), l4.1 a h1 h2, f3.1 a h1]
      · rw [a5.2 j (by omega) (by omega) (by omega), l4.2 j (by omega) (by omega) (by omega) (by omega) h2, f3.2 j h1 h2]
      · rw [a5.2 0 (by decide) (by decide) (by decide), l4.2 0 (by decide) (by decide) (by decide) (by decide) (by decide)]
        exact z0
      · rw [a5.2 1 (by decide) (by decide) (by decide), l4.2 1 (by decide) (by decide) (by decide) (by decide) (by decide)]
        exact z1
    unfold lwT
    rw [e0]
    cases hR : suR (dB D) m 12 0 0 (0, fun _ => (0, 0)) with
    | inl r =>
      rw [hR] at R
      obtain ⟨I4, e4, l4, X4⟩ := R
      obtain ⟨I5, e5, a5, X5⟩ := m_blX (J := J1) S TW X4
      obtain ⟨f1, f2, f4, f5⟩ := fin I4 I5 l4 a5
      refine ⟨I5, ?_, f1, f2, f4, f5, X5⟩
      rw [bd_st ((v_49 S).trans e4), bd_st ((v_49 S).trans e5), bd_st (i_49_5 S), if_neg (mx5 X5)]
    | inr u =>
      rw [hR] at R
      obtain ⟨I4, e4, l4, Q4⟩ := R
      obtain ⟨I5, e5, a5, c5, p5⟩ := m_blR (J := J1) S TW Q4.1
      obtain ⟨y1, y2, -⟩ := su_EX 12 0 (by decide) _ _ _ (Nat.zero_le _) hR
      have g := sk_ge (b := dB D) y2
      have j5 := i_49_5 (I := I5) (J := J1) S
      rw [c5.2.1] at j5
      have j4 := i_49_4 (I := I5) (J := J1) S
      rw [p5] at j4
      have j2 := i_49_2 (I := I5) (J := J1) S
      rw [c5.1.1] at j2
      show ∃ I2, _ ∧ _ ∧ _ ∧ _ ∧ _ ∧ (match (if sk (dB D) m u.1 < m then .inl (1, sk (dB D) m u.1) else .inr u.2 : Er ⊕ Lw) with
        | .inl r => MTx (dB D) m r I2
        | .inr L => I2 49 5 = 0 ∧ LM I2 L)
      by_cases q : sk (dB D) m u.1 < m
      · rw [if_pos q]
        obtain ⟨I6, e6, a6, X6⟩ := m_wrR (J := J1) S c5 (x := 1) (by decide) (sk (dB D) m u.1)
        obtain ⟨f1, f2, f4, f5⟩ := fin I4 I6 l4 (a5.trans a6)
        refine ⟨I6, ?_, f1, f2, f4, f5, X6⟩
        rw [bd_st ((v_49 S).trans e4), bd_st ((v_49 S).trans e5), bd_st j5, if_pos rfl, bd_st j4, bd_st j2, if_neg (by rw [nn_le (by omega) (by omega)]; omega), bd_st j4, bd_st ((v_49 S).trans e6)]
      · rw [if_neg q]
        obtain ⟨f1, f2, f4, f5⟩ := fin I4 I5 l4 a5
        refine ⟨I5, ?_, f1, f2, f4, f5, c5.2.1, Q4.2.2.1.ma Q4.2.2.2 a5⟩
        rw [bd_st ((v_49 S).trans e4), bd_st ((v_49 S).trans e5), bd_st j5, if_pos rfl, bd_st j4, bd_st j2, if_pos (by rw [nn_le (by omega) (by omega)]; omega)]
  cases hR : lwT (dB D) m with
  | inl r =>
    rw [hR] at key
    obtain ⟨I1, e1, a1, c1⟩ := key
    have aI : Ag [1, 16, 17] I I1 := (oA.mono (by decide)).trans (a1.mono (by decide))
    refine ⟨r.1 - 10, w, I1, J, ?_, fun J1 hJ => ?_⟩
    · rw [f_X11_law, lim, bd_st eO, bd_st (r_0_4 S), bd_st (r_0_0 S), bd_st ((v_16 S).trans e1), if_pos rfl, bd_st (r_0_0 S), bd_st ((v_1 S).trans (c_fltA S c1))]
      rfl
    · obtain ⟨I2, e2, f2, g2, z2, y2, X2⟩ := mod I1 J1 (aI.mono (by decide))
      rw [hR] at X2
      have X2 : MTx (dB D) m r I2 := X2
      have e4 : f_X12_law_b85 49 (st w I2 J1) = some (.inl (r.1 - 10), st w (up2 I2 49 3 (nn r.2)) J1) := by
        rw [f_X12_law_b85, bd_st (i_49_5 S), if_neg (mx5 X2), bd_st ((v_49 S).trans (m_endsR S X2))]
        rfl
      have fr : ∀ a, a ≠ 49 → (a < 236 ∨ 395 < a) → a ≠ 1 → a ≠ 16 → a ≠ 17 → up2 I2 49 3 (nn r.2) a = I a := fun a h1 h2 h3 h4 h5 => by
        rw [up2_ra h1, f2 a h1 h2]
        exact aI a (by simp [h3, h4, h5])
      have k1 : up2 I2 49 3 (nn r.2) 1 = I1 1 := by rw [up2_ra (by decide), f2 1 (by decide) (by decide)]
      have HCr : ∀ j ∈ [17, 31, 32, 33, 34], up2 I2 49 3 (nn r.2) 49 j = I 49 j := fun j hj => by
        have q : ∀ j ∈ [17, 31, 32, 33, 34], 9 ≤ j ∧ j ≠ 18 := by decide
        have := q j hj
        rw [up2_k (by omega), g2 j this.1 this.2, aI 49 (by decide)]
      refine ⟨up2 I2 49 3 (nn r.2), e2.trans e4, by rw [up2_k (by decide)]; exact z2, inv_f S n1 n2 HCs HMs Ws (P := nn r.2) (fun a ha => fr a ?_ ?_ ?_ ?_ ?_) HCr (by rw [k1]; exact c1.1) (by rw [k1]; exact c1.2.2) (by rw [up2_k (by decide)]; exact y2) up2_s hJ⟩
      · exact fun e => by subst e; exact absurd ha (by decide)
      · exact sgA_r ha
      · exact fun e => by subst e; exact absurd ha (by decide)
      · exact fun e => by subst e; exact absurd ha (by decide)
      · exact fun e => by subst e; exact absurd ha (by decide)
  | inr L =>
    rw [hR] at key
    obtain ⟨I1, e1, a1, c1, c6, HL1⟩ := key
    obtain ⟨wL, hL⟩ := lw_W hm2 hR
    obtain ⟨I2, e2, a2, l2⟩ := c_copyL (J := J) S HL1 hL
    have aI : Ag [1, 13, 14, 16, 17] I I2 := ((oA.mono (by decide)).trans (a1.mono (by decide))).trans (a2.mono (by decide))
    refine ⟨1, w, I2, J, ?_, fun J1 hJ => ?_⟩
    · rw [f_X11_law, lim, bd_st eO, bd_st (r_0_4 S), bd_st (r_0_0 S), bd_st ((v_16 S).trans e1), if_neg (by decide), bd_st (r_0_3 S), bd_st (r_0_4 S), bd_st ((v_13 S).trans e2)]
      rfl
    · obtain ⟨I3, e3, f3, g3, z3, y3, X3⟩ := mod I2 J1 aI
      rw [hR] at X3
      obtain ⟨h5, M1, M2⟩ := X3
      have j5 := i_49_5 (I := I3) (J := J1) S
      rw [h5] at j5
      have j18 := i_49_18 (I := up2 I3 49 3 (-1)) (J := J1) S
      rw [up2_k (by decide), M1] at j18
      have j17 := i_49_17 (I := up2 (up2 I3 49 3 (-1)) 49 17 (nn L.1)) (J := J1) S
      rw [up2_s] at j17
      obtain ⟨I5, e5, f5, b5⟩ := m_lays4 (I := up2 (up2 I3 49 3 (-1)) 49 17 (nn L.1)) (J := J1) (m := L.1) S (by omega)
      have e4 : f_X12_law_b85 49 (st w I3 J1) = some (.inl 1, st w I5 J1) := by
        rw [f_X12_law_b85, bd_st j5, if_pos rfl, bd_st (w_49_3 S), bd_st j18, bd_st (w_49_17 S), bd_st (r_49_20 S), bd_st (r_49_19 S), bd_st j17, bd_st e5]
        rfl
      have k49 : I5 49 = up2 (up2 I3 49 3 (-1)) 49 17 (nn L.1) 49 := f5 49 (by decide)
      have ka : ∀ a, a ≠ 49 → (a < 75 ∨ 234 < a ∧ a < 236 ∨ 395 < a) → I5 a = I2 a := fun a h1 h2 => by
        rw [f5 a (by omega), up2_ra h1, up2_ra h1, f3 a h1 (by omega)]
      have kI : ∀ a, a ≠ 49 → (a < 75 ∨ 234 < a ∧ a < 236 ∨ 395 < a) → a ∉ [1, 13, 14, 16, 17] → I5 a = I a := fun a h1 h2 h3 => by
        rw [ka a h1 h2]
        exact aI a h3
      have k1 : I5 1 = I1 1 := by rw [ka 1 (by decide) (by decide), a2 1 (by decide)]
      refine ⟨I5, e3.trans e4, ?_, inv_l S n1 n2 HCs HMs Ws (fun a ha => ?_) (fun a ha => kI a (by omega) (by omega) (by simp; omega)) (fun a ha hr => ?_) (fun j hj => ?_) ?_ (Or.inl ⟨?_, fun j hj => ?_⟩) wL (by rw [k1]; exact c1) (by rw [k1]; exact c6) ?_ ?_ hJ⟩
      · rw [k49, up2_k (by decide), up2_k (by decide)]; exact z3
      · have q : ∀ a ∈ [0, 3, 4, 5, 6, 7, 24, 25, 43, 44, 45, 46, 47, 51], a ≠ 49 ∧ (a < 75 ∨ 234 < a ∧ a < 236 ∨ 395 < a) ∧ a ∉ [1, 13, 14, 16, 17] := by decide
        obtain ⟨q1, q2, q3⟩ := q a ha
        exact kI a q1 q2 q3
      · have q := sgM_l ha
        exact kI a (by omega) (by omega) (by simp; omega)
      · have q : ∀ j ∈ [31, 32, 33, 34], 9 ≤ j ∧ j ≠ 18 ∧ j ≠ 17 ∧ j ≠ 3 := by decide
        obtain ⟨q1, q2, q3, q4⟩ := q j hj
        rw [k49, up2_k q3, up2_k q4, g3 j q1 q2, aI 49 (by decide)]
      · refine ⟨by rw [ka 13 (by decide) (by decide)]; exact l2.1, fun j hj => ?_⟩
        rw [ka 14 (by decide) (by decide)]
        exact l2.2 j hj
      · rw [k49, up2_s]
        rfl
      · have hj : j < L.1 := hj
        obtain ⟨q0, q1⟩ := b5 j hj
        rw [q0, q1, up2_a (by omega), up2_a (by omega), up2_a (by omega), up2_a (by omega)]
        exact M2 j hj
      · rw [k49, up2_k (by decide), up2_k (by decide)]; exact y3
      · rw [k49, up2_k (by decide), up2_s]
theorem a_work (H : Inv k w I J) (hk : k ≤ 512) (x : Int32) : CallI k w I J (f_X11_work 0 x) (f_X12_work 49 x) ∨ CallE k w I J 14 1 (f_X11_work 0 x) (f_X12_work 49 x) := by
  have Hs := H
  have hr := H.rm hk
  obtain ⟨S, n1, n2, D, HC, HM, W⟩ := H
  have HCs := HC
  have HMs := HM
  have Ws := W
  obtain ⟨⟨HF, HA, HL, HWo, ⟨HT1, HT2⟩, HH, ⟨HI1, HI2⟩, hP, hN⟩, hE, hG⟩ := HC
  obtain ⟨⟨MF, MA', ML, MW, ⟨MT1, MT2⟩, ⟨MH1, MH2⟩, ⟨MI1, MI2⟩, mP, mN⟩, mE, mG⟩ := HM
  obtain ⟨WF, WHi, W16, WL', WW, ⟨WT1, WT2⟩, WM3, WMi⟩ := W
  have h8 := WF.1
  have h40 := WHi.1.1
  have lim : (150 : Int32) = nn 150 := rfl
  by_cases hx : lnP (dT D) 150 x
  rotate_left
  · refine Or.inr ((CallX.ok (Or.inr ⟨rfl, rfl⟩) Hs ⟨?_, fun J1 => ⟨0, ?_⟩⟩))
    · rw [f_X11_work, lim, bd_er ((v_0 S).trans (c_openNo S hr HT1 WT1 (by decide) hx))]
    · obtain ⟨I1, hI1⟩ : ∃ I1, I1 = up2 (up2 I 0 17 (I 0 17 + 1)) 49 0 0 := ⟨_, rfl⟩
      have S' := tw_Sw S 14
      have x1 : I1 49 1 = nn (dT D) := by rw [hI1, up2_k (by decide), up2_a (by decide)]; exact MT1
      have x0 : I1 49 0 = 0 := by rw [hI1, up2_s]
      have x51 : I1 51 1 = I 51 1 := by rw [hI1, up2_a (by decide), up2_a (by decide)]
      have i1 := i_49_1 (I := I1) (J := J1) S'
      rw [x1] at i1
      have fin : f_X12_work_b25 49 x 49 (st (tw w 14) I1 J1) = some (.inl 0, st (tw w 14) (up2 (up2 I1 49 0 1) 51 1 (I 51 1 + 1)) J1) := by
        have e := mb_11 (I := I1) (J := J1) S' 1 (by decide) x0
        rw [x51] at e
        rw [f_X12_work_b25, f_X12_work_b30, bd_st ((v_49 S').trans e), if_neg (by decide)]
        rfl
      rw [f_X12_work, bd_st (w_49_0 S'), ← hI1, bd_st i1]
      by_cases q0 : x < 0
      · rw [show bd (f_X12_in x 0 (nn (dT D))) _ _ = _ from bd_st (x := 0) (σ' := st (tw w 14) I1 J1) (by rw [f_X12_in, if_pos q0]; rfl), if_pos rfl]
        exact fin
      by_cases q1 : nn (dT D) < x
      · rw [show bd (f_X12_in x 0 (nn (dT D))) _ _ = _ from bd_st (x := 0) (σ' := st (tw w 14) I1 J1) (by rw [f_X12_in, if_neg q0, if_pos q1]; rfl), if_pos rfl]
        exact fin
      rw [show bd (f_X12_in x 0 (nn (dT D))) _ _ = _ from bd_st (x := 1) (σ' := st (tw w 14) I1 J1) (by rw [f_X12_in, if_neg q0, if_neg q1]; rfl), if_neg (by decide)]
      by_cases q2 : x ≤ 150
      · obtain ⟨m, hm, rfl⟩ := nn_of q0
        rw [nn_lt (by omega) hm] at q1
        rw [lim, nn_le hm (by omega)] at q2
        exact absurd ⟨m, by omega, by omega, rfl⟩ hx
      · rw [if_neg q2]
        exact fin
  obtain ⟨m, hm1, hm2, rfl⟩ := hx
  left
  have TW : TxW (dB D) m := ⟨by omega, fun c hc => WT2 c (by omega)⟩
  have eO := (v_0 S (F := f_X11_openText 0 (nn m) (nn 150))).trans (c_openOk (J := J) S HT1 WT1 (by decide) hm1 hm2)
  obtain ⟨oC, oA⟩ := op_C (I := I) HT2 hm1
  have eWk := (v_0 S (F := f_X11_worksToUndo 0)).trans (c_works (J := J) S (HH.ag (I' := opI I m) fun b hb => oA b (by simp; omega)))
  have q16 : (nn (dH D).length < (16 : Int32)) = ((dH D).length < 16) := nn_lt (b := 16) (by omega) (by decide)
  have q16' : (nn (dH D).length = (16 : Int32)) = ((dH D).length = 16) := nn_eq (b := 16) (by omega) (by decide)
  -- the model's beginning
  have mbeg : ∀ w' I1 J1, Sw w' → (∀ a, 48 < a → a < 526 → I1 a = I a) → f_X12_work 49 (nn m) (st w' I1 J1) = (bd (gI 12 32 49) fun v14 => if (v14 = 16 : Prop) then (bd (pf 12 1 49 (.int 0)) fun _ => bd (pf 12 3 49 (.int (-1))) fun _ => pu (-20)) else bd (cv 12 49 (f_X12_starts 49 (nn m))) fun _ => bd (pf 12 26 49 (.int 0)) fun _ => f_X12_work_b72 NF 49) (st w' (up2 I1 49 0 0) J1) := fun w' I1 J1 S1 a1 => by
    have x1 : up2 I1 49 0 0 49 1 = nn (dT D) := by rw [up2_k (by decide), a1 49 (by decide) (by decide)]; exact MT1
    have i1 := i_49_1 (I := up2 I1 49 0 0) (J := J1) S1
    rw [x1] at i1
    rw [f_X12_work, bd_st (w_49_0 S1), bd_st i1, bd_st (in_ok WT1 hm1), if_neg (by decide), if_pos (by rw [lim, nn_le (by omega) (by omega)]; omega), f_X12_work_b30, bd_st ((v_49 S1).trans (mb_0 S1 1 1 up2_s)), if_pos rfl]
  have m32 : ∀ w' I1 J1, Sw w' → (∀ a, 48 < a → a < 526 → I1 a = I a) → gI 12 32 49 (st w' (up2 I1 49 0 0) J1) = some (.inl (nn (dH D).length), st w' (up2 I1 49 0 0) J1) := fun w' I1 J1 S1 a1 => by
    have := i_49_32 (I := up2 I1 49 0 0) (J := J1) S1
    rw [up2_k (by decide), a1 49 (by decide) (by decide), MH1] at this
    exact this
  by_cases hfull : (dH D).length < 16
  rotate_left
  · -- no more works
    have h16 : (dH D).length = 16 := by omega
    refine ⟨-20, w, opI I m, J, ?_, fun J1 hJ => ?_⟩
    · rw [f_X11_work, lim, bd_st eO, bd_st eWk, if_neg (by rw [q16]; exact hfull)]
      rfl
    · have a1 : ∀ a, 48 < a → a < 526 → opI I m a = I a := fun a h1 h2 => oA a (by simp; omega)
      have aa : Ag [1, 49] I (up2 (up2 (up2 (opI I m) 49 0 0) 49 1 0) 49 3 (-1)) := (((oA.mono (by decide)).up (by decide)).up (by decide)).up (by decide)
      have k1 : (up2 (up2 (up2 (opI I m) 49 0 0) 49 1 0) 49 3 (-1)) 1 = opI I m 1 := by simp (disch := decide) only [up2_ra]
      refine ⟨up2 (up2 (up2 (opI I m) 49 0 0) 49 1 0) 49 3 (-1), ?_, ?_, inv_f S n1 n2 HCs HMs Ws (P := -1) (sgA_ag aa (by decide)) (fun j hj => ?_) ?_ ?_ ?_ up2_s hJ⟩
      · rw [mbeg w _ J1 S a1, bd_st (m32 w _ J1 S a1), if_pos (by rw [q16']; exact h16), bd_st (w_49_1 S), bd_st (w_49_3 S)]
        rfl
      · rw [up2_k (by decide), up2_k (by decide), up2_s]
      · have q : ∀ j ∈ [17, 31, 32, 33, 34], j ≠ 0 ∧ j ≠ 1 ∧ j ≠ 3 := by decide
        obtain ⟨q1, q2, q3⟩ := q j hj
        rw [up2_k q3, up2_k q2, up2_k q1, oA 49 (by decide)]
      · rw [k1]; exact oC.2.1
      · rw [k1]; exact oC.2.2.1
      · rw [up2_k (by decide), up2_s]
  have key := c_readW2 (J := J) (z := sz (dF D)) S TW hm2 h8 oC rc0
  have i34 := i_3_4 (I := opI I m) (J := J) S
  rw [oA 3 (by decide), fc_sz HF] at i34
  -- the model reads
  have mod : ∀ w' I1 J1, Sw w' → (∀ a, 48 < a → a < 526 → I1 a = I a) → ∃ z I2, f_X12_work 49 (nn m) (st w' I1 J1) = z ∧ (∀ a, a ≠ 49 → I2 a = I1 a) ∧ (∀ j, 9 ≤ j → j ≠ 26 → I2 49 j = I1 49 j) ∧ I2 49 0 = 0 ∧ I2 49 1 = 0 ∧ MWe w' J1 I2 (dB D) m z (wkR (dB D) m (sz (dF D)) 12 0 0 0 rc0) := fun w' I1 J1 S1 a1 => by
    obtain ⟨I2, hI2⟩ : ∃ I2, I2 = up2 I1 49 0 0 := ⟨_, rfl⟩
    have x0 : I2 49 0 = 0 := by rw [hI2, up2_s]
    have T2 : ∀ c, c < m → I2 50 c = nn (dB D c) := fun c hc => by rw [hI2, up2_a (by decide), a1 50 (by decide) (by decide)]; exact MT2 c (by omega)
    obtain ⟨s1, s2, s3, s4, s5, s6, s7, s8⟩ := sta_M (I := I2) TW T2 x0
    obtain ⟨I3, hI3⟩ : ∃ I3, I3 = up2 (staI I2 (dB D) m) 49 26 0 := ⟨_, rfl⟩
    have f3 : ∀ a, a ≠ 49 → I3 a = I1 a := fun a ha => by rw [hI3, up2_ra ha, s3 a (by simpa using ha), hI2, up2_ra ha]
    have R := m_topL (J := J1) (z := sz (dF D)) (rc := wkR (dB D) m (sz (dF D)) 11) S1 TW hm2 (m_stepD S1 TW hm2 h8 11 0 (by decide) (by decide)) (fun p c f u hp hu => (ws_X p c f u hp hu).1) 31 0 0 rc0 I3 NF (by omega) (by decide) (Nat.zero_le _) (Nat.zero_le _) (by rw [hI3]; exact s1.u26) (by rw [hI3, up2_k (by decide)]; exact s2) (by rw [hI3, up2_k (by decide)]; exact s8) (by rw [hI3, up2_s]; rfl) (by rw [f3 53 (by decide), a1 53 (by decide) (by decide)]; exact fm_sz MF) (fun k hk => absurd hk (Nat.not_lt_zero _))
    refine ⟨f_X12_work_b72 NF 49 (st w' I3 J1), I3, ?_, f3, fun j h1 h2 => ?_, ?_, ?_, R⟩
    · rw [mbeg w' I1 J1 S1 a1, bd_st (m32 w' I1 J1 S1 a1), if_neg (by rw [q16']; omega), ← hI2, bd_st ((v_49 S1).trans (m_starts S1 TW T2)), bd_st (w_49_26 S1), ← hI3]
    · rw [hI3, up2_k h2, s4 j h1, hI2, up2_k (by omega)]
    · rw [hI3, up2_k (by decide)]; exact s5
    · rw [hI3, up2_k (by decide)]; exact s6
  cases hR : wkR (dB D) m (sz (dF D)) 12 0 0 0 rc0 with
  | inl r =>
    rw [hR] at key
    obtain ⟨I1, e1, a1, c1⟩ := key
    have aI : Ag KV I I1 := (oA.mono (by decide)).trans a1
    refine ⟨r.1 - 10, w, I1, J, ?_, fun J1 hJ => ?_⟩
    · rw [f_X11_work, lim, bd_st eO, bd_st eWk, if_pos (by rw [q16]; exact hfull), bd_st (r_0_5 S), bd_st (r_0_0 S), bd_st (r_0_1 S), bd_st i34, bd_st ((v_19 S).trans e1), if_pos rfl, bd_st (r_0_0 S), bd_st ((v_1 S).trans (c_fltA S c1))]
      rfl
    · obtain ⟨z, I2, ez, f2, g2, z2, y2, R⟩ := mod w I1 J1 S (fun a h1 h2 => aI a (by simp [KV]; omega))
      rw [hR] at R
      obtain ⟨I3, e3, a3, X3⟩ := R
      have e4 : f_X12_work_b101 49 (st w I3 J1) = some (.inl (r.1 - 10), st w (up2 I3 49 3 (nn r.2)) J1) := by
        rw [f_X12_work_b101, bd_st (i_49_5 S), if_neg (mx5 X3), bd_st ((v_49 S).trans (m_endsR S X3))]
        rfl
      have fr : ∀ a, a ≠ 49 → (a < 417 ∨ 496 < a) → up2 I3 49 3 (nn r.2) a = I1 a := fun a h1 h2 => by
        rw [up2_ra h1, a3.1 a h1 h2, f2 a h1]
      have g3 : ∀ j, j ≠ 3 → j ≠ 4 → j ≠ 5 → j ≠ 6 → j ≠ 8 → j ≠ 26 → up2 I3 49 3 (nn r.2) 49 j = I2 49 j := fun j h1 h2 h3 h4 h5 h6 => by
        rw [up2_k h1, a3.2 j h2 h3 h4 h5 h6]
      have k1 := fr 1 (by decide) (by decide)
      refine ⟨up2 I3 49 3 (nn r.2), ez.trans (e3.trans e4), ?_, inv_f S n1 n2 HCs HMs Ws (P := nn r.2) (fun a ha => ?_) (fun j hj => ?_) (by rw [k1]; exact c1.1) (by rw [k1]; exact c1.2.2) ?_ up2_s hJ⟩
      · rw [g3 0 (by decide) (by decide) (by decide) (by decide) (by decide) (by decide)]; exact z2
      · have h49 : a ≠ 49 := fun e => by subst e; exact absurd ha (by decide)
        rw [fr a h49 (sgA_w ha)]
        refine aI a fun q => ?_
        have : ∀ a ∈ KV, sgA a = false := by decide
        rw [this a q] at ha
        exact absurd ha (by decide)
      · have q : ∀ j ∈ [17, 31, 32, 33, 34], 9 ≤ j ∧ j ≠ 26 := by decide
        have := q j hj
        rw [g3 j (by omega) (by omega) (by omega) (by omega) (by omega) this.2, g2 j this.1 this.2, aI 49 (by decide)]
      · rw [g3 1 (by decide) (by decide) (by decide) (by decide) (by decide) (by decide)]; exact y2
  | inr u =>
    rw [hR] at key
    obtain ⟨I1, e1, a1, c1, v4, v1, v5, v6, v7⟩ := key
    obtain ⟨⟨x1, x2, x3, x4, x5⟩, mm, wf⟩ := wk_X 12 0 0 0 rc0 u (Nat.zero_le _) hR
    have hc30 : u.2.1 ≤ 30 := by omega
    have aI : Ag KV I I1 := (oA.mono (by decide)).trans a1
    have HA1 : StR I1 43 (dA D) := HA.ag aI (by decide)
    have HH1 : HiC w I1 (w.2.2.2 0 13) (dH D) := HH.ag fun b hb => aI b (by simp [KV]; omega)
    obtain ⟨w0, w1, I0, J0, I2, J2, e2, S0, r0, e3, S1, X1, z1, z2, rL, IL, JL, HK⟩ := c_kept (J := J) S hr HA1 h40 HH1 (by omega)
    have hw := S.1
    obtain ⟨w2, ew2⟩ : ∃ w2, w2 = sR w1 0 13 (some w.1) := ⟨_, rfl⟩
    have S2 : Sw w2 := by rw [ew2]; exact sR_Sw S1 r13
    have X2 : Ext w1 w2 := by rw [ew2]; exact sR_Ext (by decide)
    have e13 := wH_st (I := I2) (J := J2) S1 (some w.1)
    rw [← ew2] at e13
    have c2 : ∀ a, a < 526 → a ∉ KV → I2 a = I a := fun a h1 h2 => by rw [IL a (by omega)]; exact aI a h2
    have b2 : ∀ a, a < 526 → I2 a = I1 a := fun a h => IL a (by omega)
    -- the steps are done
    have CC2 : CC (dF D) (dL D) u.2.2 u.2.1 I2 := by
      refine ⟨?_, ?_, fun j hj => (v1 j hj).sm ⟨by rw [b2 20 (by decide)], by rw [b2 21 (by decide)], by rw [b2 22 (by decide)], by rw [b2 23 (by decide)]⟩⟩
      · unfold FoC
        rw [c2 3 (by decide) (by decide), c2 4 (by decide) (by decide), c2 5 (by decide) (by decide), c2 6 (by decide) (by decide), c2 7 (by decide) (by decide)]
        exact HF
      · unfold LwC
        rw [c2 13 (by decide) (by decide), c2 14 (by decide) (by decide)]
        exact HL
    have XC2 : XC I2 (dA D, 0, 0, 0) := by
      refine ⟨?_, by rw [b2 19 (by decide)]; exact v5, by rw [b2 19 (by decide)]; exact v6, by rw [b2 19 (by decide)]; exact v7⟩
      show StR I2 43 (dA D)
      unfold StR
      rw [b2 43 (by decide), b2 (43 + 1) (by decide), b2 (43 + 2) (by decide), b2 (43 + 3) (by decide), b2 (43 + 4) (by decide)]
      exact HA1
    have XW0 : XW (dF D) (200 * (dH D).length) (dA D, 0, 0, 0) := ⟨WHi.1, WHi.2.1, fun p hp => WHi.2.2.1 p hp, Nat.zero_le _, Nat.zero_le _, Nat.zero_le _, Nat.zero_le _⟩
    obtain ⟨I3, e4, a3, X3, W3⟩ := c_perf (J := J2) S2 WF WL' hc30 12 0 (by decide) (by decide) mm 0 u.2.1 (dA D, 0, 0, 0) I2 wf (Nat.le_refl _) CC2 XC2 XW0
    have e4 : F_X9_performSteps 12 19 28 43 0 (nn u.2.1) 0 (st w2 I2 J2) = some (.inl (), st w2 I3 J2) := e4
    obtain ⟨y, hy⟩ : ∃ y, y = pfX (dF D) (dL D) u.2.2 mm 0 u.2.1 (dA D, 0, 0, 0) := ⟨_, rfl⟩
    rw [← hy] at X3 W3
    obtain ⟨I4, hI4⟩ : ∃ I4, I4 = up2 I3 0 15 (nn y.2.2.2) := ⟨_, rfl⟩
    have a4 : Ag [0] I3 I4 := by rw [hI4]; exact (Ag.refl _ _).up (by decide)
    have eC : f_X11_work 0 (nn m) (st w I J) = some (.inl (nn y.2.2.1), st w2 I4 J2) := by
      have n13 := n_0_13 (I := I0) (J := J0) S0
      rw [r0] at n13
      have j4 := i_19_4 (I := I2) (J := J2) S2
      rw [b2 19 (by decide), v4] at j4
      have eP : f_X9_perform 19 28 43 (st w2 I2 J2) = some (.inl (), st w2 I3 J2) := by
        rw [f_X9_perform, bd_st j4, bd_st ((v_19 S2).trans e4)]
        rfl
      have j7 := i_19_7 (I := I3) (J := J2) S2
      rw [X3.2.2.2] at j7
      have j6 := i_19_6 (I := I4) (J := J2) S2
      rw [a4 19 (by decide), X3.2.2.1] at j6
      rw [f_X11_work, lim, bd_st eO, bd_st eWk, if_pos (by rw [q16]; exact hfull), bd_st (r_0_5 S), bd_st (r_0_0 S), bd_st (r_0_1 S), bd_st i34, bd_st ((v_19 S).trans e1), if_neg (by decide), bd_st e2, bd_st (r_0_11 S0), bd_st n13, bd_st e3, bd_st e13, bd_st (r_0_5 S2), bd_st (r_0_7 S2), bd_st (r_0_11 S2), bd_st ((v_19 S2).trans eP), bd_st (r_0_5 S2), bd_st j7, bd_st (w_0_15 S2), ← hI4, bd_st (r_0_5 S2), bd_st j6]
      rfl
    refine ⟨_, _, _, _, eC, fun J1 hJ => ?_⟩
    have c4 : ∀ a, a < 526 → a ∉ [0, 1, 15, 19, 20, 21, 22, 23, 29, 43, 44, 45, 46, 47] → I4 a = I a := fun a h1 h2 => by
      simp only [List.mem_cons, List.not_mem_nil, or_false, not_or] at h2
      rw [a4 a (by simp; omega), a3 a (by simp [KP]; omega)]
      exact c2 a h1 (by simp [KV]; omega)
    -- the model
    obtain ⟨z, I5, ez, f5, g5, z5, y5, R⟩ := mod w2 I4 J1 S2 (fun a h1 h2 => c4 a h2 (by simp; omega))
    rw [hR] at R
    obtain ⟨I6, e6, a6, h65, h626, r6⟩ := R
    have b6 : ∀ a, a ≠ 49 → (a < 417 ∨ 496 < a) → I6 a = I4 a := fun a h1 h2 => by rw [a6.1 a h1 h2, f5 a h1]
    have g6 : ∀ j, 9 ≤ j → j ≠ 26 → I6 49 j = I 49 j := fun j h1 h2 => by
      rw [a6.2 j (by omega) (by omega) (by omega) (by omega) h2, g5 j h1 h2, c4 49 (by decide) (by decide)]
    obtain ⟨I7, e7, a7, r7⟩ := m_copies (I := up2 I6 49 3 (-1)) (J := J1) (RoS_497 S2) (RoS_500 S2 hfull) (by omega)
    obtain ⟨I8, hI8⟩ : ∃ I8, I8 = up2 (up2 (up2 (up2 I7 49 32 (nn ((dH D).length + 1))) 49 36 0) 49 37 0) 49 33 0 := ⟨_, rfl⟩
    have k8 : ∀ a, a ≠ 49 → I8 a = I7 a := fun a ha => by
      rw [hI8]
      simp only [up2_ra ha]
    have b8 : ∀ a, a ≠ 49 → a ≠ 500 + (dH D).length → I8 a = I6 a := fun a h1 h2 => by
      rw [k8 a h1, a7 a (by simpa using h2), up2_ra h1]
    have g8 : ∀ j, j ≠ 32 → j ≠ 36 → j ≠ 37 → j ≠ 33 → j ≠ 3 → I8 49 j = I6 49 j := fun j h1 h2 h3 h4 h5 => by
      rw [hI8, up2_k h4, up2_k h3, up2_k h2, up2_k h1, a7 49 (by simp; omega), up2_k h5]
    have R6 : RwR I6 497 0 (dA D) := by
      have := MA'
      unfold RwR at this ⊢
      rw [b6 497 (by decide) (by decide), c4 497 (by decide) (by decide)]
      exact this
    have CM8 : CM2 (dF D) (dL D) u.2.2 u.2.1 I8 := by
      refine ⟨⟨?_, ?_, fun p hp => ?_⟩, ML.kp WL'.1 (fun j hj => ?_) ?_, fun j hj => (r6 j hj).row (b8 (417 + j) (by omega) (by omega))⟩
      · rw [b8 53 (by decide) (by omega), b6 53 (by decide) (by decide), c4 53 (by decide) (by decide)]; exact MF.1
      · rw [b8 53 (by decide) (by omega), b6 53 (by decide) (by decide), c4 53 (by decide) (by decide)]; exact MF.2.1
      · rw [b8 55 (by decide) (by omega), b6 55 (by decide) (by decide), c4 55 (by decide) (by decide), b8 (66 + p) (by omega) (by omega), b6 (66 + p) (by omega) (by omega), c4 (66 + p) (by omega) (by simp; omega)]
        exact MF.2.2 p hp
      · rw [b8 (75 + j) (by omega) (by omega), b6 (75 + j) (by omega) (by omega), c4 (75 + j) (by omega) (by simp; omega)]
      · rw [g8 17 (by decide) (by decide) (by decide) (by decide) (by decide), g6 17 (by decide) (by decide)]
    have XM8 : XM I8 (dA D, 0, 0, 0) := by
      refine ⟨?_, ?_, ?_, ?_⟩
      · have := R6
        unfold RwR at this ⊢
        rw [b8 497 (by decide) (by omega)]
        exact this
      · rw [hI8]
        simp (disch := decide) only [up2_k, up2_s]
        rfl
      · rw [hI8]
        simp (disch := decide) only [up2_k, up2_s]
        rfl
      · rw [hI8, up2_s]
        rfl
    obtain ⟨I9, e9, a9, X9, -⟩ := m_goes (J := J1) S2 WF WL' hc30 12 0 (by decide) (by decide) mm 0 u.2.1 (dA D, 0, 0, 0) I8 wf (Nat.le_refl _) CM8 XM8 XW0
    rw [← hy] at X9
    have e9 : F_X12_goes 12 49 0 (nn u.2.1) (st w2 I8 J1) = some (.inl (), st w2 I9 J1) := e9
    have b9 : ∀ a, a ≠ 49 → a ∉ [414, 415, 497] → a ≠ 500 + (dH D).length → (a < 417 ∨ 496 < a) → I9 a = I4 a := fun a h1 h2 h3 h4 => by
      simp only [List.mem_cons, List.not_mem_nil, or_false, not_or] at h2
      rw [a9.1 a (by simp; omega), b8 a h1 h3, b6 a h1 h4]
    have d9 : ∀ a, a < 526 → a ∉ [0, 1, 15, 19, 20, 21, 22, 23, 29, 43, 44, 45, 46, 47, 49, 414, 415, 497] → a ≠ 500 + (dH D).length → (a < 417 ∨ 496 < a) → I9 a = I a := fun a h1 h2 h3 h4 => by
      simp only [List.mem_cons, List.not_mem_nil, or_false, not_or] at h2
      rw [b9 a (by omega) (by simp; omega) h3 h4, c4 a h1 (by simp; omega)]
    have g9 : ∀ j, 9 ≤ j → j ≠ 26 → j ≠ 32 → j ≠ 33 → j ≠ 36 → j ≠ 37 → I9 49 j = I 49 j := fun j h1 h2 h3 h4 h5 h6 => by
      rw [a9.2 j h4 h5 h6, g8 j h3 h5 h6 h4 (by omega), g6 j h1 h2]
    have k1 : I9 1 = I1 1 := by rw [b9 1 (by decide) (by decide) (by omega) (by decide), a4 1 (by decide), a3 1 (by decide), b2 1 (by decide)]
    have x0 : ∀ j, j ≠ 15 → I9 0 j = I 0 j := fun j hj => by
      rw [b9 0 (by decide) (by decide) (by omega) (by decide), hI4, up2_k hj, a3 0 (by decide), c2 0 (by decide) (by decide)]
    have b526 : ∀ a, 526 ≤ a → I9 a = I2 a := fun a h => by
      rw [b9 a (by omega) (by simp; omega) (by omega) (by omega), a4 a (by simp; omega), a3 a (by simp [KP]; omega)]
    have x49 : I9 49 32 = nn ((dH D).length + 1) := by
      rw [a9.2 32 (by decide) (by decide) (by decide), hI8]
      simp (disch := decide) only [up2_k, up2_s]
    have e101 : f_X12_work_b101 49 (st w2 I6 J1) = some (.inl (nn y.2.2.1), st w2 I9 J1) := by
      have i5 := i_49_5 (I := I6) (J := J1) S2
      rw [h65] at i5
      have i32 := i_49_32 (I := up2 I6 49 3 (-1)) (J := J1) S2
      rw [up2_k (by decide), g6 32 (by decide) (by decide), MH1] at i32
      have j32 := i_49_32 (I := I7) (J := J1) S2
      rw [a7 49 (by simp; omega), up2_k (by decide), g6 32 (by decide) (by decide), MH1] at j32
      have j26 := i_49_26 (I := I8) (J := J1) S2
      rw [g8 26 (by decide) (by decide) (by decide) (by decide) (by decide), h626] at j26
      have j37 := i_49_37 (I := I9) (J := J1) S2
      rw [X9.2.2.1] at j37
      rw [f_X12_work_b101, bd_st i5, if_pos rfl, bd_st (w_49_3 S2), bd_st (r_49_27 S2), bd_st (r_49_29 S2), bd_st i32, bd_st (g_499 S2 hfull), bd_st e7, bd_st j32, nn_succ, bd_st (w_49_32 S2), bd_st (w_49_36 S2), bd_st (w_49_37 S2), bd_st (w_49_33 S2), ← hI8, bd_st j26, bd_st ((v_49 S2).trans e9), bd_st j37]
      rfl
    -- the histories
    have tr : ∀ {l : List At} {p : Option Nat}, HiC w I p l → HiC w2 I9 p l := by
      intro l p h
      have key : ∀ {l : List At} {p : Option Nat}, HiC w I p l → HiC w I9 p l := by
        intro l
        induction l with
        | nil => exact fun h => h
        | cons A l ih =>
          rintro p ⟨a, e, h1, h2, h3, h4, h5, h6, h7, h8, h9, h10⟩
          have he5 := h7.1
          have L : ∀ b, 526 ≤ b → b < w.1 → I9 b = I b := fun b hb hlt => by rw [b526 b hb, IL b hlt]; exact aI b (by simp [KV]; omega)
          refine ⟨a, e, h1, h2, h3, h4, h5, h6, h7, ?_, ?_, ih h10⟩
          · unfold StR
            rw [L e (by omega) (by omega), L (e + 1) (by omega) (by omega), L (e + 2) (by omega) (by omega), L (e + 3) (by omega) (by omega), L (e + 4) (by omega) (by omega)]
            exact h8
          · rw [L a (by omega) (by omega)]
            exact h9
      exact ((key h).ext X1).ext X2
    obtain ⟨W3a, W3b, W3c, W3d, -, -, -⟩ := W3
    refine ⟨I9, ez.trans (e6.trans e101), ?_, S2, ?_, ?_, ((dF D, y.1, dL D, dW D), (0, dB D), (dA D :: dH D, dM D), (-1, nn y.2.2.2, dE D, dG D)), ⟨⟨?_, ?_, ?_, ?_, ⟨?_, fun c hc => absurd hc (Nat.not_lt_zero _)⟩, ?_, ⟨?_, ?_⟩, ?_, ?_⟩, ?_, ?_⟩, ⟨⟨?_, ?_, ?_, ?_, ⟨?_, fun c hc => absurd hc (Nat.not_lt_zero _)⟩, ⟨?_, ?_, ?_⟩, ⟨?_, ?_⟩, ?_, ?_⟩, ?_, ?_⟩, ?_⟩
    · rw [a9.2 0 (by decide) (by decide) (by decide), g8 0 (by decide) (by decide) (by decide) (by decide) (by decide), a6.2 0 (by decide) (by decide) (by decide) (by decide) (by decide)]
      exact z5
    · rw [ew2]
      show w1.1 ≤ _
      omega
    · rw [ew2]
      show w1.2.1 ≤ _
      omega
    · show FoC I9 (dF D)
      unfold FoC
      rw [d9 3 (by decide) (by decide) (by omega) (by decide), d9 4 (by decide) (by decide) (by omega) (by decide), d9 5 (by decide) (by decide) (by omega) (by decide), d9 6 (by decide) (by decide) (by omega) (by decide), d9 7 (by decide) (by decide) (by omega) (by decide)]
      exact HF
    · show StR I9 43 y.1
      have t := X3.1
      unfold StR at t ⊢
      have q : ∀ b, 43 ≤ b → b < 48 → I9 b = I3 b := fun b hb hb' => by
        rw [b9 b (by omega) (by simp; omega) (by omega) (by omega), a4 b (by simp; omega)]
      rw [q 43 (by decide) (by decide), q (43 + 1) (by decide) (by decide), q (43 + 2) (by decide) (by decide), q (43 + 3) (by decide) (by decide), q (43 + 4) (by decide) (by decide)]
      exact t
    · show LwC I9 (dL D)
      unfold LwC
      rw [d9 13 (by decide) (by decide) (by omega) (by decide), d9 14 (by decide) (by decide) (by omega) (by decide)]
      exact HL
    · show WoC I9 J1 (dF D) (dW D)
      unfold WoC
      rw [d9 24 (by decide) (by decide) (by omega) (by decide), d9 25 (by decide) (by decide) (by omega) (by decide), hJ, JL 24 (by omega)]
      exact HWo
    · rw [k1]; exact c1.2.1
    · have : w2.2.2.2 0 13 = some w.1 := by
        rw [ew2]
        show up2 w1.2.2.2 0 13 (some w.1) 0 13 = some w.1
        exact up2_s
      rw [this]
      exact (HK.ag b526).ext X2
    · rw [x0 14 (by decide)]; exact HI1
    · show ImC w2 I9 (dM D)
      have key : ∀ {l : List (At × List At)}, ImC w I l → ImC w2 I9 l := by
        intro l
        induction l with
        | nil => exact fun _ => trivial
        | cons q l ih =>
          intro h
          refine ⟨?_, ih h.2⟩
          have : w2.2.2.2 48 l.length = w.2.2.2 48 l.length := by
            rw [ew2]
            show up2 w1.2.2.2 0 13 (some w.1) 48 l.length = _
            rw [up2_a (by decide), rL 48 (by omega)]
          rw [this]
          exact tr h.1
      exact key HI2
    · rw [k1]; exact c1.2.2.1
    · rw [b9 0 (by decide) (by decide) (by omega) (by decide), hI4, up2_s]
      rfl
    · rw [x0 16 (by decide)]; exact hE
    · rw [x0 17 (by decide)]; exact hG
    · show FoM I9 (dF D)
      refine ⟨?_, ?_, fun p hp => ?_⟩
      · rw [d9 53 (by decide) (by decide) (by omega) (by decide)]; exact MF.1
      · rw [d9 53 (by decide) (by decide) (by omega) (by decide)]; exact MF.2.1
      · rw [d9 55 (by decide) (by decide) (by omega) (by decide), d9 (66 + p) (by omega) (by simp; omega) (by omega) (by omega)]
        exact MF.2.2 p hp
    · exact X9.1
    · exact ML.kp WL'.1 (fun j hj => d9 (75 + j) (by omega) (by simp; omega) (by omega) (by omega)) (g9 17 (by decide) (by decide) (by decide) (by decide) (by decide) (by decide))
    · show WoM I9 (dW D)
      refine ⟨by rw [g9 31 (by decide) (by decide) (by decide) (by decide) (by decide) (by decide)]; exact MW.1, fun j hj => ?_⟩
      have := WW.1
      rw [d9 (397 + j) (by omega) (by simp; omega) (by omega) (by omega)]
      exact MW.2 j hj
    · rw [a9.2 1 (by decide) (by decide) (by decide), g8 1 (by decide) (by decide) (by decide) (by decide) (by decide), a6.2 1 (by decide) (by decide) (by decide) (by decide) (by decide)]
      exact y5
    · exact x49
    · show RwR I9 (500 + (dH D).length) 0 (dA D)
      have t : RwR I7 (500 + (dH D).length) 0 (dA D) := by
        refine R6.row (fun c hc => ?_) h40
        rw [r7 c hc, up2_a (by decide)]
      unfold RwR at t ⊢
      rw [a9.1 (500 + (dH D).length) (by simp; omega), k8 (500 + (dH D).length) (by omega)]
      exact t
    · show HiM I9 (fun i => (500 + i, 0)) (dH D)
      exact HiM.ag (fun i hi => d9 (500 + i) (by omega) (by simp; omega) (by omega) (by omega)) MH2
    · rw [g9 34 (by decide) (by decide) (by decide) (by decide) (by decide) (by decide)]
      exact MI1
    · exact ImM.ag (fun i hi => d9 (517 + i) (by have hi : i < (dM D).length := hi; omega) (by simp; omega) (by omega) (by omega)) MI2
    · rw [a9.2 3 (by decide) (by decide) (by decide), hI8]
      simp (disch := decide) only [up2_k]
      rw [a7 49 (by simp; omega), up2_s]
      rfl
    · exact X9.2.2.2
    · rw [d9 51 (by decide) (by decide) (by omega) (by decide)]; exact mE
    · rw [d9 51 (by decide) (by decide) (by omega) (by decide)]; exact mG
    · refine ⟨WF, ⟨W3a, W3b, fun p hp => ?_, WHi⟩, by show (dH D).length + 1 ≤ 16; omega, WL', WW, ⟨Nat.zero_le _, fun c hc => absurd hc (Nat.not_lt_zero _)⟩, WM3, WMi⟩
      have := W3c p hp
      show tk y.1 p ≤ 200 * ((dH D).length + 1) ∧ sa y.1 p ≤ 200 * ((dH D).length + 1)
      omega
end CX4
