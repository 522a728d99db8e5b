/-! PURE PART: town, the call -/
section TCALL
variable {w : Wd} {I I' : Is} {J J' : Js} {D : Dt} {k : Nat}
/-- the cells that both relations speak of, but for the tape's and the model's own -/
def sgA (a : Nat) : Bool := a != 1 && a != 49 && (a == 0 || a == 51 || !sgC a || sgM a)
theorem sgA_ag {K : List Nat} (h : Ag K I I') (hk : ∀ a ∈ K, sgA a = false) : ∀ a, sgA a = true → I' a = I a := fun a ha => h a fun q => by
  rw [hk a q] at ha
  exact absurd ha (by decide)
theorem sgA_C {a : Nat} (h1 : a ≠ 1) (h2 : a ≠ 49) (h : sgC a = false) : sgA a = true := by
  unfold sgA
  simp [h1, h2, h]
theorem sgA_M {a : Nat} (h1 : a ≠ 1) (h2 : a ≠ 49) (h : sgM a = true) : sgA a = true := by
  unfold sgA
  simp [h1, h2, h]
/-- a text that was read in vain: nothing changes but the tape and the fault's place -/
theorem inv_f (S : Sw w) (n1 : w.1 ≤ 526 + 7 * k) (n2 : w.2.1 ≤ 50000 + 100 * k) (HC : RC w I J D) (HM : RM I D) (W : WD D) {P : Int32} (ag : ∀ a, sgA a = true → I' a = I a) (g6 : ∀ j ∈ [17, 31, 32, 33, 34], I' 49 j = I 49 j) (c1 : I' 1 1 = 0) (c6 : I' 1 6 = P) (m1 : I' 49 1 = 0) (m3 : I' 49 3 = P) (hJ : J' 24 = J 24) : Inv (k + 1) w I' J' := by
  have dC : ∀ a, a ≠ 1 → sgC a = false → a ≠ 49 → I' a = I a := fun a h1 h2 h3 => ag a (sgA_C h1 h3 h2)
  have eM : ∀ a, a ≠ 1 → sgM a = true → a ≠ 49 → I' a = I a := fun a h1 h2 h3 => ag a (sgA_M h1 h3 h2)
  have d0 : I' 0 = I 0 := ag 0 rfl
  have d51 : I' 51 = I 51 := ag 51 rfl
  have d2 : ∀ a, 526 ≤ a → I' a = I a := fun a ha => dC a (by omega) (by simp [sgC]; omega) (by omega)
  obtain ⟨⟨HF, HA, HL, HWo, ⟨HT1, HT2⟩, HH, ⟨HI1, HI2⟩, hP, hN⟩, hE, hG⟩ := HC
  obtain ⟨⟨MF, MA, ML, MW, ⟨MT1, MT2⟩, ⟨MH1, MH2⟩, ⟨MI1, MI2⟩, mP, mN⟩, mE, mG⟩ := HM
  obtain ⟨WF, WHi, W16, WL, WW, ⟨WT1, WT2⟩, WM3, WMi⟩ := W
  have z8 := WF.1
  have zl := WL.1
  have zw := WW.1
  refine ⟨S, by omega, by omega, (D.1, (0, dB D), D.2.2.1, (P, dN D, dE D, dG D)), ⟨⟨?_, ?_, ?_, ?_, ⟨c1, fun c hc => absurd hc (Nat.not_lt_zero _)⟩, ?_, ⟨?_, ?_⟩, c6, ?_⟩, ?_, ?_⟩, ⟨⟨?_, ?_, ?_, ⟨?_, ?_⟩, ⟨m1, fun c hc => absurd hc (Nat.not_lt_zero _)⟩, ⟨?_, ?_⟩, ⟨?_, ?_⟩, m3, ?_⟩, ?_, ?_⟩, ⟨WF, WHi, W16, WL, WW, ⟨Nat.zero_le _, fun c hc => absurd hc (Nat.not_lt_zero _)⟩, WM3, WMi⟩⟩
  · show FoC I' (dF D)
    unfold FoC
    rw [dC 3 (by decide) rfl (by decide), dC 4 (by decide) rfl (by decide), dC 5 (by decide) rfl (by decide), dC 6 (by decide) rfl (by decide), dC 7 (by decide) rfl (by decide)]
    exact HF
  · show StR I' 43 (dA D)
    unfold StR
    rw [dC 43 (by decide) rfl (by decide), dC (43 + 1) (by decide) rfl (by decide), dC (43 + 2) (by decide) rfl (by decide), dC (43 + 3) (by decide) rfl (by decide), dC (43 + 4) (by decide) rfl (by decide)]
    exact HA
  · show LwC I' (dL D)
    unfold LwC
    rw [dC 13 (by decide) rfl (by decide), dC 14 (by decide) rfl (by decide)]
    exact HL
  · show WoC I' J' (dF D) (dW D)
    unfold WoC
    rw [dC 24 (by decide) rfl (by decide), dC 25 (by decide) rfl (by decide), hJ]
    exact HWo
  · exact HH.ag d2
  · rw [d0]; exact HI1
  · exact HI2.ag d2
  · rw [d0]; exact hN
  · rw [d0]; exact hE
  · rw [d0]; exact hG
  · refine ⟨by rw [eM 53 (by decide) rfl (by decide)]; exact MF.1, by rw [eM 53 (by decide) rfl (by decide)]; exact MF.2.1, fun p hp => ?_⟩
    have hp : p < sz (dF D) := hp
    rw [eM 55 (by decide) rfl (by decide), eM (66 + p) (by omega) (by simp [sgM]; omega) (by omega)]
    exact MF.2.2 p hp
  · show RwR I' 497 0 (dA D)
    unfold RwR
    rw [eM 497 (by decide) rfl (by decide)]
    exact MA
  · exact ML.kp WL.1 (fun j hj => eM (75 + j) (by omega) (by simp [sgM]; omega) (by omega)) (g6 17 (by decide))
  · rw [g6 31 (by decide)]; exact MW.1
  · intro j hj
    have hj : j < (dW D).1 := hj
    rw [eM (397 + j) (by omega) (by simp [sgM]; omega) (by omega)]
    exact MW.2 j hj
  · rw [g6 32 (by decide)]; exact MH1
  · exact HiM.ag (fun i hi => eM (500 + i) (by omega) (by have hi : i < (dH D).length := hi; simp [sgM]; omega) (by omega)) MH2
  · rw [g6 34 (by decide)]; exact MI1
  · exact ImM.ag (fun i hi => eM (517 + i) (by omega) (by have hi : i < (dM D).length := hi; simp [sgM]; omega) (by omega)) MI2
  · rw [g6 33 (by decide)]; exact mN
  · rw [d51]; exact mE
  · rw [d51]; exact mG
theorem c_fltA (S : Sw w) {r : Er} (C : CF r I) : f_X8_faultAnswer 1 (st w I J) = some (.inl (r.1 - 10), st w I J) := by
  have i5 := i_1_5 (I := I) (J := J) S
  rw [C.2.1] at i5
  rw [f_X8_faultAnswer, bd_st i5]
  rfl
/-- the model ends at a fault -/
theorem m_endsR (S : Sw w) {b : Nat → Nat} {n : Nat} {r : Er} (X : MTx b n r I) : f_X12_ends 49 (st w I J) = some (.inl (r.1 - 10), st w (up2 I 49 3 (nn r.2)) J) := by
  have i6 := i_49_6 (I := I) (J := J) S
  rw [X.2.2.2.1] at i6
  have i5 := i_49_5 (I := up2 I 49 3 (nn r.2)) (J := J) S
  rw [up2_k (by decide), X.2.1] at i5
  rw [f_X12_ends, bd_st i6, bd_st (w_49_3 S), bd_st i5]
  rfl
def KT : List Nat := [0, 1, 3, 4, 5, 6, 7, 8, 9, 10, 11, 12, 13, 14, 24, 25, 43, 44, 45, 46]
theorem op_C {b : Nat → Nat} {t m : Nat} (HT2 : ∀ c, c < t → I 2 c = sx (b c)) (hm : m ≤ t) : CT b m 0 (opI I m) ∧ Ag [1] I (opI I m) := by
  refine ⟨⟨⟨?_, fun c hc => ?_⟩, ?_, ?_, ?_, Nat.zero_le _⟩, ((((((Ag.refl _ _).up (by decide)).up (by decide)).up (by decide)).up (by decide)).up (by decide)).up (by decide)⟩
  · unfold opI
    simp (disch := decide) only [up2_k, up2_s]
  · unfold opI
    simp (disch := decide) only [up2_a]
    exact HT2 c (by omega)
  · unfold opI
    simp (disch := decide) only [up2_k, up2_s]
  · unfold opI
    rw [up2_s]
  · unfold opI
    simp (disch := decide) only [up2_k, up2_s]
    rfl
/-- the model opens a text -/
theorem sta_M {b : Nat → Nat} {m : Nat} (TW : TxW b m) (T2 : ∀ c, c < m → I 50 c = nn (b c)) (h0 : I 49 0 = 0) : MT b m 0 (staI I b m) ∧ staI I b m 49 4 = nn (sk b m 0) ∧ Ag [49] I (staI I b m) ∧ (∀ j, 9 ≤ j → staI I b m 49 j = I 49 j) ∧ staI I b m 49 0 = 0 ∧ staI I b m 49 1 = 0 ∧ staI I b m 49 7 = 0 ∧ staI I b m 49 8 = 0 := by
  have g := sk_ge (b := b) (Nat.zero_le m)
  refine ⟨⟨st_T T2, ?_, sk b m 0, g.2, ?_, sk_id (Nat.zero_le m)⟩, ?_, ?_, fun j hj => ?_, ?_, ?_, ?_, ?_⟩
  · unfold staI
    simp (disch := decide) only [up2_k, up2_s]
  · unfold staI
    rw [up2_s]
  · unfold staI
    rw [up2_s]
  · unfold staI
    exact ((((((((Ag.refl _ _).up (by decide)).up (by decide)).up (by decide)).up (by decide)).up (by decide)).up (by decide)).up (by decide)).up (by decide)
  · unfold staI
    rw [up2_k (by omega), up2_k (by omega), up2_k (by omega), up2_k (by omega), up2_k (by omega), up2_k (by omega), up2_k (by omega), up2_k (by omega)]
  · unfold staI
    simp (disch := decide) only [up2_k]
    exact h0
  · unfold staI
    simp (disch := decide) only [up2_k, up2_s]
  · unfold staI
    simp (disch := decide) only [up2_k, up2_s]
  · unfold staI
    simp (disch := decide) only [up2_k, up2_s]
theorem g_town (H : Inv k w I J) (hk : k ≤ 512) (x : Int32) : CallK k w I J 1 (f_X11_town 0 x) (f_X12_town 49 x) := by
  have Hs := H
  have hr := H.rm hk
  obtain ⟨S, n1, n2, D, HC, HM, W⟩ := H
  have HCs := HC
  have HMs := HM
  have Ws := W
  obtain ⟨⟨HF, HA, HL, HWo, ⟨HT1, HT2⟩, HH, ⟨HI1, HI2⟩, hP, hN⟩, hE, hG⟩ := HC
  obtain ⟨⟨MF, MA, ML, MW, ⟨MT1, MT2⟩, ⟨MH1, MH2⟩, ⟨MI1, MI2⟩, mP, mN⟩, mE, mG⟩ := HM
  obtain ⟨WF, WHi, W16, WL, WW, ⟨WT1, WT2⟩, WM3, WMi⟩ := W
  have lim : (600 : Int32) = nn 600 := rfl
  by_cases hx : lnP (dT D) 600 x
  rotate_left
  · refine Or.inr (Or.inr (CallX.ok (Or.inr ⟨rfl, rfl⟩) Hs ⟨?_, fun J1 => ⟨0, ?_⟩⟩))
    · rw [f_X11_town, lim, bd_er ((v_0 S).trans (c_openNo S hr HT1 WT1 (by decide) hx))]
    · obtain ⟨I1, hI1⟩ : ∃ I1, I1 = up2 (up2 I 0 17 (I 0 17 + 1)) 49 0 0 := ⟨_, rfl⟩
      have S' := tw_Sw S 14
      have x1 : I1 49 1 = nn (dT D) := by rw [hI1, up2_k (by decide), up2_a (by decide)]; exact MT1
      have x0 : I1 49 0 = 0 := by rw [hI1, up2_s]
      have x51 : I1 51 1 = I 51 1 := by rw [hI1, up2_a (by decide), up2_a (by decide)]
      have i1 := i_49_1 (I := I1) (J := J1) S'
      rw [x1] at i1
      have fin : f_X12_town_b23 49 x 1 49 (st (tw w 14) I1 J1) = some (.inl 0, st (tw w 14) (up2 (up2 I1 49 0 1) 51 1 (I 51 1 + 1)) J1) := by
        have e := mb_11 (I := I1) (J := J1) S' 1 (by decide) x0
        rw [x51] at e
        rw [f_X12_town_b23, bd_st ((v_49 S').trans e), if_neg (by decide)]
        rfl
      rw [f_X12_town, bd_st (w_49_0 S'), ← hI1, bd_st i1]
      by_cases q0 : x < 0
      · rw [show bd (f_X12_in x 0 (nn (dT D))) _ _ = _ from bd_st (x := 0) (σ' := st (tw w 14) I1 J1) (by rw [f_X12_in, if_pos q0]; rfl), if_pos rfl]
        exact fin
      by_cases q1 : nn (dT D) < x
      · rw [show bd (f_X12_in x 0 (nn (dT D))) _ _ = _ from bd_st (x := 0) (σ' := st (tw w 14) I1 J1) (by rw [f_X12_in, if_neg q0, if_pos q1]; rfl), if_pos rfl]
        exact fin
      obtain ⟨m, hm, rfl⟩ := nn_of q0
      rw [nn_lt (by omega) hm] at q1
      exact absurd ⟨m, by omega, by omega, rfl⟩ hx
  obtain ⟨m, hm1, hm2, rfl⟩ := hx
  left
  have TW : TxW (dB D) m := ⟨by omega, fun c hc => WT2 c (by omega)⟩
  have eO := (v_0 S (F := f_X11_openText 0 (nn m) (nn 600))).trans (c_openOk (J := J) S HT1 WT1 (by decide) hm1 hm2)
  obtain ⟨oC, oA⟩ := op_C (I := I) HT2 hm1
  have key := c_readT (J := J) S TW oC
  -- the model from a state that keeps its cells
  have mod : ∀ w1 I1 J1, Sw w1 → Ag KT I I1 → ∃ z, f_X12_town 49 (nn m) (st w1 I1 J1) = z ∧ ∃ I2, Ag [49, 52, 54] I1 I2 ∧ (∀ j, 9 ≤ j → I2 49 j = I1 49 j) ∧ I2 49 0 = 0 ∧ I2 49 1 = 0 ∧ MTe w1 J1 I2 (dB D) m z (twR (dB D) m 61 0 0 fo0) := fun w1 I1 J1 S1 a1 => by
    obtain ⟨I2, hI2⟩ : ∃ I2, I2 = up2 I1 49 0 0 := ⟨_, rfl⟩
    have x49 : I1 49 = I 49 := a1 49 (by decide)
    have x1 : I2 49 1 = nn (dT D) := by rw [hI2, up2_k (by decide), x49]; exact MT1
    have x0 : I2 49 0 = 0 := by rw [hI2, up2_s]
    have i1 := i_49_1 (I := I2) (J := J1) S1
    rw [x1] at i1
    have T2 : ∀ c, c < m → I2 50 c = nn (dB D c) := fun c hc => by rw [hI2, up2_a (by decide), a1 50 (by decide)]; exact MT2 c (by omega)
    obtain ⟨s1, s2, s3, s4, s5, s6, s7, -⟩ := sta_M (I := I2) TW T2 x0
    obtain ⟨I3, e3, a3, d3⟩ := m_nothing (I := staI I2 (dB D) m) (J := J1) S1
    have e : f_X12_town 49 (nn m) (st w1 I1 J1) = f_X12_town_b42 NF 49 (st w1 I3 J1) := by
      rw [f_X12_town, bd_st (w_49_0 S1), ← hI2, bd_st i1, bd_st (in_ok WT1 hm1), if_neg (by decide), f_X12_town_b23, bd_st ((v_49 S1).trans (mb_0 S1 1 1 x0)), if_pos rfl, bd_st ((v_49 S1).trans (m_starts S1 TW T2)), bd_st ((v_49 S1).trans e3)]
    have k49 : I3 49 = staI I2 (dB D) m 49 := a3 49 (by decide)
    have aI2 : Ag [49] I1 I2 := by rw [hI2]; exact (Ag.refl _ _).up (by decide)
    refine ⟨_, e, I3, ((aI2.trans s3).mono (by decide)).trans (a3.mono (by decide)), fun j hj => ?_, ?_, ?_, ?_⟩
    · rw [k49, s4 j hj, hI2, up2_k (by omega)]
    · rw [k49]; exact s5
    · rw [k49]; exact s6
    · exact m_townR S1 TW 61 0 0 fo0 I3 NF rfl (by decide) (Nat.zero_le _) (s1.ag a3 (by decide) (by decide)) (by rw [k49]; exact s2) d3 fo0_W (by rw [k49]; exact s7) (NF_gt (by decide))
  cases hR : twR (dB D) m 61 0 0 fo0 with
  | inl r =>
    rw [hR] at key
    obtain ⟨I1, e1, a1, c1⟩ := key
    have aI : Ag KD I I1 := (oA.mono (by decide)).trans a1
    refine ⟨r.1 - 10, w, I1, J, ?_, fun J1 hJ => ?_⟩
    · rw [f_X11_town, lim, bd_st eO, bd_st (r_0_2 S), bd_st (r_0_0 S), bd_st ((v_8 S).trans e1), if_pos rfl, bd_st (r_0_0 S), bd_st ((v_1 S).trans (c_fltA S c1))]
      rfl
    · obtain ⟨z, ez, I2, b2, g2, z2, y2, R⟩ := mod w I1 J1 S (aI.mono (by decide))
      rw [hR] at R
      obtain ⟨I3, e3, a3, g3, X3⟩ := R
      have h5 : ¬ I3 49 5 = 0 := by rw [X3.2.1]; exact X3.2.2.1
      have e4 : f_X12_town_b71 49 (st w I3 J1) = some (.inl (r.1 - 10), st w (up2 I3 49 3 (nn r.2)) J1) := by
        rw [f_X12_town_b71, bd_st (i_49_5 S), if_neg h5, bd_st ((v_49 S).trans (m_endsR S X3))]
        rfl
      have aa : Ag ([1, 8, 9, 10, 11, 12] ++ KE) I (up2 I3 49 3 (nn r.2)) := (((aI.mono (by decide)).trans (b2.mono (by decide))).trans (a3.mono (by decide))).up (by decide)
      have k1 : up2 I3 49 3 (nn r.2) 1 = I1 1 := by rw [up2_ra (by decide), a3 1 (by decide), b2 1 (by decide)]
      refine ⟨up2 I3 49 3 (nn r.2), ez.trans (e3.trans e4), ?_, inv_f S n1 n2 HCs HMs Ws (P := nn r.2) (sgA_ag aa (by decide)) (fun j hj => ?_) ?_ ?_ ?_ up2_s hJ⟩
      · rw [up2_k (by decide), g3 0 (by decide) (by decide) (by decide) (by decide)]
        exact z2
      · have q : ∀ j ∈ [17, 31, 32, 33, 34], 9 ≤ j := by decide
        have := q j hj
        rw [up2_k (by omega), g3 j (by omega) (by omega) (by omega) (by omega), g2 j this, aI 49 (by decide)]
      · rw [k1]; exact c1.1
      · rw [k1]; exact c1.2.2
      · rw [up2_k (by decide), g3 1 (by decide) (by decide) (by decide) (by decide)]
        exact y2
  | inr G =>
    rw [hR] at key
    obtain ⟨I1, e1, a1, t1, p1, D1, WG⟩ := key
    obtain ⟨I2, e2, a2, f2⟩ := c_copyT (J := J) S D1 WG
    obtain ⟨I3, e3, a3, l3⟩ := c_usual (I := I2) (J := J) S
    obtain ⟨I4, e4, a4, w4⟩ := c_clrW (I := I3) (J := J) S G
    obtain ⟨I5, e5, a5, s5⟩ := c_clrS (I := I4) (J := up2 J 24 5 (-1)) S
    have S1 : Sw (sR w 0 13 none) := sR_Sw S r13
    obtain ⟨I6, hI6⟩ : ∃ I6, I6 = up2 (up2 I5 0 14 0) 0 15 0 := ⟨_, rfl⟩
    have a6 : Ag [0] I5 I6 := by rw [hI6]; exact ((Ag.refl _ _).up (by decide)).up (by decide)
    have aT : Ag KT I I6 := (((((((oA.mono (by decide)).trans (a1.mono (by decide))).trans (a2.mono (by decide))).trans (a3.mono (by decide))).trans (a4.mono (by decide))).trans (a5.mono (by decide))).trans (a6.mono (by decide)))
    have i4 := i_3_4 (I := I6) (J := up2 J 24 5 (-1)) S1
    rw [a6 3 (by decide), a5 3 (by decide), a4 3 (by decide), a3 3 (by decide), f2.1] at i4
    refine ⟨nn (sz G), sR w 0 13 none, I6, up2 J 24 5 (-1), ?_, fun J1 hJ => ?_⟩
    · rw [f_X11_town, lim, bd_st eO, bd_st (r_0_2 S), bd_st (r_0_0 S), bd_st ((v_8 S).trans e1), if_neg (by decide), bd_st (r_0_1 S), bd_st (r_0_2 S), bd_st ((v_3 S).trans e2), bd_st (r_0_3 S), bd_st ((v_13 S).trans e3), bd_st (r_0_6 S), bd_st ((v_24 S).trans e4), bd_st (r_0_11 S), bd_st ((v_43 S).trans e5), bd_st (wH_st S none), bd_st (w_0_14 S1), bd_st (w_0_15 S1), ← hI6, bd_st (r_0_1 S1), bd_st i4]
      rfl
    · obtain ⟨z, ez, I7, b7, g7, z7, y7, R⟩ := mod (sR w 0 13 none) I6 J1 S1 aT
      rw [hR] at R
      obtain ⟨I8, e8, a8, g8, h5, D8, -⟩ := R
      obtain ⟨I9, e9, a9, g9, f9, r9, q17, q31, q32, q33, q34⟩ := m_anew (I := up2 I8 49 3 (-1)) (J := J1) S1 (D8.ma WG.1 ((Ag.refl _ _).up (by decide))) WG
      have i5 := i_49_5 (I := I8) (J := J1) S1
      rw [h5] at i5
      have l53 := l_53_0 (I := I9) (J := J1) S1
      rw [f9.1] at l53
      have e71 : f_X12_town_b71 49 (st (sR w 0 13 none) I8 J1) = some (.inl (nn (sz G)), st (sR w 0 13 none) I9 J1) := by
        rw [f_X12_town_b71, bd_st i5, if_pos rfl, bd_st (w_49_3 S1), bd_st ((v_49 S1).trans e9), bd_st (r_49_12 S1), bd_st l53]
        rfl
      have aM : Ag (KE ++ KN) I6 I9 := (((b7.mono (by decide)).trans (a8.mono (by decide))).up (by decide)).trans (a9.mono (by decide))
      have k0 : I9 0 = I6 0 := aM 0 (by decide)
      have k1 : I9 1 = I1 1 := by rw [aM 1 (by decide), a6 1 (by decide), a5 1 (by decide), a4 1 (by decide), a3 1 (by decide), a2 1 (by decide)]
      have c49 : ∀ j, j ≠ 17 → j ≠ 31 → j ≠ 32 → j ≠ 33 → j ≠ 34 → j ≠ 3 → j ≠ 4 → j ≠ 5 → j ≠ 6 → j ≠ 7 → I9 49 j = I7 49 j := fun j h1 h2 h3 h4 h6 h7 h8 h9 ha hb => by
        rw [g9 j h1 h2 h3 h4 h6, up2_k h7, g8 j h8 h9 ha hb]
      have x0 : ∀ j, j ≠ 14 → j ≠ 15 → I9 0 j = I 0 j := fun j h1 h2 => by
        rw [k0, hI6, up2_k h2, up2_k h1, a5 0 (by decide), a4 0 (by decide), a3 0 (by decide), a2 0 (by decide), a1 0 (by decide), oA 0 (by decide)]
      refine ⟨I9, ez.trans (e8.trans e71), ?_, S1, ?_, ?_, ((G, at0, lwU, wo0), (0, dB D), ([], []), (-1, 0, dE D, dG D)), ⟨⟨?_, ?_, ?_, ?_, ⟨?_, fun c hc => absurd hc (Nat.not_lt_zero _)⟩, ?_, ⟨?_, trivial⟩, ?_, ?_⟩, ?_, ?_⟩, ⟨⟨f9, r9, Or.inr ⟨q17, rfl⟩, ⟨q31, fun j hj => absurd hj (Nat.not_lt_zero _)⟩, ⟨?_, fun c hc => absurd hc (Nat.not_lt_zero _)⟩, ⟨q32, trivial⟩, ⟨q34, trivial⟩, ?_, q33⟩, ?_, ?_⟩, ⟨WG, ⟨⟨Nat.zero_le _, Nat.zero_le _, fun i hi => absurd hi (Nat.not_lt_zero _)⟩, Nat.zero_le _, fun p hp => ⟨Nat.zero_le _, Nat.zero_le _⟩, trivial⟩, Nat.zero_le _, ?_, ⟨Nat.zero_le _, fun k hk => absurd hk (Nat.not_lt_zero _), fun j k hj => absurd hj (Nat.not_lt_zero _)⟩, ⟨Nat.zero_le _, fun c hc => absurd hc (Nat.not_lt_zero _)⟩, Nat.zero_le _, fun q hq => absurd hq List.not_mem_nil⟩⟩
      · rw [c49 0 (by decide) (by decide) (by decide) (by decide) (by decide) (by decide) (by decide) (by decide) (by decide) (by decide)]
        exact z7
      · show w.1 ≤ _
        omega
      · show w.2.1 ≤ _
        omega
      · have x : ∀ a ∈ [3, 4, 5, 6, 7], I9 a = I2 a := by
          intro a ha
          have q : ∀ a ∈ [3, 4, 5, 6, 7], a ∉ KE ++ KN ∧ a ∉ [0] ∧ a ∉ [43, 44, 45, 46] ∧ a ∉ [24, 25] ∧ a ∉ [13, 14] := by decide
          obtain ⟨q1, q2, q3, q4, q5⟩ := q a ha
          rw [aM a q1, a6 a q2, a5 a q3, a4 a q4, a3 a q5]
        show FoC I9 G
        unfold FoC
        rw [x 3 (by decide), x 4 (by decide), x 5 (by decide), x 6 (by decide), x 7 (by decide)]
        exact f2
      · exact s5.ag ((a6.mono (by decide)).trans (aM.mono (by decide : ∀ a ∈ KE ++ KN, a ∈ [0] ++ (KE ++ KN)))) (by decide)
      · exact l3.ag (((a4.mono (by decide)).trans (a5.mono (by decide))).trans ((a6.mono (by decide)).trans (aM.mono (by decide : ∀ a ∈ KE ++ KN, a ∈ [0, 24, 25, 43, 44, 45, 46] ++ (KE ++ KN))))) (by decide) (by decide)
      · show WoC I9 J1 G wo0
        unfold WoC
        rw [aM 24 (by decide), a6 24 (by decide), a5 24 (by decide), aM 25 (by decide), a6 25 (by decide), a5 25 (by decide), hJ]
        exact w4
      · rw [k1]; exact t1
      · show up2 w.2.2.2 0 13 none 0 13 = none
        exact up2_s
      · rw [k0, hI6, up2_k (by decide), up2_s]
        rfl
      · rw [k1]; exact p1
      · rw [k0, hI6, up2_s]
        rfl
      · rw [x0 16 (by decide) (by decide)]; exact hE
      · rw [x0 17 (by decide) (by decide)]; exact hG
      · rw [c49 1 (by decide) (by decide) (by decide) (by decide) (by decide) (by decide) (by decide) (by decide) (by decide) (by decide)]
        exact y7
      · rw [g9 3 (by decide) (by decide) (by decide) (by decide) (by decide), up2_s]
        rfl
      · rw [aM 51 (by decide), aT 51 (by decide)]; exact mE
      · rw [aM 51 (by decide), aT 51 (by decide)]; exact mG
      · exact lwU_W
end TCALL
