/-! PURE PART: the calls image and restore -/
section IMG2
variable {w w' : Wd} {I I' : Is} {J J' : Js} {D : Dt} {k : Nat}
theorem nn3 {m : Nat} (h : m ≤ 3) : (nn m < 3) = (m < 3) ∧ (nn m = 3) = (m = 3) := ⟨nn_lt (b := 3) (by omega) (by decide), nn_eq (b := 3) (by omega) (by decide)⟩
theorem aq_st (S : Sw w) {i a : Nat} (hi : i < 3) (ha : a < w.1) (hs : w.2.2.1 a = .inr (3, [2, 2, 0])) : aq_ 4 3 48 (nn i) a (st w I J) = some (.inl (), st (sR w 48 i (some a)) I J) := by
  have q := m_aq (n := w.1) (q := w.2.1) (I := I) (J := J) (R := w.2.2.2) (a := 48) (t := 4) (m := 3) (c := 3) (x := a) (i := nn i) (Nat.lt_of_lt_of_le (by decide) S.1) (S.2.1 48 (by decide)) (nn_inN hi (by decide)) ha hs
  rw [nn_cl (by omega)] at q
  exact q
theorem LwM.kp {I I' : Is} {L : Lw} (H : LwM I L) (h150 : lwN L ≤ 150) (d : ∀ j, j < 160 → I' (75 + j) = I (75 + j)) (h17 : I' 49 17 = I 49 17) : LwM I' L := by
  rcases H with ⟨m1, m2⟩ | ⟨m1, m2⟩
  · refine Or.inl ⟨by rw [h17]; exact m1, fun j hj => ?_⟩
    rw [d j (by omega)]
    exact m2 j hj
  · exact Or.inr ⟨by rw [h17]; exact m1, m2⟩
theorem g_image (H : Inv k w I J) (hk : k ≤ 512) : CallI k w I J (f_X11_image 0) (f_X12_image 49) := by
  have Hs := H
  have hr := H.rm hk
  obtain ⟨S, n1, n2, D, HC, HM, W⟩ := H
  have Ws := W
  have HMs := HM
  obtain ⟨⟨HF, HA, HL, HWo, HT, HH, ⟨HI1, HI2⟩, hP, hN⟩, hE, hG⟩ := HC
  obtain ⟨⟨MF, MA, ML, MW, MT, ⟨MH1, MH2⟩, ⟨MI1, MI2⟩, mP, mN⟩, mE, mG⟩ := HM
  obtain ⟨WF, WHi, W16, WL, WW, WT, WM3, WMi⟩ := W
  have h8 := WF.1
  have h40 := WHi.1.1
  obtain ⟨q3, q3'⟩ := nn3 WM3
  by_cases h3 : (dM D).length < 3
  rotate_left
  · refine CallG.ok Hs ⟨-1, I, ?_, Ag.refl _ _, fun J' => ⟨up2 I 49 0 0, ?_, AgM.refl _⟩⟩
    · rw [f_X11_image, bd_st (i_0_14 S), HI1, if_neg (by rw [q3]; exact h3)]
      rfl
    · rw [f_X12_image, bd_st (w_49_0 S), bd_st (i_49_34 S), up2_k (by decide), MI1, if_pos (by rw [q3']; omega)]
      rfl
  -- the class
  obtain ⟨w0, w1, I0, J0, I1, J1, e1, S0, r0, e2, S1, X1, z1, z2, rL, IL, JL, HK⟩ := c_kept (J := J) S hr HA h40 HH (by omega)
  have hw := S.1
  have e01 : ∀ a, a < 526 → I1 a = I a := fun a ha => IL a (by omega)
  obtain ⟨w2, ew2⟩ : ∃ w2, w2 = sR w1 48 (dM D).length (some w.1) := ⟨_, rfl⟩
  have S2 : Sw w2 := by rw [ew2]; exact sR_Sw S1 (r48 _ h3)
  have X2 : Ext w1 w2 := by rw [ew2]; exact sR_Ext (by decide)
  have HKs := HK
  obtain ⟨a, e, h1, h2, hlt, h4, h5, h6, h7, hs8, h9, h10⟩ := HK
  have ha : w.1 = a := by
    have : some w.1 = some a := h1
    exact Option.some.inj this
  subst ha
  have eAq := aq_st (I := I1) (J := J1) S1 h3 hlt h4
  rw [← ew2] at eAq
  obtain ⟨I2, eI2⟩ : ∃ I2, I2 = up2 I1 0 14 (nn ((dM D).length + 1)) := ⟨_, rfl⟩
  have eC : f_X11_image 0 (st w I J) = some (.inl (nn ((dM D).length + 1)), st w2 I2 J1) := by
    have i14 := i_0_14 (I := I) (J := J) S
    rw [HI1] at i14
    have n13 := n_0_13 (I := I0) (J := J0) S0
    rw [r0] at n13
    have i14' := i_0_14 (I := I1) (J := J1) S2
    rw [e01 0 (by decide), HI1] at i14'
    have i14'' := i_0_14 (I := I2) (J := J1) S2
    rw [eI2, up2_s, ← eI2] at i14''
    rw [f_X11_image, bd_st i14, if_pos (by rw [q3]; exact h3), bd_st (r_0_12 S), bd_st i14, bd_st e1, bd_st (r_0_11 S0), bd_st n13, bd_st e2, bd_st eAq, bd_st i14', nn_succ, bd_st (w_0_14 S2), ← eI2, bd_st i14'']
    rfl
  refine ⟨_, _, _, _, eC, fun J' hJ => ?_⟩
  have c2 : ∀ a, a ≠ 0 → a < w.1 → I2 a = I a := fun a h1 h2 => by rw [eI2, up2_ra h1]; exact IL a h2
  -- the model
  obtain ⟨I4, e4, p4, k0, kn, kb⟩ := m_putAway (I := up2 I2 49 0 0) (J := J') S2 h3
  obtain ⟨I5, eI5⟩ : ∃ I5, I5 = up2 I4 49 34 (nn ((dM D).length + 1)) := ⟨_, rfl⟩
  have g49 : ∀ i, i ≠ 0 → i ≠ 34 → i ≠ 35 → I5 49 i = I 49 i := fun i h1 h2 h3 => by
    rw [eI5, up2_k h2, p4.2 i h3, up2_k h1, c2 49 (by decide) (by omega)]
  have c5 : ∀ a, a ≠ 0 → a ≠ 49 → a ≠ 517 + (dM D).length → a < w.1 → I5 a = I a := fun a h1 h2 h3 h4 => by
    rw [eI5, up2_ra h2, p4.1 a (by simp; omega), up2_ra h2]
    exact c2 a h1 h4
  have b5 : ∀ a, 526 ≤ a → I5 a = I1 a := fun a h => by
    rw [eI5, up2_ra (by omega), p4.1 a (by simp; omega), up2_ra (by omega), eI2, up2_ra (by omega)]
  have z5 : ∀ i, i ≠ 14 → I5 0 i = I 0 i := fun i hi => by
    rw [eI5, up2_a (by decide), p4.1.at i (by simp; omega), up2_a (by decide), eI2, up2_k hi, e01 0 (by decide)]
  have x14 : I5 0 14 = nn ((dM D).length + 1) := by
    rw [eI5, up2_a (by decide), p4.1.at 14 (by simp; omega), up2_a (by decide), eI2, up2_s]
  have x517 : I5 (517 + (dM D).length) = I4 (517 + (dM D).length) := by rw [eI5, up2_ra (by omega)]
  have tr : ∀ {l : List At} {p : Option Nat}, HiC w I p l → HiC w2 I5 p l := by
    intro l p h
    have t1 : HiC w1 I1 p l := by
      have key : ∀ {l : List At} {p : Option Nat}, HiC w I p l → HiC w I1 p l := by
        intro l
        induction l with
        | nil => exact fun h => h
        | cons A l ih =>
          rintro p ⟨a, e, h1, h2, h3, h4, h5, h6, h7, h8, h9, h10⟩
          have he5 := h7.1
          refine ⟨a, e, h1, h2, h3, h4, h5, h6, h7, ?_, ?_, ih h10⟩
          · unfold StR
            rw [IL e (by omega), IL (e + 1) (by omega), IL (e + 2) (by omega), IL (e + 3) (by omega), IL (e + 4) (by omega)]
            exact h8
          · rw [IL a (by omega)]
            exact h9
      exact (key h).ext X1
    exact (t1.ag b5).ext X2
  refine ⟨I5, ?_, ?_, S2, ?_, ?_, ((dF D, dA D, dL D, dW D), D.2.1, (dH D, (dA D, dH D) :: dM D), (dP D, dN D, dE D, dG D)), ⟨⟨?_, ?_, ?_, ?_, ?_, ?_, ⟨?_, ?_, ?_⟩, ?_, ?_⟩, ?_, ?_⟩, ⟨⟨?_, ?_, ?_, ?_, ?_, ⟨?_, ?_⟩, ⟨?_, ?_, ?_, ?_, ?_⟩, ?_, ?_⟩, ?_, ?_⟩, ?_⟩
  · have i34 := i_49_34 (I := up2 I2 49 0 0) (J := J') S2
    rw [up2_k (by decide), c2 49 (by decide) (by omega), MI1] at i34
    have j34 := i_49_34 (I := I4) (J := J') S2
    rw [p4.2 34 (by decide), up2_k (by decide), c2 49 (by decide) (by omega), MI1] at j34
    have k34 := i_49_34 (I := I5) (J := J') S2
    rw [eI5, up2_s, ← eI5] at k34
    rw [f_X12_image, bd_st (w_49_0 S2), bd_st i34, if_neg (by rw [q3']; omega), bd_st (r_49_30 S2), bd_st i34, bd_st (g_516 S2 h3), bd_st ((v_49 S2).trans e4), bd_st j34, nn_succ, bd_st (w_49_34 S2), ← eI5, bd_st k34]
    rfl
  · rw [eI5, up2_k (by decide), p4.2 0 (by decide), up2_s]
  · rw [ew2]
    show w1.1 ≤ _
    omega
  · rw [ew2]
    show w1.2.1 ≤ _
    omega
  · have := HF
    unfold FoC at this ⊢
    rw [c5 3 (by decide) (by decide) (by omega) (by omega), c5 4 (by decide) (by decide) (by omega) (by omega), c5 5 (by decide) (by decide) (by omega) (by omega), c5 6 (by decide) (by decide) (by omega) (by omega), c5 7 (by decide) (by decide) (by omega) (by omega)]
    exact this
  · have := HA
    unfold StR at this ⊢
    rw [c5 43 (by decide) (by decide) (by omega) (by omega), c5 (43 + 1) (by decide) (by decide) (by omega) (by omega), c5 (43 + 2) (by decide) (by decide) (by omega) (by omega), c5 (43 + 3) (by decide) (by decide) (by omega) (by omega), c5 (43 + 4) (by decide) (by decide) (by omega) (by omega)]
    exact this
  · have := HL
    unfold LwC at this ⊢
    rw [c5 13 (by decide) (by decide) (by omega) (by omega), c5 14 (by decide) (by decide) (by omega) (by omega)]
    exact this
  · show WoC I5 J' (dF D) (dW D)
    unfold WoC
    rw [c5 24 (by decide) (by decide) (by omega) (by omega), c5 25 (by decide) (by decide) (by omega) (by omega), hJ, JL 24 (by omega)]
    exact HWo
  · rw [c5 1 (by decide) (by decide) (by omega) (by omega), c5 2 (by decide) (by decide) (by omega) (by omega)]
    exact HT
  · have : w2.2.2.2 0 13 = w.2.2.2 0 13 := by
      rw [ew2]
      show up2 w1.2.2.2 48 (dM D).length (some w.1) 0 13 = _
      rw [up2_a (by decide), rL 0 (by omega)]
    rw [this]
    exact tr HH
  · exact x14
  · show HiC w2 I5 (w2.2.2.2 48 (dM D).length) (dA D :: dH D)
    have : w2.2.2.2 48 (dM D).length = some w.1 := by rw [ew2]; exact up2_s
    rw [this]
    exact (HKs.ag b5).ext X2
  · show ImC w2 I5 (dM D)
    have key : ∀ {l : List (At × List At)}, l.length ≤ (dM D).length → ImC w I l → ImC w2 I5 l := by
      intro l
      induction l with
      | nil => exact fun _ _ => trivial
      | cons q l ih =>
        intro hl h
        have hl' : l.length + 1 ≤ (dM D).length := hl
        refine ⟨?_, ih (by omega) h.2⟩
        have : w2.2.2.2 48 l.length = w.2.2.2 48 l.length := by
          rw [ew2]
          show up2 w1.2.2.2 48 (dM D).length _ 48 l.length = _
          rw [up2_k (by omega), rL 48 (by omega)]
        rw [this]
        exact tr h.1
    exact key (Nat.le_refl _) HI2
  · rw [c5 1 (by decide) (by decide) (by omega) (by omega)]
    exact hP
  · rw [z5 15 (by decide)]
    exact hN
  · rw [z5 16 (by decide)]
    exact hE
  · rw [z5 17 (by decide)]
    exact hG
  · show FoM I5 (dF D)
    refine ⟨?_, ?_, fun p hp => ?_⟩
    · rw [c5 53 (by decide) (by decide) (by omega) (by omega)]; exact MF.1
    · rw [c5 53 (by decide) (by decide) (by omega) (by omega)]; exact MF.2.1
    · rw [c5 55 (by decide) (by decide) (by omega) (by omega), c5 (66 + p) (by omega) (by omega) (by omega) (by omega)]
      exact MF.2.2 p hp
  · show RwR I5 497 0 (dA D)
    unfold RwR
    rw [c5 497 (by decide) (by decide) (by omega) (by omega)]
    exact MA
  · exact ML.kp WL.1 (fun j hj => c5 (75 + j) (by omega) (by omega) (by omega) (by omega)) (g49 17 (by decide) (by decide) (by decide))
  · show WoM I5 (dW D)
    refine ⟨by rw [g49 31 (by decide) (by decide) (by decide)]; exact MW.1, fun j hj => ?_⟩
    have := WW.1
    rw [c5 (397 + j) (by omega) (by omega) (by omega) (by omega)]
    exact MW.2 j hj
  · refine ⟨by rw [g49 1 (by decide) (by decide) (by decide)]; exact MT.1, ?_⟩
    rw [c5 50 (by decide) (by decide) (by omega) (by omega)]
    exact MT.2
  · rw [g49 32 (by decide) (by decide) (by decide)]
    exact MH1
  · exact HiM.ag (fun i hi => c5 (500 + i) (by omega) (by omega) (by
      show 500 + i ≠ 517 + (dM D).length
      have : i < (dH D).length := hi
      omega) (by
      show 500 + i < w.1
      have : i < (dH D).length := hi
      omega)) MH2
  · rw [eI5, up2_s]
    rfl
  · show I5 (517 + (dM D).length) 0 = nn (dH D).length
    rw [x517, k0, up2_k (by decide), c2 49 (by decide) (by omega)]
    exact MH1
  · show RwR I5 (517 + (dM D).length) 1 (dA D)
    refine MA.mv (fun c hc => ?_) h40
    rw [x517, kn c hc, up2_a (by decide), c2 497 (by decide) (by omega), Nat.zero_add]
  · show HiM I5 (fun i => (517 + (dM D).length, 229 + 228 * i)) (dH D)
    refine HiM.mv WHi.2.2.2 MH2 fun i c hi hc => ?_
    show I5 (517 + (dM D).length) (229 + 228 * i + c) = I (500 + i) (0 + c)
    rw [x517, kb i c (by omega) hc, up2_a (by omega), c2 (500 + i) (by omega) (by omega), Nat.zero_add]
  · show ImM I5 (dM D)
    exact ImM.ag (fun i hi => c5 (517 + i) (by omega) (by omega) (by omega) (by omega)) MI2
  · rw [g49 3 (by decide) (by decide) (by decide)]
    exact mP
  · rw [g49 33 (by decide) (by decide) (by decide)]
    exact mN
  · rw [c5 51 (by decide) (by decide) (by omega) (by omega)]
    exact mE
  · rw [c5 51 (by decide) (by decide) (by omega) (by omega)]
    exact mG
  · refine ⟨WF, WHi, W16, WL, WW, WT, by show (dM D).length + 1 ≤ 3; omega, fun q hq => ?_⟩
    rcases List.mem_cons.mp hq with h | h
    · rw [h]; exact ⟨WHi, W16⟩
    · exact WMi q h
theorem g_restore (H : Inv k w I J) : CallI k w I J (f_X11_restore 0) (f_X12_restore 49) := by
  have Hs := H
  obtain ⟨S, n1, n2, D, HC, HM, W⟩ := H
  have Ws := W
  obtain ⟨⟨HF, HA, HL, HWo, HT, HH, ⟨HI1, HI2⟩, hP, hN⟩, hE, hG⟩ := HC
  obtain ⟨⟨MF, MA, ML, MW, MT, ⟨MH1, MH2⟩, ⟨MI1, MI2⟩, mP, mN⟩, mE, mG⟩ := HM
  obtain ⟨WF, WHi, W16, WL, WW, WT, WM3, WMi⟩ := W
  have h8 := WF.1
  cases hl : dM D with
  | nil =>
    rw [hl] at HI1 MI1
    refine CallG.ok Hs ⟨-1, I, ?_, Ag.refl _ _, fun J' => ⟨up2 I 49 0 0, ?_, AgM.refl _⟩⟩
    · rw [f_X11_restore, bd_st (i_0_14 S), HI1, if_pos (show nn ([] : List (At × List At)).length ≤ 0 by decide)]
      rfl
    · rw [f_X12_restore, bd_st (w_49_0 S), bd_st (i_49_34 S), up2_k (by decide), MI1, if_pos (show nn ([] : List (At × List At)).length = 0 from rfl)]
      rfl
  | cons Q M =>
    rw [hl] at HI1 HI2 MI1 MI2 WM3 WMi
    obtain ⟨A0, h0⟩ := Q
    obtain ⟨HQ, HI2'⟩ := HI2
    obtain ⟨MQ0, MQ1, MQ2, MI2'⟩ := MI2
    have hM3 : M.length < 3 := WM3
    obtain ⟨WQ, WQ16⟩ := WMi (A0, h0) (List.mem_cons.mpr (Or.inl rfl))
    have WQ16 : h0.length ≤ 16 := WQ16
    have h40 := WQ.1.1
    obtain ⟨a, e, h1, h2, h3, h4, h5, h6, h7, hs8, h9, h10⟩ := HQ
    have HI1 : I 0 14 = nn (M.length + 1) := HI1
    have MI1 : I 49 34 = nn (M.length + 1) := MI1
    -- the class
    obtain ⟨I1, eI1⟩ : ∃ I1, I1 = up2 I 0 14 (nn M.length) := ⟨_, rfl⟩
    have s81 : StR I1 e A0 := by rw [eI1]; exact hs8.ag ((Ag.refl [0] _).up (by decide)) (by simp; omega)
    obtain ⟨I2, e2, a2, s2⟩ := c_copyFrom (J := J) (StS_43 S) h7 (by omega) s81 h40
    have S1 : Sw (sR w 0 13 (w.2.2.2 a 1)) := sR_Sw S r13
    have X1 : Ext w (sR w 0 13 (w.2.2.2 a 1)) := sR_Ext (by decide)
    obtain ⟨I3, eI3⟩ : ∃ I3, I3 = up2 I2 0 15 0 := ⟨_, rfl⟩
    have ag3 : Ag [0, 43, 44, 45, 46, 47] I I3 := by
      rw [eI3, ]
      refine Ag.up (Ag.trans ?_ (a2.mono (by decide))) (by decide)
      rw [eI1]
      exact (Ag.refl _ _).up (by decide)
    have f3 : ∀ i, i ≠ 14 → i ≠ 15 → I3 0 i = I 0 i := fun i h1 h2 => by rw [eI3, up2_k h2, a2.at i (by decide), eI1, up2_k h1]
    have f14 : I3 0 14 = nn M.length := by rw [eI3, up2_k (by decide), a2.at 14 (by decide), eI1, up2_s]
    have f15 : I3 0 15 = 0 := by rw [eI3, up2_s]
    have eC : f_X11_restore 0 (st w I J) = some (.inl (nn M.length), st (sR w 0 13 (w.2.2.2 a 1)) I3 J) := by
      have i14 := i_0_14 (I := I) (J := J) S
      rw [HI1] at i14
      have x1 : ¬ nn (M.length + 1) ≤ 0 := by rw [show (0 : Int32) = nn 0 from rfl, nn_le (by omega) (by omega)]; omega
      have x2 : nn (M.length + 1) ≤ 3 := by rw [show (3 : Int32) = nn 3 from rfl, nn_le (by omega) (by omega)]; omega
      have aN1 : aN 4 48 (nn M.length) (st w I J) = some (.inl (some a), st w I J) := by
        have q := m_aN (n := w.1) (q := w.2.1) (I := I) (J := J) (R := w.2.2.2) (a := 48) (t := 4) (m := 3) (i := nn M.length) (Nat.lt_of_lt_of_le (by decide) S.1) (S.2.1 48 (by decide)) (nn_inN hM3 (by decide))
        rw [nn_cl (by omega), h1] at q
        exact q
      have gS : gR 3 0 a (st w I1 J) = some (.inl e, st w I1 J) := m_gR h3 h4 rfl h5
      have gB' : gN 3 1 a (st w I2 J) = some (.inl (w.2.2.2 a 1), st w I2 J) := m_gN h3 h4 rfl
      have j14 := i_0_14 (I := I3) (J := J) S1
      rw [f14] at j14
      rw [f_X11_restore, bd_st i14, if_neg x1, bd_st i14, if_pos x2, bd_st (r_0_12 S), bd_st i14, nn_pred (by omega), Nat.add_sub_cancel, bd_st aN1]
      show bd (gI 11 14 0) _ (st w I J) = _
      rw [bd_st i14, nn_pred (by omega), Nat.add_sub_cancel, bd_st (w_0_14 S), ← eI1, bd_st (r_0_11 S), bd_st gS, bd_st ((v_43 S).trans e2), bd_st gB', bd_st (wH_st S _), bd_st (w_0_15 S1), ← eI3, bd_st j14]
      rfl
    refine ⟨_, _, _, _, eC, fun J' hJ => ?_⟩
    -- the model
    obtain ⟨I4, eI4⟩ : ∃ I4, I4 = up2 (up2 I3 49 0 0) 49 34 (nn M.length) := ⟨_, rfl⟩
    have ag4 : Ag [0, 43, 44, 45, 46, 47, 49] I I4 := by rw [eI4]; exact ((ag3.mono (by decide)).up (by decide)).up (by decide)
    obtain ⟨I5, e5, a5, g5, z5, n5, b5⟩ := m_putBack (I := I4) (J := J') S1 hM3
    obtain ⟨I6, eI6⟩ : ∃ I6, I6 = up2 I5 49 33 0 := ⟨_, rfl⟩
    have k6 : ∀ a, a ∉ KB → a ∉ [0, 43, 44, 45, 46, 47, 49] → I6 a = I a := fun a h1 h2 => by
      rw [eI6, up2_ra (fun q => h2 (by rw [q]; decide)), a5 a h1]
      exact ag4 a h2
    have c6 : ∀ a, a ∉ KB → a ≠ 49 → I6 a = I3 a := fun a h1 h2 => by rw [eI6, up2_ra h2, a5 a h1, eI4, up2_ra h2, up2_ra h2]
    have g6 : ∀ i, i ≠ 0 → i ≠ 34 → i ≠ 35 → i ≠ 32 → i ≠ 33 → I6 49 i = I 49 i := fun i x0 x1 x2 x3 x4 => by
      rw [eI6, up2_k x4, g5 i x2 x3, eI4, up2_k x1, up2_k x0]
      exact congrFun (ag3 49 (by decide)) i
    have q517 : I4 (517 + M.length) = I (517 + M.length) := ag4 (517 + M.length) (by simp; omega)
    have big : ∀ a, 526 ≤ a → a ∉ KB ∧ a ∉ [0, 43, 44, 45, 46, 47, 49] := fun a h => by
      refine ⟨fun q => ?_, fun q => ?_⟩
      · have : ∀ a ∈ KB, a < 526 := by decide
        have := this a q
        omega
      · have : ∀ a ∈ [0, 43, 44, 45, 46, 47, 49], a < 526 := by decide
        have := this a q
        omega
    have rng : ∀ {lo hi : Nat}, (∀ a, a < 526 → lo ≤ a → a ≤ hi → a ∉ KB ∧ a ∉ [0, 43, 44, 45, 46, 47, 49]) → ∀ a, a < 526 → lo ≤ a → a ≤ hi → I6 a = I a := fun h a x y z => k6 a (h a x y z).1 (h a x y z).2
    have kbs : ∀ x ∈ KB, x = 49 ∨ 497 ≤ x ∧ x ≤ 515 := by decide
    have k66 := rng (lo := 50) (hi := 404) (fun a _ x y => ⟨fun q => by have := kbs a q; omega, by simp; omega⟩)
    have k517 := rng (lo := 517) (hi := 519) (fun a _ x y => ⟨fun q => by have := kbs a q; omega, by simp; omega⟩)
    refine ⟨I6, ?_, ?_, S1, ?_, ?_, ((dF D, A0, dL D, dW D), D.2.1, (h0, M), (dP D, 0, dE D, dG D)), ⟨⟨?_, ?_, ?_, ?_, ?_, ?_, ⟨?_, ?_⟩, ?_, ?_⟩, ?_, ?_⟩, ⟨⟨?_, ?_, ?_, ?_, ?_, ⟨?_, ?_⟩, ⟨?_, ?_⟩, ?_, ?_⟩, ?_, ?_⟩, ?_⟩
    · have hne : ¬ nn (M.length + 1) = 0 := by rw [show (0 : Int32) = nn 0 from rfl, nn_eq (by omega) (by omega)]; omega
      have i34 := i_49_34 (I := up2 I3 49 0 0) (J := J') S1
      rw [up2_k (by decide), ag3.at 34 (by decide), MI1] at i34
      have j34 := i_49_34 (I := I4) (J := J') S1
      rw [eI4, up2_s, ← eI4] at j34
      have k34 := i_49_34 (I := I6) (J := J') S1
      rw [eI6, up2_k (by decide), g5 34 (by decide) (by decide), eI4, up2_s, ← eI6] at k34
      rw [f_X12_restore, bd_st (w_49_0 S1), bd_st i34, if_neg hne, bd_st i34, nn_pred (by omega), Nat.add_sub_cancel, bd_st (w_49_34 S1), ← eI4, bd_st (r_49_30 S1), bd_st j34, bd_st (g_516 S1 hM3), bd_st ((v_49 S1).trans e5), bd_st (w_49_33 S1), ← eI6, bd_st k34]
      rfl
    · rw [eI6, up2_k (by decide), g5 0 (by decide) (by decide), eI4, up2_k (by decide), up2_s]
    · show w.1 ≤ _
      omega
    · show w.2.1 ≤ _
      omega
    · have := HF
      unfold FoC at this ⊢
      rw [k6 3 (by decide) (by decide), k6 4 (by decide) (by decide), k6 5 (by decide) (by decide), k6 6 (by decide) (by decide), k6 7 (by decide) (by decide)]
      exact this
    · have t : StR I3 43 A0 := by rw [eI3]; exact s2.ag ((Ag.refl [0] _).up (by decide)) (by decide)
      show StR I6 43 A0
      unfold StR at t ⊢
      rw [c6 43 (by decide) (by decide), c6 (43 + 1) (by decide) (by decide), c6 (43 + 2) (by decide) (by decide), c6 (43 + 3) (by decide) (by decide), c6 (43 + 4) (by decide) (by decide)]
      exact t
    · have := HL
      unfold LwC at this ⊢
      rw [k6 13 (by decide) (by decide), k6 14 (by decide) (by decide)]
      exact this
    · show WoC I6 J' (dF D) (dW D)
      unfold WoC
      rw [k6 24 (by decide) (by decide), k6 25 (by decide) (by decide), hJ]
      exact HWo
    · rw [k6 1 (by decide) (by decide), k6 2 (by decide) (by decide)]
      exact HT
    · show HiC _ I6 (up2 w.2.2.2 0 13 (w.2.2.2 a 1) 0 13) h0
      rw [up2_s]
      exact (h10.ag fun b hb => k6 b (big b hb).1 (big b hb).2).ext X1
    · show I6 0 14 = nn M.length
      rw [c6 0 (by decide) (by decide)]
      exact f14
    · refine (HI2'.ag fun b hb => k6 b (big b hb).1 (big b hb).2).ext X1 fun j => ?_
      show up2 w.2.2.2 0 13 (w.2.2.2 a 1) 48 j = _
      rw [up2_a (by decide)]
    · rw [k6 1 (by decide) (by decide)]
      exact hP
    · show I6 0 15 = 0
      rw [c6 0 (by decide) (by decide)]
      exact f15
    · show I6 0 16 = dE D
      rw [c6 0 (by decide) (by decide), f3 16 (by decide) (by decide)]
      exact hE
    · show I6 0 17 = dG D
      rw [c6 0 (by decide) (by decide), f3 17 (by decide) (by decide)]
      exact hG
    · show FoM I6 (dF D)
      refine ⟨?_, ?_, fun p hp => ?_⟩
      · rw [k66 53 (by decide) (by decide) (by decide)]; exact MF.1
      · rw [k66 53 (by decide) (by decide) (by decide)]; exact MF.2.1
      · rw [k66 55 (by decide) (by decide) (by decide), k66 (66 + p) (by omega) (by omega) (by omega)]
        exact MF.2.2 p hp
    · show RwR I6 497 0 A0
      refine MQ1.mv (fun c hc => ?_) h40
      rw [Nat.zero_add, eI6, up2_a (by decide), n5 c hc, q517]
    · exact ML.kp WL.1 (fun j hj => k66 (75 + j) (by omega) (by omega) (by omega)) (g6 17 (by decide) (by decide) (by decide) (by decide) (by decide))
    · show WoM I6 (dW D)
      refine ⟨by rw [g6 31 (by decide) (by decide) (by decide) (by decide) (by decide)]; exact MW.1, fun j hj => ?_⟩
      have := WW.1
      rw [k66 (397 + j) (by omega) (by omega) (by omega)]
      exact MW.2 j hj
    · refine ⟨by rw [g6 1 (by decide) (by decide) (by decide) (by decide) (by decide)]; exact MT.1, ?_⟩
      rw [k66 50 (by decide) (by decide) (by decide)]
      exact MT.2
    · show I6 49 32 = nn h0.length
      rw [eI6, up2_k (by decide), z5, q517]
      exact MQ0
    · show HiM I6 (fun i => (500 + i, 0)) h0
      refine HiM.mv WQ.2.2.2 MQ2 fun i c hi hc => ?_
      show I6 (500 + i) (0 + c) = I (517 + M.length) (229 + 228 * i + c)
      rw [Nat.zero_add, eI6, up2_a (by omega), b5 i c (by omega) hc, q517]
    · show I6 49 34 = nn M.length
      rw [eI6, up2_k (by decide), g5 34 (by decide) (by decide), eI4, up2_s]
    · show ImM I6 M
      exact ImM.ag (fun i hi => k517 (517 + i) (by omega) (by omega) (by omega)) MI2'
    · rw [g6 3 (by decide) (by decide) (by decide) (by decide) (by decide)]
      exact mP
    · show I6 49 33 = 0
      rw [eI6, up2_s]
    · rw [k66 51 (by decide) (by decide) (by decide)]
      exact mE
    · rw [k66 51 (by decide) (by decide) (by decide)]
      exact mG
    · exact ⟨WF, WQ, WQ16, WL, WW, WT, by show M.length ≤ 3; omega, fun q hq => WMi q (List.mem_cons.mpr (Or.inr hq))⟩
end IMG2
