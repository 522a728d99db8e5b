/-! PURE PART: feed -/
def bt (y : Int32) : Nat := (y &&& 255).toNatClampNeg
theorem bt_s (y : Int32) : y &&& 255 = nn (bt y) ∧ bt y < 256 := by
  obtain ⟨j, hj, e⟩ := pk_andE y (m := 255) 8 rfl
  have hj' : j < 256 := hj
  unfold bt
  rw [e, nn_cl (by omega)]
  exact ⟨rfl, hj'⟩
theorem sx_int {b : Nat} (h : b < 256) : (sx b).toInt = if b < 128 then (b : Int) else (b : Int) - 256 := by
  unfold sx
  have : ∀ b, b < 256 → (if b < 128 then nn b else nn b - 256 : Int32).toInt = if b < 128 then (b : Int) else (b : Int) - 256 := by decide +kernel
  exact this b h
theorem nar_b (y : Int32) : vp_nar .byte ((Int32.toInt8 y).toInt32) = sx (bt y) := by
  have h1 : vp_nar .byte ((Int32.toInt8 y).toInt32) = (Int32.toInt8 ((Int32.toInt8 y).toInt32)).toInt32 := rfl
  rw [h1, Int8.toInt8_toInt32]
  obtain ⟨e, hb⟩ := bt_s y
  obtain ⟨n, hn, rfl⟩ := i32_nat y
  have e2 : nn n &&& 255 = nn (n % 256) := pk_andN (n := n) hn 8 rfl
  have e3 : bt (nn n) = n % 256 := by
    unfold bt
    rw [e2, nn_cl (by omega)]
  rw [e3]
  refine Int32.toInt_inj.1 ?_
  rw [sx_int (by omega), Int8.toInt_toInt32, Int32.toInt_toInt8]
  have e4 : (nn n).toInt = (n : Int).bmod (2 ^ 32) := by
    show (Int32.ofNat n).toInt = _
    rw [Int32.toInt_ofNat']
  rw [e4, Int.bmod_bmod_of_dvd (by decide)]
  rw [Int.bmod_def, show ((2 ^ 8 : Nat) : Int) = 256 from rfl]
  split <;> split <;> omega
section FEED
variable {w w' : Wd} {I I' : Is} {J J' : Js} {D : Dt} {k : Nat}
theorem c_add1 (S : Sw w) {t : Nat} (ht : t < 600) (h1 : I 1 1 = nn t) (x s : Int32) (hs : ¬ s < 0) (N : Nat) : f_X8_add_b3 (N + 1) 1 x s (st w I J) = f_X8_add_b3 N 1 x (s + (-8)) (st w (up2 (up2 I 2 t (sx (bt (x >>> (s &&& 31))))) 1 1 (nn (t + 1))) J) := by
  have i1 := i_1_1 (I := I) (J := J) S
  rw [h1] at i1
  have i2 := i_1_1 (I := up2 I 2 t (sx (bt (x >>> (s &&& 31))))) (J := J) S
  rw [up2_a (by decide), h1] at i2
  have hq : ¬ nn 600 ≤ nn t := by rw [nn_le (by omega) (by omega)]; omega
  have b := s_2 (I := I) (J := J) (k := t) (v := (Int32.toInt8 (x >>> (s &&& 31))).toInt32) S ht
  rw [nar_b] at b
  rw [f_X8_add_b3, if_neg hs, bd_st i1, bd_st (r_1_0 S), bd_st (ln_2 S), if_neg hq, bd_st (r_1_0 S), bd_st i1, bd_st b, bd_st i2, nn_succ, bd_st (w_1_1 S)]
theorem c_add (S : Sw w) {t : Nat} (ht : t + 4 ≤ 600) (h1 : I 1 1 = nn t) (x : Int32) : ∃ I1, f_X8_add 1 x (st w I J) = some (.inl (), st w I1 J) ∧ Ag [1, 2] I I1 ∧ I1 1 1 = nn (t + 4) ∧ (∀ j, j ≠ 1 → I1 1 j = I 1 j) ∧ (∀ c, c < t → I1 2 c = I 2 c) ∧ ∀ i, i < 4 → I1 2 (t + i) = sx (bt (x >>> (nn (24 - 8 * i) &&& 31))) := by
  obtain ⟨M, hM⟩ : ∃ M, NF = M + 5 := ⟨9995, rfl⟩
  unfold f_X8_add
  rw [hM, show M + 5 = (M + 4) + 1 from rfl, c_add1 S (by omega) h1 x 24 (by decide), show M + 4 = (M + 3) + 1 from rfl, c_add1 S (by omega) up2_s x (24 + (-8)) (by decide), show M + 3 = (M + 2) + 1 from rfl, c_add1 S (by omega) up2_s x (24 + (-8) + (-8)) (by decide), show M + 2 = (M + 1) + 1 from rfl, c_add1 S (by omega) up2_s x (24 + (-8) + (-8) + (-8)) (by decide), f_X8_add_b3, if_pos (by decide)]
  refine ⟨_, rfl, ?_, ?_, ?_, ?_, ?_⟩
  · exact ((((((((Ag.refl _ _).up (by decide)).up (by decide)).up (by decide)).up (by decide)).up (by decide)).up (by decide)).up (by decide)).up (by decide)
  · exact up2_s
  · intro j hj
    rw [up2_k hj, up2_a (by decide), up2_k hj, up2_a (by decide), up2_k hj, up2_a (by decide), up2_k hj, up2_a (by decide)]
  · intro c hc
    simp (disch := omega) only [up2_a, up2_k]
  · intro i hi
    rcases (show i = 0 ∨ i = 1 ∨ i = 2 ∨ i = 3 by omega) with h | h | h | h <;> subst h
    · simp (disch := omega) only [up2_a, up2_k, Nat.add_zero, up2_s]
      rfl
    · simp (disch := omega) only [up2_a, up2_k, up2_s]
      rfl
    · simp (disch := omega) only [up2_a, up2_k, up2_s, Nat.add_assoc]
      rfl
    · simp (disch := omega) only [up2_a, up2_k, up2_s, Nat.add_assoc]
      rfl
def fbB (x : Nat → Int32) (c : Nat) : Nat := bt (x (c / 4) >>> (nn (24 - 8 * (c % 4)) &&& 31))
theorem fb_lt (x : Nat → Int32) (c : Nat) : fbB x c < 256 := (bt_s _).2
theorem m_feedL (S : Sw w) {t : Nat} (ht : t + 20 ≤ 600) (h1 : I 49 1 = nn t) (x : Nat → Int32) : ∃ I1, f_X12_feed_b23 NF 49 (x 0) (x 1) (x 2) (x 3) (x 4) 0 (st w I J) = some (.inl (nn (t + 20)), st w I1 J) ∧ Ag [49, 50] I I1 ∧ I1 49 1 = nn (t + 20) ∧ (∀ j, j ≠ 1 → I1 49 j = I 49 j) ∧ (∀ c, c < t → I1 50 c = I 50 c) ∧ ∀ c, c < 20 → I1 50 (t + c) = nn (fbB x c) := by
  refine loopQ (fun N i (I1 : Is) => f_X12_feed_b23 N 49 (x 0) (x 1) (x 2) (x 3) (x 4) (nn i) (st w I1 J)) 20 (fun i I1 => Ag [49, 50] I I1 ∧ I1 49 1 = nn (t + i) ∧ (∀ j, j ≠ 1 → I1 49 j = I 49 j) ∧ (∀ c, c < t → I1 50 c = I 50 c) ∧ ∀ c, c < i → I1 50 (t + c) = nn (fbB x c)) (fun z => ∃ I1, z = some (.inl (nn (t + 20)), st w I1 J) ∧ Ag [49, 50] I I1 ∧ I1 49 1 = nn (t + 20) ∧ (∀ j, j ≠ 1 → I1 49 j = I 49 j) ∧ (∀ c, c < t → I1 50 c = I 50 c) ∧ ∀ c, c < 20 → I1 50 (t + c) = nn (fbB x c)) ?_ ?_ 20 0 I NF (by omega) (NF_gt (by decide)) ⟨Ag.refl _ _, h1, fun _ _ => rfl, fun _ _ => rfl, fun c hc => by omega⟩
  · intro N i I1 hi ⟨a1, b1, c1, d1, e1⟩
    left
    have q : ∀ m : Nat, m < 100 → (nn m ≤ nn i) = (m ≤ i) := fun m hm => nn_le (by omega) (by omega)
    have q20 : ¬ (20 : Int32) ≤ nn i := by rw [show (20 : Int32) = nn 20 from rfl, q 20 (by decide)]; omega
    have sel : f_X12_feed_b23 (N + 1) 49 (x 0) (x 1) (x 2) (x 3) (x 4) (nn i) (st w I1 J) = f_X12_feed_b76 (f_X12_feed_b23 N) 49 (x 0) (x 1) (x 2) (x 3) (x 4) (nn i) (x (i / 4)) (st w I1 J) := by
      rw [f_X12_feed_b23, if_neg q20]
      rcases (show i / 4 = 0 ∨ i / 4 = 1 ∨ i / 4 = 2 ∨ i / 4 = 3 ∨ i / 4 = 4 by omega) with h | h | h | h | h
      · rw [if_neg (by rw [show (4 : Int32) = nn 4 from rfl, q 4 (by decide)]; omega), h]
      · rw [if_pos (by rw [show (4 : Int32) = nn 4 from rfl, q 4 (by decide)]; omega), if_neg (by rw [show (8 : Int32) = nn 8 from rfl, q 8 (by decide)]; omega), h]
      · rw [if_pos (by rw [show (4 : Int32) = nn 4 from rfl, q 4 (by decide)]; omega), if_pos (by rw [show (8 : Int32) = nn 8 from rfl, q 8 (by decide)]; omega), if_neg (by rw [show (12 : Int32) = nn 12 from rfl, q 12 (by decide)]; omega), h]
      · rw [if_pos (by rw [show (4 : Int32) = nn 4 from rfl, q 4 (by decide)]; omega), if_pos (by rw [show (8 : Int32) = nn 8 from rfl, q 8 (by decide)]; omega), if_pos (by rw [show (12 : Int32) = nn 12 from rfl, q 12 (by decide)]; omega), if_neg (by rw [show (16 : Int32) = nn 16 from rfl, q 16 (by decide)]; omega), h]
      · rw [if_pos (by rw [show (4 : Int32) = nn 4 from rfl, q 4 (by decide)]; omega), if_pos (by rw [show (8 : Int32) = nn 8 from rfl, q 8 (by decide)]; omega), if_pos (by rw [show (12 : Int32) = nn 12 from rfl, q 12 (by decide)]; omega), if_pos (by rw [show (16 : Int32) = nn 16 from rfl, q 16 (by decide)]; omega), h]
    have i1 := i_49_1 (I := I1) (J := J) S
    rw [b1] at i1
    have sh : ((24 : Int32) - ((8 : Int32) * nn (i % 4))) = nn (24 - 8 * (i % 4)) := by
      have : ∀ r, r < 4 → ((24 : Int32) - ((8 : Int32) * nn r)) = nn (24 - 8 * r) := by decide
      exact this _ (by omega)
    have hv : ((x (i / 4)) >>> (nn (24 - 8 * (i % 4)) &&& 31)) &&& 255 = nn (fbB x i) := (bt_s _).1
    have i2 := i_49_1 (I := up2 I1 50 (t + i) (nn (fbB x i))) (J := J) S
    rw [up2_a (by decide), b1] at i2
    refine ⟨up2 (up2 I1 50 (t + i) (nn (fbB x i))) 49 1 (nn (t + i + 1)), ?_, (a1.up (by decide)).up (by decide), up2_s, fun j hj => ?_, fun c hc => ?_, fun c hc => ?_⟩
    · show f_X12_feed_b23 (N + 1) 49 (x 0) (x 1) (x 2) (x 3) (x 4) (nn i) (st w I1 J) = _
      rw [sel, f_X12_feed_b76, bd_st (r_49_9 S), bd_st i1, bd_st (rm4 (by omega)), sh, hv, bd_st (s_50 S (by omega)), bd_st i2, nn_succ, bd_st (w_49_1 S), nn_succ]
    · rw [up2_k hj, up2_a (by decide)]
      exact c1 j hj
    · rw [up2_a (by decide), up2_k (by omega)]
      exact d1 c hc
    · rw [up2_a (by decide)]
      by_cases e : c = i
      · rw [e, up2_s]
      · rw [up2_k (by omega)]
        exact e1 c (by omega)
  · intro N I1 ⟨a1, b1, c1, d1, e1⟩
    have i1 := i_49_1 (I := I1) (J := J) S
    rw [b1] at i1
    refine ⟨I1, ?_, a1, b1, c1, d1, e1⟩
    show f_X12_feed_b23 (N + 1) 49 (x 0) (x 1) (x 2) (x 3) (x 4) (nn 20) (st w I1 J) = _
    rw [f_X12_feed_b23, if_pos (show (20 : Int32) ≤ nn 20 by decide), bd_st i1]
    rfl
theorem g_feed (H : Inv k w I J) (x : Nat → Int32) : CallI k w I J (f_X11_feed 0 (x 0) (x 1) (x 2) (x 3) (x 4)) (f_X12_feed 49 (x 0) (x 1) (x 2) (x 3) (x 4)) := by
  have Hs := H
  obtain ⟨S, n1, n2, D, HC, HM, W⟩ := H
  have HCs := HC
  have HMs := HM
  obtain ⟨⟨HF, HA, HL, HWo, ⟨HT1, HT2⟩, HH, ⟨HI1, HI2⟩, hP, hN⟩, hE, hG⟩ := HC
  obtain ⟨⟨MF, MA, ML, MW, ⟨MT1, MT2⟩, ⟨MH1, MH2⟩, ⟨MI1, MI2⟩, mP, mN⟩, mE, mG⟩ := HM
  have Ws := W
  obtain ⟨WF, WHi, W16, WL, WW, ⟨WT1, WT2⟩, WM3, WMi⟩ := W
  have qf : (nn (dT D) + 20 ≤ 600) = (dT D + 20 ≤ 600) := by
    rw [show (20 : Int32) = nn 20 from rfl, nn_add, show (600 : Int32) = nn 600 from rfl, nn_le (by omega) (by omega)]
  have i1 := i_1_1 (I := I) (J := J) S
  rw [HT1] at i1
  by_cases hf : dT D + 20 ≤ 600
  rotate_left
  · refine CallG.ok Hs ⟨-1, I, ?_, Ag.refl _ _, fun J' => ⟨up2 I 49 0 0, ?_, AgM.refl _⟩⟩
    · rw [f_X11_feed, bd_st (r_0_0 S), bd_st i1, if_neg (by rw [qf]; exact hf)]
      rfl
    · rw [f_X12_feed, bd_st (w_49_0 S), bd_st (i_49_1 S), up2_k (by decide), MT1, if_neg (by rw [qf]; exact hf)]
      rfl
  obtain ⟨I1, e1, a1, b1, c1, d1, f1⟩ := c_add (I := I) (J := J) S (show dT D + 4 ≤ 600 by omega) HT1 (x 0)
  obtain ⟨I2, e2, a2, b2, c2, d2, f2⟩ := c_add (I := I1) (J := J) S (show dT D + 4 + 4 ≤ 600 by omega) b1 (x 1)
  obtain ⟨I3, e3, a3, b3, c3, d3, f3⟩ := c_add (I := I2) (J := J) S (show dT D + 4 + 4 + 4 ≤ 600 by omega) b2 (x 2)
  obtain ⟨I4, e4, a4, b4, c4, d4, f4⟩ := c_add (I := I3) (J := J) S (show dT D + 4 + 4 + 4 + 4 ≤ 600 by omega) b3 (x 3)
  obtain ⟨I5, e5, a5, b5, c5, d5, f5⟩ := c_add (I := I4) (J := J) S (show dT D + 4 + 4 + 4 + 4 + 4 ≤ 600 by omega) b4 (x 4)
  have ag : Ag [1, 2] I I5 := a1.trans (a2.trans (a3.trans (a4.trans a5)))
  have k1 : ∀ j, j ≠ 1 → I5 1 j = I 1 j := fun j hj => by rw [c5 j hj, c4 j hj, c3 j hj, c2 j hj, c1 j hj]
  have old : ∀ c, c < dT D → I5 2 c = I 2 c := fun c hc => by rw [d5 c (by omega), d4 c (by omega), d3 c (by omega), d2 c (by omega), d1 c hc]
  have new : ∀ c, c < 20 → I5 2 (dT D + c) = sx (fbB x c) := by
    intro c hc
    unfold fbB
    rcases (show c / 4 = 0 ∨ c / 4 = 1 ∨ c / 4 = 2 ∨ c / 4 = 3 ∨ c / 4 = 4 by omega) with h | h | h | h | h
    · rw [d5 _ (by omega), d4 _ (by omega), d3 _ (by omega), d2 _ (by omega), show c = c % 4 by omega, f1 _ (by omega), show c % 4 / 4 = 0 by omega, show c % 4 % 4 = c % 4 by omega]
    · rw [d5 _ (by omega), d4 _ (by omega), d3 _ (by omega), show dT D + c = dT D + 4 + c % 4 by omega, f2 _ (by omega), h]
    · rw [d5 _ (by omega), d4 _ (by omega), show dT D + c = dT D + 4 + 4 + c % 4 by omega, f3 _ (by omega), h]
    · rw [d5 _ (by omega), show dT D + c = dT D + 4 + 4 + 4 + c % 4 by omega, f4 _ (by omega), h]
    · rw [show dT D + c = dT D + 4 + 4 + 4 + 4 + c % 4 by omega, f5 _ (by omega), h]
  have b5' : I5 1 1 = nn (dT D + 20) := by rw [b5]
  have eC : f_X11_feed 0 (x 0) (x 1) (x 2) (x 3) (x 4) (st w I J) = some (.inl (nn (dT D + 20)), st w I5 J) := by
    have j1 := i_1_1 (I := I5) (J := J) S
    rw [b5'] at j1
    rw [f_X11_feed, bd_st (r_0_0 S), bd_st i1, if_pos (by rw [qf]; exact hf), bd_st (r_0_0 S), bd_st ((v_1 S).trans e1), bd_st (r_0_0 S), bd_st ((v_1 S).trans e2), bd_st (r_0_0 S), bd_st ((v_1 S).trans e3), bd_st (r_0_0 S), bd_st ((v_1 S).trans e4), bd_st (r_0_0 S), bd_st ((v_1 S).trans e5), bd_st (r_0_0 S), bd_st j1]
    rfl
  refine ⟨_, _, _, _, eC, fun J' hJ => ?_⟩
  have t49 : up2 I5 49 0 0 49 1 = nn (dT D) := by rw [up2_k (by decide), ag 49 (by decide)]; exact MT1
  obtain ⟨I6, e6, a6, b6, c6, d6, f6⟩ := m_feedL (I := up2 I5 49 0 0) (J := J') S hf t49 x
  have ag6 : Ag [1, 2, 49, 50] I I6 := ((ag.mono (by decide)).up (by decide)).trans (a6.mono (by decide))
  have g6 : ∀ j, j ≠ 0 → j ≠ 1 → I6 49 j = I 49 j := fun j h0 h1 => by rw [c6 j h1, up2_k h0, ag 49 (by decide)]
  have x1 : I6 1 = I5 1 := by rw [a6 1 (by decide), up2_ra (by decide)]
  have x2 : I6 2 = I5 2 := by rw [a6 2 (by decide), up2_ra (by decide)]
  refine ⟨I6, ?_, ?_, S, by omega, by omega, (D.1, (dT D + 20, fun c => if c < dT D then dB D c else fbB x (c - dT D)), D.2.2), ⟨⟨?_, ?_, ?_, ?_, ⟨?_, ?_⟩, ?_, ⟨?_, ?_⟩, ?_, ?_⟩, ?_, ?_⟩, ⟨⟨?_, ?_, ?_, ?_, ⟨?_, ?_⟩, ⟨?_, ?_⟩, ⟨?_, ?_⟩, ?_, ?_⟩, ?_, ?_⟩, ?_⟩
  · have i2 := i_49_1 (I := up2 I5 49 0 0) (J := J') S
    rw [t49] at i2
    rw [f_X12_feed, bd_st (w_49_0 S), bd_st i2, if_pos (by rw [qf]; exact hf)]
    exact e6
  · rw [c6 0 (by decide), up2_s]
  · have := HF
    unfold FoC at this
    show FoC I6 (dF D)
    unfold FoC
    rw [ag6 3 (by decide), ag6 4 (by decide), ag6 5 (by decide), ag6 6 (by decide), ag6 7 (by decide)]
    exact this
  · exact HA.ag ag6 (by decide)
  · exact HL.ag ag6 (by decide) (by decide)
  · show WoC I6 J' (dF D) (dW D)
    unfold WoC
    rw [ag6 24 (by decide), ag6 25 (by decide), hJ]
    exact HWo
  · rw [x1]
    exact b5'
  · intro c hc
    have hc' : c < dT D + 20 := hc
    show I6 2 c = sx (if c < dT D then dB D c else fbB x (c - dT D))
    rw [x2]
    by_cases q : c < dT D
    · rw [if_pos q, old c q]
      exact HT2 c q
    · rw [if_neg q]
      have := new (c - dT D) (by omega)
      rw [show dT D + (c - dT D) = c by omega] at this
      exact this
  · exact HH.ag fun b hb => ag6 b (by simp; omega)
  · rw [ag6 0 (by decide)]
    exact HI1
  · exact HI2.ag fun b hb => ag6 b (by simp; omega)
  · rw [x1, k1 6 (by decide)]
    exact hP
  · rw [ag6 0 (by decide)]
    exact hN
  · rw [ag6 0 (by decide)]
    exact hE
  · rw [ag6 0 (by decide)]
    exact hG
  · exact MF.ag WF.1 ag6 (by decide)
  · exact MA.ag ag6 (by decide)
  · exact ML.kp WL.1 (fun j hj => ag6 (75 + j) (by simp; omega)) (g6 17 (by decide) (by decide))
  · show WoM I6 (dW D)
    refine ⟨by rw [g6 31 (by decide) (by decide)]; exact MW.1, fun j hj => ?_⟩
    have := WW.1
    have := WF.1
    rw [ag6 (397 + j) (by simp; omega)]
    exact MW.2 j hj
  · exact b6
  · intro c hc
    have hc' : c < dT D + 20 := hc
    show I6 50 c = nn (if c < dT D then dB D c else fbB x (c - dT D))
    by_cases q : c < dT D
    · rw [if_pos q, d6 c q, up2_a (by decide), ag 50 (by decide)]
      exact MT2 c q
    · rw [if_neg q]
      have := f6 (c - dT D) (by omega)
      rw [show dT D + (c - dT D) = c by omega] at this
      exact this
  · rw [g6 32 (by decide) (by decide)]
    exact MH1
  · exact HiM.ag (fun i hi => ag6 (500 + i) (by simp; omega)) MH2
  · rw [g6 34 (by decide) (by decide)]
    exact MI1
  · exact ImM.ag (fun i hi => ag6 (517 + i) (by simp; omega)) MI2
  · rw [g6 3 (by decide) (by decide)]
    exact mP
  · rw [g6 33 (by decide) (by decide)]
    exact mN
  · rw [ag6 51 (by decide)]
    exact mE
  · rw [ag6 51 (by decide)]
    exact mG
  · refine ⟨WF, WHi, W16, WL, WW, ⟨hf, fun c hc => ?_⟩, WM3, WMi⟩
    show (if c < dT D then dB D c else fbB x (c - dT D)) < 256
    split
    · exact WT2 c (by assumption)
    · exact fb_lt _ _
end FEED
