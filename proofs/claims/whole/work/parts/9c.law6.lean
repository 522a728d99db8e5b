/-! PURE PART: law, the call -/
section LCALL
variable {w : Wd} {I I' : Is} {J J' : Js} {D : Dt} {k : Nat} {L : Lw}
theorem sgA_q : ∀ i, i < 160 → sgA (236 + i) = false := by decide +kernel
theorem sgA_r {a : Nat} (h : sgA a = true) : a < 236 ∨ 395 < a := by
  by_cases q : a < 236 ∨ 395 < a
  · exact q
  · have := sgA_q (a - 236) (by omega)
    rw [show 236 + (a - 236) = a by omega, h] at this
    exact absurd this (by decide)
theorem sgM_l {a : Nat} (h : sgM a = true) : 50 ≤ a ∧ (a ≤ 234 ∨ 397 ≤ a) := by
  simp [sgM] at h
  omega
theorem c_copyL (S : Sw w) (H : LC I L) (hL : L.1 ≤ 150) : ∃ I1, f_X4_copyFrom 13 16 (st w I J) = some (.inl (), st w I1 J) ∧ Ag [13, 14] I I1 ∧ LwC I1 L := by
  have b0 := S.1
  have cp := cp_st (I := I) (J := J) (w := w) (a0 := 17) (a1 := 14) (x := 150) (k := 150) rfl (by decide) (by omega) (by omega) ((S.2.1 17 (by decide)).trans rfl) ((S.2.1 14 (by decide)).trans rfl) (by decide) (by decide)
  obtain ⟨I1, hI1⟩ : ∃ I1, I1 = up1 I 14 (va_cpy (I 17) (I 14) 0 0 150) := ⟨_, rfl⟩
  rw [← hI1] at cp
  have a1 : Ag [14] I I1 := fun a ha => by
    rw [hI1]
    exact up1_n (by simpa using ha)
  have i2 := i_16_2 (I := I1) (J := J) S
  rw [a1 16 (by decide), H.1] at i2
  refine ⟨up2 I1 13 2 (nn L.1), ?_, (a1.mono (by decide)).up (by decide), up2_s, fun k hk => ?_⟩
  · rw [f_X4_copyFrom, bd_st (r_16_0 S), bd_st (r_13_0 S), bd_st cp, bd_st i2, bd_st (w_13_2 S)]
    rfl
  · have hk : k < L.1 := hk
    rw [up2_a (by decide), hI1, up1_s]
    show (if 0 ≤ k ∧ k < 0 + 150 then I 17 (0 + (k - 0)) else I 14 k) = _
    rw [if_pos (by omega), Nat.zero_add, Nat.sub_zero]
    exact H.2 k hk
theorem m_layL (S : Sw w) {j : Nat} (hj : j < 160) (x : Int32) (k2 : Nat → Nat → Int32 → Int32 → Mo Unit) : f_X12_lays_b10 k2 NF 235 74 x (nn j) 0 (st w I J) = k2 235 74 x (nn (j + 1)) (st w (up2 (up2 I (75 + j) 0 (I (236 + j) 0)) (75 + j) 1 (I (236 + j) 1)) J) := by
  obtain ⟨M, hM⟩ : ∃ M, NF = M + 3 := ⟨9997, rfl⟩
  have l1 := l_236_1 (I := up2 I (75 + j) 0 (I (236 + j) 0)) (J := J) (p := j) S hj
  rw [up2_a (by omega)] at l1
  rw [hM, show M + 3 = M + 2 + 1 from rfl, f_X12_lays_b10, bd_st (g_74 S hj), bd_st (ln_75 S hj), if_neg (by decide), bd_st (g_74 S hj), bd_st (g_235 S hj), bd_st (l_236_0 S hj), bd_st (s_75_0 S hj), show (0 : Int32) + 1 = 1 from rfl, show M + 2 = M + 1 + 1 from rfl, f_X12_lays_b10, bd_st (g_74 S hj), bd_st (ln_75 S hj), if_neg (by decide), bd_st (g_74 S hj), bd_st (g_235 S hj), bd_st l1, bd_st (s_75_1 S hj), show (1 : Int32) + 1 = 2 from rfl, f_X12_lays_b10, bd_st (g_74 S hj), bd_st (ln_75 S hj), if_pos (by decide), nn_succ]
theorem m_lays4 (S : Sw w) {m : Nat} (hm : m ≤ 160) : ∃ I1, f_X12_lays 235 74 (nn m) (st w I J) = some (.inl (), st w I1 J) ∧ (∀ a, a < 75 ∨ 234 < a → I1 a = I a) ∧ ∀ j, j < m → I1 (75 + j) 0 = I (236 + j) 0 ∧ I1 (75 + j) 1 = I (236 + j) 1 := by
  unfold f_X12_lays
  refine loopQ (fun N i (I1 : Is) => f_X12_lays_b2 N 235 74 (nn m) (nn i) (st w I1 J)) m (fun i I1 => (∀ a, a < 75 ∨ 234 < a → I1 a = I a) ∧ ∀ j, j < i → I1 (75 + j) 0 = I (236 + j) 0 ∧ I1 (75 + j) 1 = I (236 + j) 1) (fun z => ∃ I1, z = some (.inl (), st w I1 J) ∧ (∀ a, a < 75 ∨ 234 < a → I1 a = I a) ∧ ∀ j, j < m → I1 (75 + j) 0 = I (236 + j) 0 ∧ I1 (75 + j) 1 = I (236 + j) 1) ?_ ?_ m 0 I NF (by omega) (NF_gt (by omega)) ⟨fun _ _ => rfl, fun j hj => by omega⟩
  · intro N i I1 hi ⟨a1, b1⟩
    left
    refine ⟨up2 (up2 I1 (75 + i) 0 (I1 (236 + i) 0)) (75 + i) 1 (I1 (236 + i) 1), ?_, fun a ha => ?_, fun j hj => ?_⟩
    · show f_X12_lays_b2 (N + 1) 235 74 (nn m) (nn i) (st w I1 J) = _
      rw [f_X12_lays_b2, if_neg (by rw [nn_le (by omega) (by omega)]; omega), m_layL S (by omega)]
    · rw [up2_ra (by omega), up2_ra (by omega)]
      exact a1 a ha
    · by_cases e : j = i
      · rw [e, up2_k (by decide), up2_s, up2_s, a1 (236 + i) (by omega)]
        exact ⟨rfl, rfl⟩
      · rw [up2_a (by omega), up2_a (by omega), up2_a (by omega), up2_a (by omega)]
        exact b1 j (by omega)
  · intro N I1 ⟨a1, b1⟩
    refine ⟨I1, ?_, a1, b1⟩
    show f_X12_lays_b2 (N + 1) 235 74 (nn m) (nn m) (st w I1 J) = _
    rw [f_X12_lays_b2, if_pos (by rw [nn_le (by omega) (by omega)]; omega)]
    rfl
/-- a law that was read is a law -/
theorem lw_W {b : Nat → Nat} {n : Nat} (hn : n ≤ 150) (h : lwT b n = .inr L) : LwW L ∧ L.1 ≤ 150 := by
  obtain ⟨u, h1, h2⟩ := rb_r h
  obtain ⟨y1, y2, y3, y4, y5, y6, y7, y8⟩ := su_EX 12 0 (by decide) _ _ _ (Nat.zero_le _) h1
  have y4 : u.2.1 + 0 ≤ 0 + u.1 := y4
  by_cases q : sk b n u.1 < n
  · rw [if_pos q] at h2; cases h2
  rw [if_neg q] at h2
  cases h2
  have y7 : ht u.2.2 u.2.1 = 0 + 1 := y7
  have y8 : ∀ k, 0 ≤ k → k < u.2.1 → ((u.2.2 k).1 ≤ 8 ∧ ((u.2.2 k).1 = 0 → (u.2.2 k).2 ≤ 999) ∧ ((u.2.2 k).1 = 1 → (u.2.2 k).2 < 8)) ∧ ((u.2.2 k).1 < 2 → ht u.2.2 k < 0 + 21) ∧ (2 ≤ (u.2.2 k).1 → 0 + 2 ≤ ht u.2.2 k) := y8
  have hs : ∀ k, ht u.2.2 (k + 1) = if (u.2.2 k).1 < 2 then ht u.2.2 k + 1 else ht u.2.2 k - 1 := fun k => rfl
  have hb : ∀ k, k ≤ u.2.1 → ht u.2.2 k ≤ 24 := by
    intro k
    induction k with
    | zero => intro _; exact Nat.zero_le _
    | succ k ih =>
      intro hk
      have a := ih (by omega)
      obtain ⟨-, b1, b2⟩ := y8 k (Nat.zero_le _) (by omega)
      rw [hs]
      by_cases q : (u.2.2 k).1 < 2
      · rw [if_pos q]
        have := b1 q
        omega
      · rw [if_neg q]
        omega
  refine ⟨⟨by show u.2.1 ≤ 150; omega, fun k hk => (y8 k (Nat.zero_le _) hk).1, fun k => if k ≤ u.2.1 then ht u.2.2 k else 0, ?_, ?_, fun k => ?_, fun k hk => ?_⟩, by omega⟩
  · show (if 0 ≤ u.2.1 then ht u.2.2 0 else 0) = 0
    rw [if_pos (Nat.zero_le _)]
    rfl
  · show (if u.2.1 ≤ u.2.1 then ht u.2.2 u.2.1 else 0) = 1
    rw [if_pos (Nat.le_refl _)]
    exact y7
  · show (if k ≤ u.2.1 then ht u.2.2 k else 0) ≤ 24
    by_cases q : k ≤ u.2.1
    · rw [if_pos q]; exact hb k q
    · rw [if_neg q]; decide
  · have hk : k < u.2.1 := hk
    show ((u.2.2 k).1 < 2 → (if k ≤ u.2.1 then ht u.2.2 k else 0) < 24 ∧ (if k + 1 ≤ u.2.1 then ht u.2.2 (k + 1) else 0) = (if k ≤ u.2.1 then ht u.2.2 k else 0) + 1) ∧ (2 ≤ (u.2.2 k).1 → 2 ≤ (if k ≤ u.2.1 then ht u.2.2 k else 0) ∧ (if k + 1 ≤ u.2.1 then ht u.2.2 (k + 1) else 0) + 1 = (if k ≤ u.2.1 then ht u.2.2 k else 0))
    rw [if_pos (by omega), if_pos (by omega), hs]
    obtain ⟨-, b1, b2⟩ := y8 k (Nat.zero_le _) hk
    refine ⟨fun q => ?_, fun q => ?_⟩
    · have := b1 q
      rw [if_pos q]
      omega
    · have := b2 q
      rw [if_neg (by omega)]
      omega
/-- a new law -/
theorem inv_l (S : Sw w) (n1 : w.1 ≤ 526 + 7 * k) (n2 : w.2.1 ≤ 50000 + 100 * k) (HC : RC w I J D) (HM : RM I D) (W : WD D) (dC : ∀ a ∈ [0, 3, 4, 5, 6, 7, 24, 25, 43, 44, 45, 46, 47, 51], I' a = I a) (d2 : ∀ a, 526 ≤ a → I' a = I a) (eM : ∀ a, sgM a = true → a < 75 ∨ 234 < a → I' a = I a) (g6 : ∀ j ∈ [31, 32, 33, 34], I' 49 j = I 49 j) (hL : LwC I' L) (mL : LwM I' L) (wL : LwW L) (c1 : I' 1 1 = 0) (c6 : I' 1 6 = -1) (m1 : I' 49 1 = 0) (m3 : I' 49 3 = -1) (hJ : J' 24 = J 24) : Inv (k + 1) w I' J' := by
  obtain ⟨⟨HF, HA, HL, HWo, ⟨HT1, HT2⟩, HH, ⟨HI1, HI2⟩, hP, hN⟩, hE, hG⟩ := HC
  obtain ⟨⟨MF, MA, ML, MW, ⟨MT1, MT2⟩, ⟨MH1, MH2⟩, ⟨MI1, MI2⟩, mP, mN⟩, mE, mG⟩ := HM
  obtain ⟨WF, WHi, W16, WL, WW, ⟨WT1, WT2⟩, WM3, WMi⟩ := W
  have z8 := WF.1
  have zw := WW.1
  have d0 : I' 0 = I 0 := dC 0 (by decide)
  have d51 : I' 51 = I 51 := dC 51 (by decide)
  refine ⟨S, by omega, by omega, ((dF D, dA D, L, dW D), (0, dB D), D.2.2.1, (-1, dN D, dE D, dG D)), ⟨⟨?_, ?_, hL, ?_, ⟨c1, fun c hc => absurd hc (Nat.not_lt_zero _)⟩, ?_, ⟨?_, ?_⟩, c6, ?_⟩, ?_, ?_⟩, ⟨⟨?_, ?_, mL, ⟨?_, ?_⟩, ⟨m1, fun c hc => absurd hc (Nat.not_lt_zero _)⟩, ⟨?_, ?_⟩, ⟨?_, ?_⟩, m3, ?_⟩, ?_, ?_⟩, ⟨WF, WHi, W16, wL, WW, ⟨Nat.zero_le _, fun c hc => absurd hc (Nat.not_lt_zero _)⟩, WM3, WMi⟩⟩
  · show FoC I' (dF D)
    unfold FoC
    rw [dC 3 (by decide), dC 4 (by decide), dC 5 (by decide), dC 6 (by decide), dC 7 (by decide)]
    exact HF
  · show StR I' 43 (dA D)
    unfold StR
    rw [dC 43 (by decide), dC (43 + 1) (by decide), dC (43 + 2) (by decide), dC (43 + 3) (by decide), dC (43 + 4) (by decide)]
    exact HA
  · show WoC I' J' (dF D) (dW D)
    unfold WoC
    rw [dC 24 (by decide), dC 25 (by decide), hJ]
    exact HWo
  · exact HH.ag d2
  · rw [d0]; exact HI1
  · exact HI2.ag d2
  · rw [d0]; exact hN
  · rw [d0]; exact hE
  · rw [d0]; exact hG
  · refine ⟨by rw [eM 53 rfl (by decide)]; exact MF.1, by rw [eM 53 rfl (by decide)]; exact MF.2.1, fun p hp => ?_⟩
    have hp : p < sz (dF D) := hp
    rw [eM 55 rfl (by decide), eM (66 + p) (by simp [sgM]; omega) (by omega)]
    exact MF.2.2 p hp
  · show RwR I' 497 0 (dA D)
    unfold RwR
    rw [eM 497 rfl (by decide)]
    exact MA
  · rw [g6 31 (by decide)]; exact MW.1
  · intro j hj
    have hj : j < (dW D).1 := hj
    rw [eM (397 + j) (by simp [sgM]; omega) (by omega)]
    exact MW.2 j hj
  · rw [g6 32 (by decide)]; exact MH1
  · exact HiM.ag (fun i hi => eM (500 + i) (by have hi : i < (dH D).length := hi; simp [sgM]; omega) (by right; show 234 < 500 + i; omega)) MH2
  · rw [g6 34 (by decide)]; exact MI1
  · exact ImM.ag (fun i hi => eM (517 + i) (by have hi : i < (dM D).length := hi; simp [sgM]; omega) (by omega)) MI2
  · rw [g6 33 (by decide)]; exact mN
  · rw [d51]; exact mE
  · rw [d51]; exact mG
theorem g_law (H : Inv k w I J) (hk : k ≤ 512) (x : Int32) : CallK k w I J 1 (f_X11_law 0 x) (f_X12_law 49 x) := by
  have Hs := H
  have hr := H.rm hk
  obtain ⟨S, n1, n2, D, HC, HM, W⟩ := H
  have HCs := HC
  have HMs := HM
  have Ws := W
  obtain ⟨⟨HF, HA, HL, HWo, ⟨HT1, HT2⟩, HH, ⟨HI1, HI2⟩, hP, hN⟩, hE, hG⟩ := HC
  obtain ⟨⟨MF, MA', ML, MW, ⟨MT1, MT2⟩, ⟨MH1, MH2⟩, ⟨MI1, MI2⟩, mP, mN⟩, mE, mG⟩ := HM
  obtain ⟨WF, WHi, W16, WL, WW, ⟨WT1, WT2⟩, WM3, WMi⟩ := W
  have lim : (150 : Int32) = nn 150 := rfl
  by_cases hx : lnP (dT D) 150 x
  rotate_left
  · refine Or.inr (Or.inr (CallX.ok (Or.inr ⟨rfl, rfl⟩) Hs ⟨?_, fun J1 => ⟨0, ?_⟩⟩))
    · rw [f_X11_law, lim, bd_er ((v_0 S).trans (c_openNo S hr HT1 WT1 (by decide) hx))]
    · obtain ⟨I1, hI1⟩ : ∃ I1, I1 = up2 (up2 I 0 17 (I 0 17 + 1)) 49 0 0 := ⟨_, rfl⟩
      have S' := tw_Sw S 14
      have x1 : I1 49 1 = nn (dT D) := by rw [hI1, up2_k (by decide), up2_a (by decide)]; exact MT1
      have x0 : I1 49 0 = 0 := by rw [hI1, up2_s]
      have x51 : I1 51 1 = I 51 1 := by rw [hI1, up2_a (by decide), up2_a (by decide)]
      have i1 := i_49_1 (I := I1) (J := J1) S'
      rw [x1] at i1
      have fin : f_X12_law_b25 49 x 49 (st (tw w 14) I1 J1) = some (.inl 0, st (tw w 14) (up2 (up2 I1 49 0 1) 51 1 (I 51 1 + 1)) J1) := by
        have e := mb_11 (I := I1) (J := J1) S' 1 (by decide) x0
        rw [x51] at e
        rw [f_X12_law_b25, f_X12_law_b30, bd_st ((v_49 S').trans e), if_neg (by decide)]
        rfl
      rw [f_X12_law, bd_st (w_49_0 S'), ← hI1, bd_st i1]
      by_cases q0 : x < 0
      · rw [show bd (f_X12_in x 0 (nn (dT D))) _ _ = _ from bd_st (x := 0) (σ' := st (tw w 14) I1 J1) (by rw [f_X12_in, if_pos q0]; rfl), if_pos rfl]
        exact fin
      by_cases q1 : nn (dT D) < x
      · rw [show bd (f_X12_in x 0 (nn (dT D))) _ _ = _ from bd_st (x := 0) (σ' := st (tw w 14) I1 J1) (by rw [f_X12_in, if_neg q0, if_pos q1]; rfl), if_pos rfl]
        exact fin
      rw [show bd (f_X12_in x 0 (nn (dT D))) _ _ = _ from bd_st (x := 1) (σ' := st (tw w 14) I1 J1) (by rw [f_X12_in, if_neg q0, if_neg q1]; rfl), if_neg (by decide)]
      by_cases q2 : x ≤ 150
      · obtain ⟨m, hm, rfl⟩ := nn_of q0
        rw [nn_lt (by omega) hm] at q1
        rw [lim, nn_le hm (by omega)] at q2
        exact absurd ⟨m, by omega, by omega, rfl⟩ hx
      · rw [if_neg q2]
        exact fin
  obtain ⟨m, hm1, hm2, rfl⟩ := hx
  left
  have TW : TxW (dB D) m := ⟨by omega, fun c hc => WT2 c (by omega)⟩
  have eO := (v_0 S (F := f_X11_openText 0 (nn m) (nn 150))).trans (c_openOk (J := J) S HT1 WT1 (by decide) hm1 hm2)
  obtain ⟨oC, oA⟩ := op_C (I := I) HT2 hm1
  have key := c_readL (J := J) S TW hm2 oC
  -- the model from a state that keeps its cells
  have mod : ∀ I1 J1, Ag [1, 13, 14, 16, 17] I I1 → ∃ I2, f_X12_law 49 (nn m) (st w I1 J1) = f_X12_law_b85 49 (st w I2 J1) ∧ (∀ a, a ≠ 49 → (a < 236 ∨ 395 < a) → I2 a = I1 a) ∧ (∀ j, 9 ≤ j → j ≠ 18 → I2 49 j = I1 49 j) ∧ I2 49 0 = 0 ∧ I2 49 1 = 0 ∧ (match lwT (dB D) m with
      | .inl r => MTx (dB D) m r I2
      | .inr L => I2 49 5 = 0 ∧ LM I2 L) := fun I1 J1 a1 => by
    obtain ⟨I2, hI2⟩ : ∃ I2, I2 = up2 I1 49 0 0 := ⟨_, rfl⟩
    have x49 : I1 49 = I 49 := a1 49 (by decide)
    have x1 : I2 49 1 = nn (dT D) := by rw [hI2, up2_k (by decide), x49]; exact MT1
    have x0 : I2 49 0 = 0 := by rw [hI2, up2_s]
    have i1 := i_49_1 (I := I2) (J := J1) S
    rw [x1] at i1
    have T2 : ∀ c, c < m → I2 50 c = nn (dB D c) := fun c hc => by rw [hI2, up2_a (by decide), a1 50 (by decide)]; exact MT2 c (by omega)
    obtain ⟨s1, s2, s3, s4, s5, s6, s7, s8⟩ := sta_M (I := I2) TW T2 x0
    obtain ⟨I3, hI3⟩ : ∃ I3, I3 = up2 (staI I2 (dB D) m) 49 18 0 := ⟨_, rfl⟩
    have f3 : (∀ a, a ≠ 49 → I3 a = I1 a) ∧ ∀ j, 9 ≤ j → j ≠ 18 → I3 49 j = I1 49 j := by
      refine ⟨fun a ha => ?_, fun j hj h18 => ?_⟩
      · rw [hI3, up2_ra ha, s3 a (by simpa using ha), hI2, up2_ra ha]
      · rw [hI3, up2_k h18, s4 j hj, hI2, up2_k (by omega)]
    have Q3 : QM (dB D) m 0 (0, (0, fun _ => (0, 0))) I3 := by
      obtain ⟨t1, t2, q, hq, t3, t4⟩ := s1
      rw [hI3]
      exact ⟨⟨t1.up ⟨by decide, Or.inr (by decide)⟩, by rw [up2_k (by decide)]; exact t2, q, hq, by rw [up2_k (by decide)]; exact t3, t4⟩, by rw [up2_k (by decide)]; exact s8, ⟨up2_s, fun k hk => absurd hk (Nat.not_lt_zero _)⟩, Nat.zero_le _⟩
    have R := m_sumR (J := J1) S TW hm2 12 0 (by decide) (by decide) 0 (0, fun _ => (0, 0)) I3 (Nat.zero_le _) (Nat.zero_le _) Q3
    have z0 : I3 49 0 = 0 := by rw [hI3, up2_k (by decide)]; exact s5
    have z1 : I3 49 1 = 0 := by rw [hI3, up2_k (by decide)]; exact s6
    have e0 : f_X12_law 49 (nn m) (st w I1 J1) = (bd (cv 12 49 (F_X12_sum 12 49)) fun _ => bd (cv 12 49 (f_X12_blanks 49)) fun _ => bd (gI 12 5 49) fun v8 => if (v8 = 0 : Prop) then (bd (gI 12 4 49) fun v9 => bd (gI 12 2 49) fun v10 => if (v10 ≤ v9 : Prop) then (f_X12_law_b85 49) else bd (gI 12 4 49) fun v11 => bd (cv 12 49 (f_X12_wrong 49 1 v11)) fun _ => f_X12_law_b85 49) else f_X12_law_b85 49) (st w I3 J1) := by
      rw [f_X12_law, bd_st (w_49_0 S), ← hI2, bd_st i1, bd_st (in_ok WT1 hm1), if_neg (by decide), if_pos (by rw [lim, nn_le (by omega) (by omega)]; omega), f_X12_law_b30, bd_st ((v_49 S).trans (mb_0 S 1 1 x0)), if_pos rfl, bd_st ((v_49 S).trans (m_starts S TW T2)), bd_st (w_49_18 S), ← hI3]
    -- the end of it
    have fin : ∀ I4 I5, LF I3 I4 → MA I4 I5 → (∀ a, a ≠ 49 → (a < 236 ∨ 395 < a) → I5 a = I1 a) ∧ (∀ j, 9 ≤ j → j ≠ 18 → I5 49 j = I1 49 j) ∧ I5 49 0 = 0 ∧ I5 49 1 = 0 := fun I4 I5 l4 a5 => by
      refine ⟨fun a h1 h2 => ?_, fun j h1 h2 => ?_, ?_, ?_⟩
      · rw [a5.1 a (by simpa using h1), l4.1 a h1 h2, f3.1 a h1]
      · rw [a5.2 j (by omega) (by omega) (by omega), l4.2 j (by omega) (by omega) (by omega) (by omega) h2, f3.2 j h1 h2]
      · rw [a5.2 0 (by decide) (by decide) (by decide), l4.2 0 (by decide) (by decide) (by decide) (by decide) (by decide)]
        exact z0
      · rw [a5.2 1 (by decide) (by decide) (by decide), l4.2 1 (by decide) (by decide) (by decide) (by decide) (by decide)]
        exact z1
    unfold lwT
    rw [e0]
    cases hR : suR (dB D) m 12 0 0 (0, fun _ => (0, 0)) with
    | inl r =>
      rw [hR] at R
      obtain ⟨I4, e4, l4, X4⟩ := R
      obtain ⟨I5, e5, a5, X5⟩ := m_blX (J := J1) S TW X4
      obtain ⟨f1, f2, f4, f5⟩ := fin I4 I5 l4 a5
      refine ⟨I5, ?_, f1, f2, f4, f5, X5⟩
      rw [bd_st ((v_49 S).trans e4), bd_st ((v_49 S).trans e5), bd_st (i_49_5 S), if_neg (mx5 X5)]
    | inr u =>
      rw [hR] at R
      obtain ⟨I4, e4, l4, Q4⟩ := R
      obtain ⟨I5, e5, a5, c5, p5⟩ := m_blR (J := J1) S TW Q4.1
      obtain ⟨y1, y2, -⟩ := su_EX 12 0 (by decide) _ _ _ (Nat.zero_le _) hR
      have g := sk_ge (b := dB D) y2
      have j5 := i_49_5 (I := I5) (J := J1) S
      rw [c5.2.1] at j5
      have j4 := i_49_4 (I := I5) (J := J1) S
      rw [p5] at j4
      have j2 := i_49_2 (I := I5) (J := J1) S
      rw [c5.1.1] at j2
      show ∃ I2, _ ∧ _ ∧ _ ∧ _ ∧ _ ∧ (match (if sk (dB D) m u.1 < m then .inl (1, sk (dB D) m u.1) else .inr u.2 : Er ⊕ Lw) with
        | .inl r => MTx (dB D) m r I2
        | .inr L => I2 49 5 = 0 ∧ LM I2 L)
      by_cases q : sk (dB D) m u.1 < m
      · rw [if_pos q]
        obtain ⟨I6, e6, a6, X6⟩ := m_wrR (J := J1) S c5 (x := 1) (by decide) (sk (dB D) m u.1)
        obtain ⟨f1, f2, f4, f5⟩ := fin I4 I6 l4 (a5.trans a6)
        refine ⟨I6, ?_, f1, f2, f4, f5, X6⟩
        rw [bd_st ((v_49 S).trans e4), bd_st ((v_49 S).trans e5), bd_st j5, if_pos rfl, bd_st j4, bd_st j2, if_neg (by rw [nn_le (by omega) (by omega)]; omega), bd_st j4, bd_st ((v_49 S).trans e6)]
      · rw [if_neg q]
        obtain ⟨f1, f2, f4, f5⟩ := fin I4 I5 l4 a5
        refine ⟨I5, ?_, f1, f2, f4, f5, c5.2.1, Q4.2.2.1.ma Q4.2.2.2 a5⟩
        rw [bd_st ((v_49 S).trans e4), bd_st ((v_49 S).trans e5), bd_st j5, if_pos rfl, bd_st j4, bd_st j2, if_pos (by rw [nn_le (by omega) (by omega)]; omega)]
  cases hR : lwT (dB D) m with
  | inl r =>
    rw [hR] at key
    obtain ⟨I1, e1, a1, c1⟩ := key
    have aI : Ag [1, 16, 17] I I1 := (oA.mono (by decide)).trans (a1.mono (by decide))
    refine ⟨r.1 - 10, w, I1, J, ?_, fun J1 hJ => ?_⟩
    · rw [f_X11_law, lim, bd_st eO, bd_st (r_0_4 S), bd_st (r_0_0 S), bd_st ((v_16 S).trans e1), if_pos rfl, bd_st (r_0_0 S), bd_st ((v_1 S).trans (c_fltA S c1))]
      rfl
    · obtain ⟨I2, e2, f2, g2, z2, y2, X2⟩ := mod I1 J1 (aI.mono (by decide))
      rw [hR] at X2
      have X2 : MTx (dB D) m r I2 := X2
      have e4 : f_X12_law_b85 49 (st w I2 J1) = some (.inl (r.1 - 10), st w (up2 I2 49 3 (nn r.2)) J1) := by
        rw [f_X12_law_b85, bd_st (i_49_5 S), if_neg (mx5 X2), bd_st ((v_49 S).trans (m_endsR S X2))]
        rfl
      have fr : ∀ a, a ≠ 49 → (a < 236 ∨ 395 < a) → a ≠ 1 → a ≠ 16 → a ≠ 17 → up2 I2 49 3 (nn r.2) a = I a := fun a h1 h2 h3 h4 h5 => by
        rw [up2_ra h1, f2 a h1 h2]
        exact aI a (by simp [h3, h4, h5])
      have k1 : up2 I2 49 3 (nn r.2) 1 = I1 1 := by rw [up2_ra (by decide), f2 1 (by decide) (by decide)]
      have HCr : ∀ j ∈ [17, 31, 32, 33, 34], up2 I2 49 3 (nn r.2) 49 j = I 49 j := fun j hj => by
        have q : ∀ j ∈ [17, 31, 32, 33, 34], 9 ≤ j ∧ j ≠ 18 := by decide
        have := q j hj
        rw [up2_k (by omega), g2 j this.1 this.2, aI 49 (by decide)]
      refine ⟨up2 I2 49 3 (nn r.2), e2.trans e4, by rw [up2_k (by decide)]; exact z2, inv_f S n1 n2 HCs HMs Ws (P := nn r.2) (fun a ha => fr a ?_ ?_ ?_ ?_ ?_) HCr (by rw [k1]; exact c1.1) (by rw [k1]; exact c1.2.2) (by rw [up2_k (by decide)]; exact y2) up2_s hJ⟩
      · exact fun e => by subst e; exact absurd ha (by decide)
      · exact sgA_r ha
      · exact fun e => by subst e; exact absurd ha (by decide)
      · exact fun e => by subst e; exact absurd ha (by decide)
      · exact fun e => by subst e; exact absurd ha (by decide)
  | inr L =>
    rw [hR] at key
    obtain ⟨I1, e1, a1, c1, c6, HL1⟩ := key
    obtain ⟨wL, hL⟩ := lw_W hm2 hR
    obtain ⟨I2, e2, a2, l2⟩ := c_copyL (J := J) S HL1 hL
    have aI : Ag [1, 13, 14, 16, 17] I I2 := ((oA.mono (by decide)).trans (a1.mono (by decide))).trans (a2.mono (by decide))
    refine ⟨1, w, I2, J, ?_, fun J1 hJ => ?_⟩
    · rw [f_X11_law, lim, bd_st eO, bd_st (r_0_4 S), bd_st (r_0_0 S), bd_st ((v_16 S).trans e1), if_neg (by decide), bd_st (r_0_3 S), bd_st (r_0_4 S), bd_st ((v_13 S).trans e2)]
      rfl
    · obtain ⟨I3, e3, f3, g3, z3, y3, X3⟩ := mod I2 J1 aI
      rw [hR] at X3
      obtain ⟨h5, M1, M2⟩ := X3
      have j5 := i_49_5 (I := I3) (J := J1) S
      rw [h5] at j5
      have j18 := i_49_18 (I := up2 I3 49 3 (-1)) (J := J1) S
      rw [up2_k (by decide), M1] at j18
      have j17 := i_49_17 (I := up2 (up2 I3 49 3 (-1)) 49 17 (nn L.1)) (J := J1) S
      rw [up2_s] at j17
      obtain ⟨I5, e5, f5, b5⟩ := m_lays4 (I := up2 (up2 I3 49 3 (-1)) 49 17 (nn L.1)) (J := J1) (m := L.1) S (by omega)
      have e4 : f_X12_law_b85 49 (st w I3 J1) = some (.inl 1, st w I5 J1) := by
        rw [f_X12_law_b85, bd_st j5, if_pos rfl, bd_st (w_49_3 S), bd_st j18, bd_st (w_49_17 S), bd_st (r_49_20 S), bd_st (r_49_19 S), bd_st j17, bd_st e5]
        rfl
      have k49 : I5 49 = up2 (up2 I3 49 3 (-1)) 49 17 (nn L.1) 49 := f5 49 (by decide)
      have ka : ∀ a, a ≠ 49 → (a < 75 ∨ 234 < a ∧ a < 236 ∨ 395 < a) → I5 a = I2 a := fun a h1 h2 => by
        rw [f5 a (by omega), up2_ra h1, up2_ra h1, f3 a h1 (by omega)]
      have kI : ∀ a, a ≠ 49 → (a < 75 ∨ 234 < a ∧ a < 236 ∨ 395 < a) → a ∉ [1, 13, 14, 16, 17] → I5 a = I a := fun a h1 h2 h3 => by
        rw [ka a h1 h2]
        exact aI a h3
      have k1 : I5 1 = I1 1 := by rw [ka 1 (by decide) (by decide), a2 1 (by decide)]
      refine ⟨I5, e3.trans e4, ?_, inv_l S n1 n2 HCs HMs Ws (fun a ha => ?_) (fun a ha => kI a (by omega) (by omega) (by simp; omega)) (fun a ha hr => ?_) (fun j hj => ?_) ?_ (Or.inl ⟨?_, fun j hj => ?_⟩) wL (by rw [k1]; exact c1) (by rw [k1]; exact c6) ?_ ?_ hJ⟩
      · rw [k49, up2_k (by decide), up2_k (by decide)]; exact z3
      · have q : ∀ a ∈ [0, 3, 4, 5, 6, 7, 24, 25, 43, 44, 45, 46, 47, 51], a ≠ 49 ∧ (a < 75 ∨ 234 < a ∧ a < 236 ∨ 395 < a) ∧ a ∉ [1, 13, 14, 16, 17] := by decide
        obtain ⟨q1, q2, q3⟩ := q a ha
        exact kI a q1 q2 q3
      · have q := sgM_l ha
        exact kI a (by omega) (by omega) (by simp; omega)
      · have q : ∀ j ∈ [31, 32, 33, 34], 9 ≤ j ∧ j ≠ 18 ∧ j ≠ 17 ∧ j ≠ 3 := by decide
        obtain ⟨q1, q2, q3, q4⟩ := q j hj
        rw [k49, up2_k q3, up2_k q4, g3 j q1 q2, aI 49 (by decide)]
      · refine ⟨by rw [ka 13 (by decide) (by decide)]; exact l2.1, fun j hj => ?_⟩
        rw [ka 14 (by decide) (by decide)]
        exact l2.2 j hj
      · rw [k49, up2_s]
        rfl
      · have hj : j < L.1 := hj
        obtain ⟨q0, q1⟩ := b5 j hj
        rw [q0, q1, up2_a (by omega), up2_a (by omega), up2_a (by omega), up2_a (by omega)]
        exact M2 j hj
      · rw [k49, up2_k (by decide), up2_k (by decide)]; exact y3
      · rw [k49, up2_k (by decide), up2_s]
end LCALL
