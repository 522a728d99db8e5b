/-! PURE PART: work, the call -/
def rc0 : Nat → Rc := fun _ => (0, 0, 0, 0, 0)
section KCALL
variable {w : Wd} {I I' : Is} {J J' : Js} {D : Dt} {k : Nat}
def MWe (w : Wd) (J : Js) (I : Is) (b : Nat → Nat) (n : Nat) (z : Option ((Int32 ⊕ (Nat × Nat)) × PS)) : WR → Prop
  | .inl r => ∃ I1, z = f_X12_work_b101 49 (st w I1 J) ∧ WL I I1 ∧ MTx b n r I1
  | .inr u => ∃ I1, z = f_X12_work_b101 49 (st w I1 J) ∧ WL I I1 ∧ I1 49 5 = 0 ∧ I1 49 26 = nn u.2.1 ∧ ∀ k, k < u.2.1 → RkM I1 k (u.2.2 k)
theorem m_topL {b : Nat → Nat} {n z : Nat} {rc : Nat → Nat → Nat → (Nat → Rc) → WR} (S : Sw w) (W : TxW b n) (hn : n ≤ 150) (hs : RsM w J b n z (F_X12_readsStep 12) (spR rc b n z 0) 0) (hX : ∀ p c f u, p ≤ n → spR rc b n z 0 p c f = .inr u → WX 5 n p c f u) : ∀ d p c f I N, n < 5 * d + p → d + 1 < N → p ≤ n → 5 * c ≤ p → MT b n p I → I 49 4 = nn (sk b n p) → I 49 8 = nn 0 → I 49 26 = nn c → I 53 0 = nn z → (∀ k, k < c → RkM I k (f k)) → MWe w J I b n (f_X12_work_b72 N 49 (st w I J)) (ssR rc b n z 0 d p c f) := by
  intro d
  induction d with
  | zero => intro p c f I N h1 h2 h3; omega
  | succ d ih =>
    intro p c f I N hd hN hp hc C h4 h8 h26 h53 hin
    obtain ⟨N, rfl⟩ : ∃ M, N = M + 2 := ⟨N - 2, by omega⟩
    have g := sk_ge (b := b) hp
    have i5 := i_49_5 (I := I) (J := J) S
    rw [C.2.1] at i5
    have i4 := i_49_4 (I := I) (J := J) S
    rw [h4] at i4
    have i2 := i_49_2 (I := I) (J := J) S
    rw [C.1.1] at i2
    have ql : (nn n ≤ nn (sk b n p)) = (n ≤ sk b n p) := nn_le (by omega) (by omega)
    unfold ssR
    rw [show N + 2 = N + 1 + 1 from rfl, f_X12_work_b72, bd_st i5, if_pos rfl, bd_st i4, bd_st i2]
    by_cases h : sk b n p < n
    rotate_left
    · rw [if_pos (show enP b n 0 p from Or.inl ⟨rfl, h⟩), if_pos (by rw [ql]; omega)]
      exact ⟨I, rfl, WL.refl I, C.2.1, h26, hin⟩
    rw [if_neg (by
      rintro (x | x)
      · exact x.2 h
      · exact absurd x.1 (by decide) : ¬ enP b n 0 p), if_neg (by rw [ql]; omega)]
    have R := hs p c f I hp hc C h8 h26 h53
    cases h2 : spR rc b n z 0 p c f with
    | inl r =>
      rw [h2] at R
      obtain ⟨I1, e1, a1, c1⟩ := R
      obtain ⟨I2, e2, a2, c2⟩ := m_blX (J := J) S W c1
      refine ⟨I2, ?_, a1.trans a2.wl, c2⟩
      rw [bd_st ((v_49 S).trans e1), bd_st ((v_49 S).trans e2), f_X12_work_b72, bd_st (i_49_5 S), if_neg (mx5 c2)]
    | inr u =>
      rw [h2] at R
      obtain ⟨I1, e1, a1, y1, y2, y3, y4, y5⟩ := R
      obtain ⟨x1, x2, x3, x4, x5⟩ := hX p c f u hp h2
      obtain ⟨I2, e2, a2, c2, p2⟩ := m_blR (J := J) S W y1
      rw [bd_st ((v_49 S).trans e1), bd_st ((v_49 S).trans e2)]
      have R2 := ih u.1 u.2.1 u.2.2 I2 (N + 1) (by omega) (by omega) x2 (by omega) c2 p2 (by rw [a2.2 8 (by decide) (by decide) (by decide)]; exact y2) (by rw [a2.2 26 (by decide) (by decide) (by decide)]; exact y3) (by rw [a2.1 53 (by decide), a1.1 53 (by decide) (by decide)]; exact h53) (fun k hk => by
        by_cases e : k < c
        · rw [x5 k e]
          exact ((hin k e).row (y4 k e)).row (ma_row a2 k)
        · exact (y5 k (by omega) hk).row (ma_row a2 k))
      show MWe w J I b n _ (ssR rc b n z 0 d u.1 u.2.1 u.2.2)
      cases h3 : ssR rc b n z 0 d u.1 u.2.1 u.2.2 with
      | inl r =>
        rw [h3] at R2
        obtain ⟨I3, e3, a3, c3⟩ := R2
        exact ⟨I3, e3, (a1.trans a2.wl).trans a3, c3⟩
      | inr t =>
        rw [h3] at R2
        obtain ⟨I3, e3, a3, c3⟩ := R2
        exact ⟨I3, e3, (a1.trans a2.wl).trans a3, c3⟩
theorem sgA_v : ∀ i, i < 80 → sgA (417 + i) = false := by decide +kernel
theorem sgA_w {a : Nat} (h : sgA a = true) : a < 417 ∨ 496 < a := by
  by_cases q : a < 417 ∨ 496 < a
  · exact q
  · have := sgA_v (a - 417) (by omega)
    rw [show 417 + (a - 417) = a by omega, h] at this
    exact absurd this (by decide)
theorem g_work (H : Inv k w I J) (hk : k ≤ 512) (x : Int32) : CallK k w I J 1 (f_X11_work 0 x) (f_X12_work 49 x) := by
  have Hs := H
  have hr := H.rm hk
  obtain ⟨S, n1, n2, D, HC, HM, W⟩ := H
  have HCs := HC
  have HMs := HM
  have Ws := W
  obtain ⟨⟨HF, HA, HL, HWo, ⟨HT1, HT2⟩, HH, ⟨HI1, HI2⟩, hP, hN⟩, hE, hG⟩ := HC
  obtain ⟨⟨MF, MA', ML, MW, ⟨MT1, MT2⟩, ⟨MH1, MH2⟩, ⟨MI1, MI2⟩, mP, mN⟩, mE, mG⟩ := HM
  obtain ⟨WF, WHi, W16, WL', WW, ⟨WT1, WT2⟩, WM3, WMi⟩ := W
  have h8 := WF.1
  have h40 := WHi.1.1
  have lim : (150 : Int32) = nn 150 := rfl
  by_cases hx : lnP (dT D) 150 x
  rotate_left
  · refine Or.inr (Or.inr (CallX.ok (Or.inr ⟨rfl, rfl⟩) Hs ⟨?_, fun J1 => ⟨0, ?_⟩⟩))
    · rw [f_X11_work, lim, bd_er ((v_0 S).trans (c_openNo S hr HT1 WT1 (by decide) hx))]
    · obtain ⟨I1, hI1⟩ : ∃ I1, I1 = up2 (up2 I 0 17 (I 0 17 + 1)) 49 0 0 := ⟨_, rfl⟩
      have S' := tw_Sw S 14
      have x1 : I1 49 1 = nn (dT D) := by rw [hI1, up2_k (by decide), up2_a (by decide)]; exact MT1
      have x0 : I1 49 0 = 0 := by rw [hI1, up2_s]
      have x51 : I1 51 1 = I 51 1 := by rw [hI1, up2_a (by decide), up2_a (by decide)]
      have i1 := i_49_1 (I := I1) (J := J1) S'
      rw [x1] at i1
      have fin : f_X12_work_b25 49 x 49 (st (tw w 14) I1 J1) = some (.inl 0, st (tw w 14) (up2 (up2 I1 49 0 1) 51 1 (I 51 1 + 1)) J1) := by
        have e := mb_11 (I := I1) (J := J1) S' 1 (by decide) x0
        rw [x51] at e
        rw [f_X12_work_b25, f_X12_work_b30, bd_st ((v_49 S').trans e), if_neg (by decide)]
        rfl
      rw [f_X12_work, bd_st (w_49_0 S'), ← hI1, bd_st i1]
      by_cases q0 : x < 0
      · rw [show bd (f_X12_in x 0 (nn (dT D))) _ _ = _ from bd_st (x := 0) (σ' := st (tw w 14) I1 J1) (by rw [f_X12_in, if_pos q0]; rfl), if_pos rfl]
        exact fin
      by_cases q1 : nn (dT D) < x
      · rw [show bd (f_X12_in x 0 (nn (dT D))) _ _ = _ from bd_st (x := 0) (σ' := st (tw w 14) I1 J1) (by rw [f_X12_in, if_neg q0, if_pos q1]; rfl), if_pos rfl]
        exact fin
      rw [show bd (f_X12_in x 0 (nn (dT D))) _ _ = _ from bd_st (x := 1) (σ' := st (tw w 14) I1 J1) (by rw [f_X12_in, if_neg q0, if_neg q1]; rfl), if_neg (by decide)]
      by_cases q2 : x ≤ 150
      · obtain ⟨m, hm, rfl⟩ := nn_of q0
        rw [nn_lt (by omega) hm] at q1
        rw [lim, nn_le hm (by omega)] at q2
        exact absurd ⟨m, by omega, by omega, rfl⟩ hx
      · rw [if_neg q2]
        exact fin
  obtain ⟨m, hm1, hm2, rfl⟩ := hx
  left
  have TW : TxW (dB D) m := ⟨by omega, fun c hc => WT2 c (by omega)⟩
  have eO := (v_0 S (F := f_X11_openText 0 (nn m) (nn 150))).trans (c_openOk (J := J) S HT1 WT1 (by decide) hm1 hm2)
  obtain ⟨oC, oA⟩ := op_C (I := I) HT2 hm1
  have eWk := (v_0 S (F := f_X11_worksToUndo 0)).trans (c_works (J := J) S (HH.ag (I' := opI I m) fun b hb => oA b (by simp; omega)))
  have q16 : (nn (dH D).length < (16 : Int32)) = ((dH D).length < 16) := nn_lt (b := 16) (by omega) (by decide)
  have q16' : (nn (dH D).length = (16 : Int32)) = ((dH D).length = 16) := nn_eq (b := 16) (by omega) (by decide)
  -- the model's beginning
  have mbeg : ∀ w' I1 J1, Sw w' → (∀ a, 48 < a → a < 526 → I1 a = I a) → f_X12_work 49 (nn m) (st w' I1 J1) = (bd (gI 12 32 49) fun v14 => if (v14 = 16 : Prop) then (bd (pf 12 1 49 (.int 0)) fun _ => bd (pf 12 3 49 (.int (-1))) fun _ => pu (-20)) else bd (cv 12 49 (f_X12_starts 49 (nn m))) fun _ => bd (pf 12 26 49 (.int 0)) fun _ => f_X12_work_b72 NF 49) (st w' (up2 I1 49 0 0) J1) := fun w' I1 J1 S1 a1 => by
    have x1 : up2 I1 49 0 0 49 1 = nn (dT D) := by rw [up2_k (by decide), a1 49 (by decide) (by decide)]; exact MT1
    have i1 := i_49_1 (I := up2 I1 49 0 0) (J := J1) S1
    rw [x1] at i1
    rw [f_X12_work, bd_st (w_49_0 S1), bd_st i1, bd_st (in_ok WT1 hm1), if_neg (by decide), if_pos (by rw [lim, nn_le (by omega) (by omega)]; omega), f_X12_work_b30, bd_st ((v_49 S1).trans (mb_0 S1 1 1 up2_s)), if_pos rfl]
  have m32 : ∀ w' I1 J1, Sw w' → (∀ a, 48 < a → a < 526 → I1 a = I a) → gI 12 32 49 (st w' (up2 I1 49 0 0) J1) = some (.inl (nn (dH D).length), st w' (up2 I1 49 0 0) J1) := fun w' I1 J1 S1 a1 => by
    have := i_49_32 (I := up2 I1 49 0 0) (J := J1) S1
    rw [up2_k (by decide), a1 49 (by decide) (by decide), MH1] at this
    exact this
  by_cases hfull : (dH D).length < 16
  rotate_left
  · -- no more works
    have h16 : (dH D).length = 16 := by omega
    refine ⟨-20, w, opI I m, J, ?_, fun J1 hJ => ?_⟩
    · rw [f_X11_work, lim, bd_st eO, bd_st eWk, if_neg (by rw [q16]; exact hfull)]
      rfl
    · have a1 : ∀ a, 48 < a → a < 526 → opI I m a = I a := fun a h1 h2 => oA a (by simp; omega)
      have aa : Ag [1, 49] I (up2 (up2 (up2 (opI I m) 49 0 0) 49 1 0) 49 3 (-1)) := (((oA.mono (by decide)).up (by decide)).up (by decide)).up (by decide)
      have k1 : (up2 (up2 (up2 (opI I m) 49 0 0) 49 1 0) 49 3 (-1)) 1 = opI I m 1 := by simp (disch := decide) only [up2_ra]
      refine ⟨up2 (up2 (up2 (opI I m) 49 0 0) 49 1 0) 49 3 (-1), ?_, ?_, inv_f S n1 n2 HCs HMs Ws (P := -1) (sgA_ag aa (by decide)) (fun j hj => ?_) ?_ ?_ ?_ up2_s hJ⟩
      · rw [mbeg w _ J1 S a1, bd_st (m32 w _ J1 S a1), if_pos (by rw [q16']; exact h16), bd_st (w_49_1 S), bd_st (w_49_3 S)]
        rfl
      · rw [up2_k (by decide), up2_k (by decide), up2_s]
      · have q : ∀ j ∈ [17, 31, 32, 33, 34], j ≠ 0 ∧ j ≠ 1 ∧ j ≠ 3 := by decide
        obtain ⟨q1, q2, q3⟩ := q j hj
        rw [up2_k q3, up2_k q2, up2_k q1, oA 49 (by decide)]
      · rw [k1]; exact oC.2.1
      · rw [k1]; exact oC.2.2.1
      · rw [up2_k (by decide), up2_s]
  have key := c_readW2 (J := J) (z := sz (dF D)) S TW hm2 h8 oC rc0
  have i34 := i_3_4 (I := opI I m) (J := J) S
  rw [oA 3 (by decide), fc_sz HF] at i34
  -- the model reads
  have mod : ∀ w' I1 J1, Sw w' → (∀ a, 48 < a → a < 526 → I1 a = I a) → ∃ z I2, f_X12_work 49 (nn m) (st w' I1 J1) = z ∧ (∀ a, a ≠ 49 → I2 a = I1 a) ∧ (∀ j, 9 ≤ j → j ≠ 26 → I2 49 j = I1 49 j) ∧ I2 49 0 = 0 ∧ I2 49 1 = 0 ∧ MWe w' J1 I2 (dB D) m z (wkR (dB D) m (sz (dF D)) 12 0 0 0 rc0) := fun w' I1 J1 S1 a1 => by
    obtain ⟨I2, hI2⟩ : ∃ I2, I2 = up2 I1 49 0 0 := ⟨_, rfl⟩
    have x0 : I2 49 0 = 0 := by rw [hI2, up2_s]
    have T2 : ∀ c, c < m → I2 50 c = nn (dB D c) := fun c hc => by rw [hI2, up2_a (by decide), a1 50 (by decide) (by decide)]; exact MT2 c (by omega)
    obtain ⟨s1, s2, s3, s4, s5, s6, s7, s8⟩ := sta_M (I := I2) TW T2 x0
    obtain ⟨I3, hI3⟩ : ∃ I3, I3 = up2 (staI I2 (dB D) m) 49 26 0 := ⟨_, rfl⟩
    have f3 : ∀ a, a ≠ 49 → I3 a = I1 a := fun a ha => by rw [hI3, up2_ra ha, s3 a (by simpa using ha), hI2, up2_ra ha]
    have R := m_topL (J := J1) (z := sz (dF D)) (rc := wkR (dB D) m (sz (dF D)) 11) S1 TW hm2 (m_stepD S1 TW hm2 h8 11 0 (by decide) (by decide)) (fun p c f u hp hu => (ws_X p c f u hp hu).1) 31 0 0 rc0 I3 NF (by omega) (by decide) (Nat.zero_le _) (Nat.zero_le _) (by rw [hI3]; exact s1.u26) (by rw [hI3, up2_k (by decide)]; exact s2) (by rw [hI3, up2_k (by decide)]; exact s8) (by rw [hI3, up2_s]; rfl) (by rw [f3 53 (by decide), a1 53 (by decide) (by decide)]; exact fm_sz MF) (fun k hk => absurd hk (Nat.not_lt_zero _))
    refine ⟨f_X12_work_b72 NF 49 (st w' I3 J1), I3, ?_, f3, fun j h1 h2 => ?_, ?_, ?_, R⟩
    · rw [mbeg w' I1 J1 S1 a1, bd_st (m32 w' I1 J1 S1 a1), if_neg (by rw [q16']; omega), ← hI2, bd_st ((v_49 S1).trans (m_starts S1 TW T2)), bd_st (w_49_26 S1), ← hI3]
    · rw [hI3, up2_k h2, s4 j h1, hI2, up2_k (by omega)]
    · rw [hI3, up2_k (by decide)]; exact s5
    · rw [hI3, up2_k (by decide)]; exact s6
  cases hR : wkR (dB D) m (sz (dF D)) 12 0 0 0 rc0 with
  | inl r =>
    rw [hR] at key
    obtain ⟨I1, e1, a1, c1⟩ := key
    have aI : Ag KV I I1 := (oA.mono (by decide)).trans a1
    refine ⟨r.1 - 10, w, I1, J, ?_, fun J1 hJ => ?_⟩
    · rw [f_X11_work, lim, bd_st eO, bd_st eWk, if_pos (by rw [q16]; exact hfull), bd_st (r_0_5 S), bd_st (r_0_0 S), bd_st (r_0_1 S), bd_st i34, bd_st ((v_19 S).trans e1), if_pos rfl, bd_st (r_0_0 S), bd_st ((v_1 S).trans (c_fltA S c1))]
      rfl
    · obtain ⟨z, I2, ez, f2, g2, z2, y2, R⟩ := mod w I1 J1 S (fun a h1 h2 => aI a (by simp [KV]; omega))
      rw [hR] at R
      obtain ⟨I3, e3, a3, X3⟩ := R
      have e4 : f_X12_work_b101 49 (st w I3 J1) = some (.inl (r.1 - 10), st w (up2 I3 49 3 (nn r.2)) J1) := by
        rw [f_X12_work_b101, bd_st (i_49_5 S), if_neg (mx5 X3), bd_st ((v_49 S).trans (m_endsR S X3))]
        rfl
      have fr : ∀ a, a ≠ 49 → (a < 417 ∨ 496 < a) → up2 I3 49 3 (nn r.2) a = I1 a := fun a h1 h2 => by
        rw [up2_ra h1, a3.1 a h1 h2, f2 a h1]
      have g3 : ∀ j, j ≠ 3 → j ≠ 4 → j ≠ 5 → j ≠ 6 → j ≠ 8 → j ≠ 26 → up2 I3 49 3 (nn r.2) 49 j = I2 49 j := fun j h1 h2 h3 h4 h5 h6 => by
        rw [up2_k h1, a3.2 j h2 h3 h4 h5 h6]
      have k1 := fr 1 (by decide) (by decide)
      refine ⟨up2 I3 49 3 (nn r.2), ez.trans (e3.trans e4), ?_, inv_f S n1 n2 HCs HMs Ws (P := nn r.2) (fun a ha => ?_) (fun j hj => ?_) (by rw [k1]; exact c1.1) (by rw [k1]; exact c1.2.2) ?_ up2_s hJ⟩
      · rw [g3 0 (by decide) (by decide) (by decide) (by decide) (by decide) (by decide)]; exact z2
      · have h49 : a ≠ 49 := fun e => by subst e; exact absurd ha (by decide)
        rw [fr a h49 (sgA_w ha)]
        refine aI a fun q => ?_
        have : ∀ a ∈ KV, sgA a = false := by decide
        rw [this a q] at ha
        exact absurd ha (by decide)
      · have q : ∀ j ∈ [17, 31, 32, 33, 34], 9 ≤ j ∧ j ≠ 26 := by decide
        have := q j hj
        rw [g3 j (by omega) (by omega) (by omega) (by omega) (by omega) this.2, g2 j this.1 this.2, aI 49 (by decide)]
      · rw [g3 1 (by decide) (by decide) (by decide) (by decide) (by decide) (by decide)]; exact y2
  | inr u =>
    rw [hR] at key
    obtain ⟨I1, e1, a1, c1, v4, v1, v5, v6, v7⟩ := key
    obtain ⟨⟨x1, x2, x3, x4, x5⟩, mm, wf⟩ := wk_X 12 0 0 0 rc0 u (Nat.zero_le _) hR
    have hc30 : u.2.1 ≤ 30 := by omega
    have aI : Ag KV I I1 := (oA.mono (by decide)).trans a1
    have HA1 : StR I1 43 (dA D) := HA.ag aI (by decide)
    have HH1 : HiC w I1 (w.2.2.2 0 13) (dH D) := HH.ag fun b hb => aI b (by simp [KV]; omega)
    obtain ⟨w0, w1, I0, J0, I2, J2, e2, S0, r0, e3, S1, X1, z1, z2, rL, IL, JL, HK⟩ := c_kept (J := J) S hr HA1 h40 HH1 (by omega)
    have hw := S.1
    obtain ⟨w2, ew2⟩ : ∃ w2, w2 = sR w1 0 13 (some w.1) := ⟨_, rfl⟩
    have S2 : Sw w2 := by rw [ew2]; exact sR_Sw S1 r13
    have X2 : Ext w1 w2 := by rw [ew2]; exact sR_Ext (by decide)
    have e13 := wH_st (I := I2) (J := J2) S1 (some w.1)
    rw [← ew2] at e13
    have c2 : ∀ a, a < 526 → a ∉ KV → I2 a = I a := fun a h1 h2 => by rw [IL a (by omega)]; exact aI a h2
    have b2 : ∀ a, a < 526 → I2 a = I1 a := fun a h => IL a (by omega)
    -- the steps are done
    have CC2 : CC (dF D) (dL D) u.2.2 u.2.1 I2 := by
      refine ⟨?_, ?_, fun j hj => (v1 j hj).sm ⟨by rw [b2 20 (by decide)], by rw [b2 21 (by decide)], by rw [b2 22 (by decide)], by rw [b2 23 (by decide)]⟩⟩
      · unfold FoC
        rw [c2 3 (by decide) (by decide), c2 4 (by decide) (by decide), c2 5 (by decide) (by decide), c2 6 (by decide) (by decide), c2 7 (by decide) (by decide)]
        exact HF
      · unfold LwC
        rw [c2 13 (by decide) (by decide), c2 14 (by decide) (by decide)]
        exact HL
    have XC2 : XC I2 (dA D, 0, 0, 0) := by
      refine ⟨?_, by rw [b2 19 (by decide)]; exact v5, by rw [b2 19 (by decide)]; exact v6, by rw [b2 19 (by decide)]; exact v7⟩
      show StR I2 43 (dA D)
      unfold StR
      rw [b2 43 (by decide), b2 (43 + 1) (by decide), b2 (43 + 2) (by decide), b2 (43 + 3) (by decide), b2 (43 + 4) (by decide)]
      exact HA1
    have XW0 : XW (dF D) (200 * (dH D).length) (dA D, 0, 0, 0) := ⟨WHi.1, WHi.2.1, fun p hp => WHi.2.2.1 p hp, Nat.zero_le _, Nat.zero_le _, Nat.zero_le _, Nat.zero_le _⟩
    obtain ⟨I3, e4, a3, X3, W3⟩ := c_perf (J := J2) S2 WF WL' hc30 12 0 (by decide) (by decide) mm 0 u.2.1 (dA D, 0, 0, 0) I2 wf (Nat.le_refl _) CC2 XC2 XW0
    have e4 : F_X9_performSteps 12 19 28 43 0 (nn u.2.1) 0 (st w2 I2 J2) = some (.inl (), st w2 I3 J2) := e4
    obtain ⟨y, hy⟩ : ∃ y, y = pfX (dF D) (dL D) u.2.2 mm 0 u.2.1 (dA D, 0, 0, 0) := ⟨_, rfl⟩
    rw [← hy] at X3 W3
    obtain ⟨I4, hI4⟩ : ∃ I4, I4 = up2 I3 0 15 (nn y.2.2.2) := ⟨_, rfl⟩
    have a4 : Ag [0] I3 I4 := by rw [hI4]; exact (Ag.refl _ _).up (by decide)
    have eC : f_X11_work 0 (nn m) (st w I J) = some (.inl (nn y.2.2.1), st w2 I4 J2) := by
      have n13 := n_0_13 (I := I0) (J := J0) S0
      rw [r0] at n13
      have j4 := i_19_4 (I := I2) (J := J2) S2
      rw [b2 19 (by decide), v4] at j4
      have eP : f_X9_perform 19 28 43 (st w2 I2 J2) = some (.inl (), st w2 I3 J2) := by
        rw [f_X9_perform, bd_st j4, bd_st ((v_19 S2).trans e4)]
        rfl
      have j7 := i_19_7 (I := I3) (J := J2) S2
      rw [X3.2.2.2] at j7
      have j6 := i_19_6 (I := I4) (J := J2) S2
      rw [a4 19 (by decide), X3.2.2.1] at j6
      rw [f_X11_work, lim, bd_st eO, bd_st eWk, if_pos (by rw [q16]; exact hfull), bd_st (r_0_5 S), bd_st (r_0_0 S), bd_st (r_0_1 S), bd_st i34, bd_st ((v_19 S).trans e1), if_neg (by decide), bd_st e2, bd_st (r_0_11 S0), bd_st n13, bd_st e3, bd_st e13, bd_st (r_0_5 S2), bd_st (r_0_7 S2), bd_st (r_0_11 S2), bd_st ((v_19 S2).trans eP), bd_st (r_0_5 S2), bd_st j7, bd_st (w_0_15 S2), ← hI4, bd_st (r_0_5 S2), bd_st j6]
      rfl
    refine ⟨_, _, _, _, eC, fun J1 hJ => ?_⟩
    have c4 : ∀ a, a < 526 → a ∉ [0, 1, 15, 19, 20, 21, 22, 23, 29, 43, 44, 45, 46, 47] → I4 a = I a := fun a h1 h2 => by
      simp only [List.mem_cons, List.not_mem_nil, or_false, not_or] at h2
      rw [a4 a (by simp; omega), a3 a (by simp [KP]; omega)]
      exact c2 a h1 (by simp [KV]; omega)
    -- the model
    obtain ⟨z, I5, ez, f5, g5, z5, y5, R⟩ := mod w2 I4 J1 S2 (fun a h1 h2 => c4 a h2 (by simp; omega))
    rw [hR] at R
    obtain ⟨I6, e6, a6, h65, h626, r6⟩ := R
    have b6 : ∀ a, a ≠ 49 → (a < 417 ∨ 496 < a) → I6 a = I4 a := fun a h1 h2 => by rw [a6.1 a h1 h2, f5 a h1]
    have g6 : ∀ j, 9 ≤ j → j ≠ 26 → I6 49 j = I 49 j := fun j h1 h2 => by
      rw [a6.2 j (by omega) (by omega) (by omega) (by omega) h2, g5 j h1 h2, c4 49 (by decide) (by decide)]
    obtain ⟨I7, e7, a7, r7⟩ := m_copies (I := up2 I6 49 3 (-1)) (J := J1) (RoS_497 S2) (RoS_500 S2 hfull) (by omega)
    obtain ⟨I8, hI8⟩ : ∃ I8, I8 = up2 (up2 (up2 (up2 I7 49 32 (nn ((dH D).length + 1))) 49 36 0) 49 37 0) 49 33 0 := ⟨_, rfl⟩
    have k8 : ∀ a, a ≠ 49 → I8 a = I7 a := fun a ha => by
      rw [hI8]
      simp only [up2_ra ha]
    have b8 : ∀ a, a ≠ 49 → a ≠ 500 + (dH D).length → I8 a = I6 a := fun a h1 h2 => by
      rw [k8 a h1, a7 a (by simpa using h2), up2_ra h1]
    have g8 : ∀ j, j ≠ 32 → j ≠ 36 → j ≠ 37 → j ≠ 33 → j ≠ 3 → I8 49 j = I6 49 j := fun j h1 h2 h3 h4 h5 => by
      rw [hI8, up2_k h4, up2_k h3, up2_k h2, up2_k h1, a7 49 (by simp; omega), up2_k h5]
    have R6 : RwR I6 497 0 (dA D) := by
      have := MA'
      unfold RwR at this ⊢
      rw [b6 497 (by decide) (by decide), c4 497 (by decide) (by decide)]
      exact this
    have CM8 : CM2 (dF D) (dL D) u.2.2 u.2.1 I8 := by
      refine ⟨⟨?_, ?_, fun p hp => ?_⟩, ML.kp WL'.1 (fun j hj => ?_) ?_, fun j hj => (r6 j hj).row (b8 (417 + j) (by omega) (by omega))⟩
      · rw [b8 53 (by decide) (by omega), b6 53 (by decide) (by decide), c4 53 (by decide) (by decide)]; exact MF.1
      · rw [b8 53 (by decide) (by omega), b6 53 (by decide) (by decide), c4 53 (by decide) (by decide)]; exact MF.2.1
      · rw [b8 55 (by decide) (by omega), b6 55 (by decide) (by decide), c4 55 (by decide) (by decide), b8 (66 + p) (by omega) (by omega), b6 (66 + p) (by omega) (by omega), c4 (66 + p) (by omega) (by simp; omega)]
        exact MF.2.2 p hp
      · rw [b8 (75 + j) (by omega) (by omega), b6 (75 + j) (by omega) (by omega), c4 (75 + j) (by omega) (by simp; omega)]
      · rw [g8 17 (by decide) (by decide) (by decide) (by decide) (by decide), g6 17 (by decide) (by decide)]
    have XM8 : XM I8 (dA D, 0, 0, 0) := by
      refine ⟨?_, ?_, ?_, ?_⟩
      · have := R6
        unfold RwR at this ⊢
        rw [b8 497 (by decide) (by omega)]
        exact this
      · rw [hI8]
        simp (disch := decide) only [up2_k, up2_s]
        rfl
      · rw [hI8]
        simp (disch := decide) only [up2_k, up2_s]
        rfl
      · rw [hI8, up2_s]
        rfl
    obtain ⟨I9, e9, a9, X9, -⟩ := m_goes (J := J1) S2 WF WL' hc30 12 0 (by decide) (by decide) mm 0 u.2.1 (dA D, 0, 0, 0) I8 wf (Nat.le_refl _) CM8 XM8 XW0
    rw [← hy] at X9
    have e9 : F_X12_goes 12 49 0 (nn u.2.1) (st w2 I8 J1) = some (.inl (), st w2 I9 J1) := e9
    have b9 : ∀ a, a ≠ 49 → a ∉ [414, 415, 497] → a ≠ 500 + (dH D).length → (a < 417 ∨ 496 < a) → I9 a = I4 a := fun a h1 h2 h3 h4 => by
      simp only [List.mem_cons, List.not_mem_nil, or_false, not_or] at h2
      rw [a9.1 a (by simp; omega), b8 a h1 h3, b6 a h1 h4]
    have d9 : ∀ a, a < 526 → a ∉ [0, 1, 15, 19, 20, 21, 22, 23, 29, 43, 44, 45, 46, 47, 49, 414, 415, 497] → a ≠ 500 + (dH D).length → (a < 417 ∨ 496 < a) → I9 a = I a := fun a h1 h2 h3 h4 => by
      simp only [List.mem_cons, List.not_mem_nil, or_false, not_or] at h2
      rw [b9 a (by omega) (by simp; omega) h3 h4, c4 a h1 (by simp; omega)]
    have g9 : ∀ j, 9 ≤ j → j ≠ 26 → j ≠ 32 → j ≠ 33 → j ≠ 36 → j ≠ 37 → I9 49 j = I 49 j := fun j h1 h2 h3 h4 h5 h6 => by
      rw [a9.2 j h4 h5 h6, g8 j h3 h5 h6 h4 (by omega), g6 j h1 h2]
    have k1 : I9 1 = I1 1 := by rw [b9 1 (by decide) (by decide) (by omega) (by decide), a4 1 (by decide), a3 1 (by decide), b2 1 (by decide)]
    have x0 : ∀ j, j ≠ 15 → I9 0 j = I 0 j := fun j hj => by
      rw [b9 0 (by decide) (by decide) (by omega) (by decide), hI4, up2_k hj, a3 0 (by decide), c2 0 (by decide) (by decide)]
    have b526 : ∀ a, 526 ≤ a → I9 a = I2 a := fun a h => by
      rw [b9 a (by omega) (by simp; omega) (by omega) (by omega), a4 a (by simp; omega), a3 a (by simp [KP]; omega)]
    have x49 : I9 49 32 = nn ((dH D).length + 1) := by
      rw [a9.2 32 (by decide) (by decide) (by decide), hI8]
      simp (disch := decide) only [up2_k, up2_s]
    have e101 : f_X12_work_b101 49 (st w2 I6 J1) = some (.inl (nn y.2.2.1), st w2 I9 J1) := by
      have i5 := i_49_5 (I := I6) (J := J1) S2
      rw [h65] at i5
      have i32 := i_49_32 (I := up2 I6 49 3 (-1)) (J := J1) S2
      rw [up2_k (by decide), g6 32 (by decide) (by decide), MH1] at i32
      have j32 := i_49_32 (I := I7) (J := J1) S2
      rw [a7 49 (by simp; omega), up2_k (by decide), g6 32 (by decide) (by decide), MH1] at j32
      have j26 := i_49_26 (I := I8) (J := J1) S2
      rw [g8 26 (by decide) (by decide) (by decide) (by decide) (by decide), h626] at j26
      have j37 := i_49_37 (I := I9) (J := J1) S2
      rw [X9.2.2.1] at j37
      rw [f_X12_work_b101, bd_st i5, if_pos rfl, bd_st (w_49_3 S2), bd_st (r_49_27 S2), bd_st (r_49_29 S2), bd_st i32, bd_st (g_499 S2 hfull), bd_st e7, bd_st j32, nn_succ, bd_st (w_49_32 S2), bd_st (w_49_36 S2), bd_st (w_49_37 S2), bd_st (w_49_33 S2), ← hI8, bd_st j26, bd_st ((v_49 S2).trans e9), bd_st j37]
      rfl
    -- the histories
    have tr : ∀ {l : List At} {p : Option Nat}, HiC w I p l → HiC w2 I9 p l := by
      intro l p h
      have key : ∀ {l : List At} {p : Option Nat}, HiC w I p l → HiC w I9 p l := by
        intro l
        induction l with
        | nil => exact fun h => h
        | cons A l ih =>
          rintro p ⟨a, e, h1, h2, h3, h4, h5, h6, h7, h8, h9, h10⟩
          have he5 := h7.1
          have L : ∀ b, 526 ≤ b → b < w.1 → I9 b = I b := fun b hb hlt => by rw [b526 b hb, IL b hlt]; exact aI b (by simp [KV]; omega)
          refine ⟨a, e, h1, h2, h3, h4, h5, h6, h7, ?_, ?_, ih h10⟩
          · unfold StR
            rw [L e (by omega) (by omega), L (e + 1) (by omega) (by omega), L (e + 2) (by omega) (by omega), L (e + 3) (by omega) (by omega), L (e + 4) (by omega) (by omega)]
            exact h8
          · rw [L a (by omega) (by omega)]
            exact h9
      exact ((key h).ext X1).ext X2
    obtain ⟨W3a, W3b, W3c, W3d, -, -, -⟩ := W3
    refine ⟨I9, ez.trans (e6.trans e101), ?_, S2, ?_, ?_, ((dF D, y.1, dL D, dW D), (0, dB D), (dA D :: dH D, dM D), (-1, nn y.2.2.2, dE D, dG D)), ⟨⟨?_, ?_, ?_, ?_, ⟨?_, fun c hc => absurd hc (Nat.not_lt_zero _)⟩, ?_, ⟨?_, ?_⟩, ?_, ?_⟩, ?_, ?_⟩, ⟨⟨?_, ?_, ?_, ?_, ⟨?_, fun c hc => absurd hc (Nat.not_lt_zero _)⟩, ⟨?_, ?_, ?_⟩, ⟨?_, ?_⟩, ?_, ?_⟩, ?_, ?_⟩, ?_⟩
    · rw [a9.2 0 (by decide) (by decide) (by decide), g8 0 (by decide) (by decide) (by decide) (by decide) (by decide), a6.2 0 (by decide) (by decide) (by decide) (by decide) (by decide)]
      exact z5
    · rw [ew2]
      show w1.1 ≤ _
      omega
    · rw [ew2]
      show w1.2.1 ≤ _
      omega
    · show FoC I9 (dF D)
      unfold FoC
      rw [d9 3 (by decide) (by decide) (by omega) (by decide), d9 4 (by decide) (by decide) (by omega) (by decide), d9 5 (by decide) (by decide) (by omega) (by decide), d9 6 (by decide) (by decide) (by omega) (by decide), d9 7 (by decide) (by decide) (by omega) (by decide)]
      exact HF
    · show StR I9 43 y.1
      have t := X3.1
      unfold StR at t ⊢
      have q : ∀ b, 43 ≤ b → b < 48 → I9 b = I3 b := fun b hb hb' => by
        rw [b9 b (by omega) (by simp; omega) (by omega) (by omega), a4 b (by simp; omega)]
      rw [q 43 (by decide) (by decide), q (43 + 1) (by decide) (by decide), q (43 + 2) (by decide) (by decide), q (43 + 3) (by decide) (by decide), q (43 + 4) (by decide) (by decide)]
      exact t
    · show LwC I9 (dL D)
      unfold LwC
      rw [d9 13 (by decide) (by decide) (by omega) (by decide), d9 14 (by decide) (by decide) (by omega) (by decide)]
      exact HL
    · show WoC I9 J1 (dF D) (dW D)
      unfold WoC
      rw [d9 24 (by decide) (by decide) (by omega) (by decide), d9 25 (by decide) (by decide) (by omega) (by decide), hJ, JL 24 (by omega)]
      exact HWo
    · rw [k1]; exact c1.2.1
    · have : w2.2.2.2 0 13 = some w.1 := by
        rw [ew2]
        show up2 w1.2.2.2 0 13 (some w.1) 0 13 = some w.1
        exact up2_s
      rw [this]
      exact (HK.ag b526).ext X2
    · rw [x0 14 (by decide)]; exact HI1
    · show ImC w2 I9 (dM D)
      have key : ∀ {l : List (At × List At)}, ImC w I l → ImC w2 I9 l := by
        intro l
        induction l with
        | nil => exact fun _ => trivial
        | cons q l ih =>
          intro h
          refine ⟨?_, ih h.2⟩
          have : w2.2.2.2 48 l.length = w.2.2.2 48 l.length := by
            rw [ew2]
            show up2 w1.2.2.2 0 13 (some w.1) 48 l.length = _
            rw [up2_a (by decide), rL 48 (by omega)]
          rw [this]
          exact tr h.1
      exact key HI2
    · rw [k1]; exact c1.2.2.1
    · rw [b9 0 (by decide) (by decide) (by omega) (by decide), hI4, up2_s]
      rfl
    · rw [x0 16 (by decide)]; exact hE
    · rw [x0 17 (by decide)]; exact hG
    · show FoM I9 (dF D)
      refine ⟨?_, ?_, fun p hp => ?_⟩
      · rw [d9 53 (by decide) (by decide) (by omega) (by decide)]; exact MF.1
      · rw [d9 53 (by decide) (by decide) (by omega) (by decide)]; exact MF.2.1
      · rw [d9 55 (by decide) (by decide) (by omega) (by decide), d9 (66 + p) (by omega) (by simp; omega) (by omega) (by omega)]
        exact MF.2.2 p hp
    · exact X9.1
    · exact ML.kp WL'.1 (fun j hj => d9 (75 + j) (by omega) (by simp; omega) (by omega) (by omega)) (g9 17 (by decide) (by decide) (by decide) (by decide) (by decide) (by decide))
    · show WoM I9 (dW D)
      refine ⟨by rw [g9 31 (by decide) (by decide) (by decide) (by decide) (by decide) (by decide)]; exact MW.1, fun j hj => ?_⟩
      have := WW.1
      rw [d9 (397 + j) (by omega) (by simp; omega) (by omega) (by omega)]
      exact MW.2 j hj
    · rw [a9.2 1 (by decide) (by decide) (by decide), g8 1 (by decide) (by decide) (by decide) (by decide) (by decide), a6.2 1 (by decide) (by decide) (by decide) (by decide) (by decide)]
      exact y5
    · exact x49
    · show RwR I9 (500 + (dH D).length) 0 (dA D)
      have t : RwR I7 (500 + (dH D).length) 0 (dA D) := by
        refine R6.row (fun c hc => ?_) h40
        rw [r7 c hc, up2_a (by decide)]
      unfold RwR at t ⊢
      rw [a9.1 (500 + (dH D).length) (by simp; omega), k8 (500 + (dH D).length) (by omega)]
      exact t
    · show HiM I9 (fun i => (500 + i, 0)) (dH D)
      exact HiM.ag (fun i hi => d9 (500 + i) (by omega) (by simp; omega) (by omega) (by omega)) MH2
    · rw [g9 34 (by decide) (by decide) (by decide) (by decide) (by decide) (by decide)]
      exact MI1
    · exact ImM.ag (fun i hi => d9 (517 + i) (by have hi : i < (dM D).length := hi; omega) (by simp; omega) (by omega) (by omega)) MI2
    · rw [a9.2 3 (by decide) (by decide) (by decide), hI8]
      simp (disch := decide) only [up2_k]
      rw [a7 49 (by simp; omega), up2_s]
      rfl
    · exact X9.2.2.2
    · rw [d9 51 (by decide) (by decide) (by omega) (by decide)]; exact mE
    · rw [d9 51 (by decide) (by decide) (by omega) (by decide)]; exact mG
    · refine ⟨WF, ⟨W3a, W3b, fun p hp => ?_, WHi⟩, by show (dH D).length + 1 ≤ 16; omega, WL', WW, ⟨Nat.zero_le _, fun c hc => absurd hc (Nat.not_lt_zero _)⟩, WM3, WMi⟩
      have := W3c p hp
      show tk y.1 p ≤ 200 * ((dH D).length + 1) ∧ sa y.1 p ≤ 200 * ((dH D).length + 1)
      omega
end KCALL
