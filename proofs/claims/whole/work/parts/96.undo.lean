/-! PURE PART: undo; pieces for calls that change what is kept -/
theorem HiW_tail {F : Fo} {A : At} {l : List At} (h : HiW F (A :: l)) : HiW F l := h.2.2.2
section UNDO
variable {w w' : Wd} {I I' : Is} {J J' : Js} {D : Dt} {k : Nat}
/-- a reference is written -/
def sR (w : Wd) (a j : Nat) (v : Option Nat) : Wd := (w.1, w.2.1, w.2.2.1, up2 w.2.2.2 a j v)
theorem pR_st {a c j : Nat} {ks : List Nat} {v : Option Nat} (ha : a < w.1) (hs : w.2.2.1 a = .inr (c, ks)) (hk : ks[j]? = some 2) : pf c j a (oV v) (st w I J) = some (.inl (), st (sR w a j v) I J) :=
  m_pfR (n := w.1) (q := w.2.1) (I := I) (J := J) (R := w.2.2.2) ha hs hk
theorem sR_Sw (S : Sw w) {a j : Nat} {v : Option Nat} (h : (a, j) ∉ rPairs) : Sw (sR w a j v) := ⟨S.1, S.2.1, fun p hp => by
  show up2 w.2.2.2 a j v p.1 p.2 = _
  have hne : ¬ (p.1 = a ∧ p.2 = j) := fun q => h (by rw [← q.1, ← q.2]; exact hp)
  unfold up2
  rw [if_neg hne]
  exact S.2.2 p hp⟩
theorem r13 : (0, 13) ∉ rPairs := by decide +kernel
theorem r48 : ∀ k, k < 3 → (48, k) ∉ rPairs := by decide +kernel
theorem sR_Ext {a j : Nat} {v : Option Nat} (ha : a < 526) : Ext w (sR w a j v) := ⟨Nat.le_refl _, fun b hb _ => ⟨rfl, by
  show up2 w.2.2.2 a j v b = _
  rw [up2_ra (by omega)]⟩⟩
theorem wH_st (S : Sw w) (v : Option Nat) : pf 11 13 0 (oV v) (st w I J) = some (.inl (), st (sR w 0 13 v) I J) := pR_st (c := 11) (ks := [2, 2, 2, 2, 2, 2, 2, 2, 2, 2, 2, 2, 2, 2, 0, 0, 0, 0]) (Nat.lt_of_lt_of_le (by decide) S.1) (S.2.1 0 (by decide)) rfl
theorem RoS_500 (S : Sw w) {i : Nat} (hi : i < 16) : RoS w (500 + i) := ⟨Nat.lt_of_lt_of_le (q_499 i hi).1 S.1, (S.2.1 _ (q_499 i hi).1).trans (q_499 i hi).2⟩
theorem g_undo (H : Inv k w I J) : CallI k w I J (f_X11_undo 0) (f_X12_undo 49) := by
  have Hs := H
  obtain ⟨S, n1, n2, D, HC, HM, W⟩ := H
  have Ws := W
  obtain ⟨⟨HF, HA, HL, HWo, HT, HH, ⟨HI1, HI2⟩, hP, hN⟩, hE, hG⟩ := HC
  obtain ⟨⟨MF, MA, ML, MW, MT, ⟨MH1, MH2⟩, ⟨MI1, MI2⟩, mP, mN⟩, mE, mG⟩ := HM
  obtain ⟨WF, WHi, W16, WL, WW, WT, WM3, WMi⟩ := W
  have h8 := WF.1
  cases hl : dH D with
  | nil =>
    rw [hl] at HH MH1
    refine CallG.ok Hs ⟨-1, I, ?_, Ag.refl _ _, fun J' => ⟨up2 I 49 0 0, ?_, AgM.refl _⟩⟩
    · rw [f_X11_undo, bd_st (n_0_13 S), show w.2.2.2 0 13 = none from HH]
      rfl
    · rw [f_X12_undo, bd_st (w_49_0 S), bd_st (i_49_32 S), up2_k (by decide), MH1, if_pos (show nn ([] : List At).length = 0 from rfl)]
      rfl
  | cons A0 l =>
    rw [hl] at HH MH1 MH2 W16 WHi
    obtain ⟨a, e, h1, h2, h3, h4, h5, h6, h7, hs8, h9, h10⟩ := HH
    have hl16 : l.length < 16 := W16
    have WA0 : AtW (dF D) A0 := WHi.2.2.2.1
    have h40 := WA0.1
    -- the class
    obtain ⟨I1, e1, a1, s1⟩ := c_copyFrom (J := J) (StS_43 S) h7 (by omega) hs8 h40
    have gN13 := n_0_13 (I := I) (J := J) S
    rw [h1] at gN13
    have gN13' := n_0_13 (I := I1) (J := J) S
    rw [h1] at gN13'
    have gS : gR 3 0 a (st w I J) = some (.inl e, st w I J) := m_gR h3 h4 rfl h5
    have gB' : gN 3 1 a (st w I1 J) = some (.inl (w.2.2.2 a 1), st w I1 J) := m_gN h3 h4 rfl
    have S1 : Sw (sR w 0 13 (w.2.2.2 a 1)) := sR_Sw S r13
    have X1 : Ext w (sR w 0 13 (w.2.2.2 a 1)) := sR_Ext (by decide)
    obtain ⟨I2, eI2⟩ : ∃ I2, I2 = up2 I1 0 15 0 := ⟨_, rfl⟩
    have a2 : Ag [0, 43, 44, 45, 46, 47] I I2 := by
      rw [eI2]
      exact (a1.mono (by decide)).up (by decide)
    have HH2 : HiC (sR w 0 13 (w.2.2.2 a 1)) I2 ((sR w 0 13 (w.2.2.2 a 1)).2.2.2 0 13) l := by
      show HiC _ I2 (up2 w.2.2.2 0 13 (w.2.2.2 a 1) 0 13) l
      rw [up2_s]
      exact (h10.ag fun b hb => a2 b (by simp; omega)).ext X1
    have eW := c_works (J := J) S1 HH2
    have eC : f_X11_undo 0 (st w I J) = some (.inl (nn l.length), st (sR w 0 13 (w.2.2.2 a 1)) I2 J) := by
      rw [f_X11_undo, bd_st gN13]
      show bd (gR 11 11 0) _ (st w I J) = _
      rw [bd_st (r_0_11 S), bd_st gN13, show oR (some a) = pu a from rfl, bd_pu, bd_st gS, bd_st ((v_43 S).trans e1), bd_st gN13', show oR (some a) = pu a from rfl, bd_pu, bd_st gB', bd_st (wH_st S _), bd_st (w_0_15 S1), ← eI2, bd_st ((v_0 S1).trans eW)]
      rfl
    refine ⟨_, _, _, _, eC, fun J' hJ => ?_⟩
    -- the model
    obtain ⟨I3, eI3⟩ : ∃ I3, I3 = up2 (up2 I2 49 0 0) 49 32 (nn l.length) := ⟨_, rfl⟩
    have a3 : Ag [49] I2 I3 := by rw [eI3]; exact ((Ag.refl _ _).up (by decide)).up (by decide)
    have R3 : RwR I3 (500 + l.length) 0 A0 := (MH2.1.ag a2 (by simp; omega)).ag a3 (by simp; omega)
    obtain ⟨I4, e4, a4, r4⟩ := m_copies (I := I3) (J := J') (RoS_500 S1 hl16) (RoS_497 S1) (by omega)
    have R4 : RwR I4 497 0 A0 := R3.row r4 h40
    obtain ⟨I5, eI5⟩ : ∃ I5, I5 = up2 I4 49 33 0 := ⟨_, rfl⟩
    have a5 : Ag [0, 43, 44, 45, 46, 47, 49, 497] I I5 := by
      rw [eI5]
      exact ((((a2.mono (by decide)).trans (a3.mono (by decide))).trans (a4.mono (by decide))).up (by decide))
    have f5 : ∀ j, j ≠ 0 → j ≠ 32 → j ≠ 33 → I5 49 j = I 49 j := fun j j1 j2 j3 => by
      rw [eI5, up2_k j3, a4.at j (by decide), eI3, up2_k j2, up2_k j1, a2.at j (by decide)]
    have f32 : I5 49 32 = nn l.length := by rw [eI5, up2_k (by decide), a4.at 32 (by decide), eI3, up2_s]
    have f33 : I5 49 33 = 0 := by rw [eI5, up2_s]
    have f0 : I5 49 0 = 0 := by rw [eI5, up2_k (by decide), a4.at 0 (by decide), eI3, up2_k (by decide), up2_s]
    refine ⟨I5, ?_, f0, S1, ?_, ?_, ((dF D, A0, dL D, dW D), D.2.1, (l, dM D), (dP D, 0, dE D, dG D)), ⟨⟨?_, ?_, ?_, ?_, ?_, ?_, ⟨?_, ?_⟩, ?_, ?_⟩, ?_, ?_⟩, ⟨⟨?_, ?_, ?_, ?_, ?_, ⟨?_, ?_⟩, ⟨?_, ?_⟩, ?_, ?_⟩, ?_, ?_⟩, ?_⟩
    · have hne : ¬ nn (l.length + 1) = 0 := by rw [show (0 : Int32) = nn 0 from rfl, nn_eq (by omega) (by omega)]; omega
      have i32 := i_49_32 (I := up2 I2 49 0 0) (J := J') S1
      rw [up2_k (by decide), a2.at 32 (by decide), MH1] at i32
      have i32 : gI 12 32 49 (st (sR w 0 13 (w.2.2.2 a 1)) (up2 I2 49 0 0) J') = some (.inl (nn (l.length + 1)), _) := i32
      have j32 := i_49_32 (I := I3) (J := J') S1
      rw [eI3, up2_s, ← eI3] at j32
      have k32 := i_49_32 (I := I5) (J := J') S1
      rw [f32] at k32
      rw [f_X12_undo, bd_st (w_49_0 S1), bd_st i32, if_neg hne, bd_st i32, nn_pred (by omega), Nat.add_sub_cancel, bd_st (w_49_32 S1), ← eI3, bd_st (r_49_29 S1), bd_st j32, bd_st (g_499 S1 hl16), bd_st (r_49_27 S1), bd_st e4, bd_st (w_49_33 S1), ← eI5, bd_st k32]
      rfl
    · show w.1 ≤ _
      omega
    · show w.2.1 ≤ _
      omega
    · have := HF
      unfold FoC at this ⊢
      rw [a5 3 (by decide), a5 4 (by decide), a5 5 (by decide), a5 6 (by decide), a5 7 (by decide)]
      exact this
    · have t : StR I2 43 A0 := by rw [eI2]; exact s1.ag ((Ag.refl [0] _).up (by decide)) (by decide)
      have t3 : Ag [49, 497] I2 I5 := by
        rw [eI5]
        exact ((a3.mono (by decide)).trans (a4.mono (by decide))).up (by decide)
      exact t.ag t3 (by decide)
    · exact HL.ag a5 (by decide) (by decide)
    · show WoC I5 J' (dF D) (dW D)
      unfold WoC
      rw [a5 24 (by decide), a5 25 (by decide), hJ]
      exact HWo
    · rw [a5 1 (by decide), a5 2 (by decide)]
      exact HT
    · refine HH2.ag fun b hb => ?_
      rw [a5 b (by simp; omega), a2 b (by simp; omega)]
    · show I5 0 14 = nn (dM D).length
      have : I5 0 14 = I2 0 14 := by
        rw [eI5, up2_a (by decide), a4.at 14 (by decide), a3.at 14 (by decide)]
      rw [this, eI2, up2_k (by decide), a1.at 14 (by decide)]
      exact HI1
    · refine (HI2.ag fun b hb => a5 b (by simp; omega)).ext X1 fun j => ?_
      show up2 w.2.2.2 0 13 (w.2.2.2 a 1) 48 j = _
      rw [up2_a (by decide)]
    · rw [a5 1 (by decide)]
      exact hP
    · show I5 0 15 = 0
      rw [eI5, up2_a (by decide), a4.at 15 (by decide), a3.at 15 (by decide), eI2, up2_s]
    · show I5 0 16 = dE D
      rw [eI5, up2_a (by decide), a4.at 16 (by decide), a3.at 16 (by decide), eI2, up2_k (by decide), a1.at 16 (by decide)]
      exact hE
    · show I5 0 17 = dG D
      rw [eI5, up2_a (by decide), a4.at 17 (by decide), a3.at 17 (by decide), eI2, up2_k (by decide), a1.at 17 (by decide)]
      exact hG
    · exact MF.ag h8 a5 (by decide)
    · show RwR I5 497 0 A0
      rw [eI5]
      exact R4.ag ((Ag.refl [49] _).up (by decide)) (by decide)
    · show LwM I5 (dL D)
      rcases ML with ⟨m1, m2⟩ | ⟨m1, m2⟩
      · refine Or.inl ⟨by rw [f5 17 (by decide) (by decide) (by decide)]; exact m1, fun j hj => ?_⟩
        have := WL.1
        rw [a5 (75 + j) (by simp; omega)]
        exact m2 j hj
      · exact Or.inr ⟨by rw [f5 17 (by decide) (by decide) (by decide)]; exact m1, m2⟩
    · show WoM I5 (dW D)
      refine ⟨by rw [f5 31 (by decide) (by decide) (by decide)]; exact MW.1, fun j hj => ?_⟩
      have := WW.1
      rw [a5 (397 + j) (by simp; omega)]
      exact MW.2 j hj
    · refine ⟨by rw [f5 1 (by decide) (by decide) (by decide)]; exact MT.1, ?_⟩
      rw [a5 50 (by decide)]
      exact MT.2
    · exact f32
    · exact HiM.ag (fun i hi => a5 (500 + i) (by simp; omega)) MH2.2
    · rw [f5 34 (by decide) (by decide) (by decide)]
      exact MI1
    · exact ImM.ag (fun i hi => a5 (517 + i) (by simp; omega)) MI2
    · rw [f5 3 (by decide) (by decide) (by decide)]
      exact mP
    · exact f33
    · rw [a5 51 (by decide)]
      exact mE
    · rw [a5 51 (by decide)]
      exact mG
    · refine ⟨WF, WHi.2.2.2, by show l.length ≤ 16; omega, WL, WW, WT, WM3, WMi⟩
end UNDO
