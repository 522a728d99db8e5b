/-! PURE PART: years by seeds, the model's side, and both in step -/
section YEARS2
variable {w : Wd} {I I' : Is} {J J' : Js} {F : Fo} {A : At} {L : Lw} {D : Dt}
def KZ : List Nat := [49, 414, 415, 498]
theorem m_yearTake (S : Sw w) (MF : FoM I F) (WF : FoW F) (MA : RwR I 498 0 A) (WA : AtW F A) (ML : LwM I L) (WL : LwW L) (h0 : 0 < sz F) (q x2 x4 : Int32) (hlt : ¬ x2 < x4) (N : Nat) : ∃ I1, f_X12_yearsBy_b29 (N + 1) 49 x2 q x4 (st w I J) = f_X12_yearsBy_b143 (f_X12_yearsBy_b29 N) 49 x2 q x4 (st w I1 J) ∧ AgM I I1 ∧ (I1 49 46, I1 49 47, I1 49 48) = ((psS F L q (I 49 46, I 49 47, I 49 48, A)).1, (psS F L q (I 49 46, I 49 47, I 49 48, A)).2.1, (psS F L q (I 49 46, I 49 47, I 49 48, A)).2.2.1) ∧ RwR I1 498 0 (psS F L q (I 49 46, I 49 47, I 49 48, A)).2.2.2 := by
  have h8 := WF.1
  have T := RoS_498 S
  obtain ⟨Ia, ea⟩ : ∃ Ia, Ia = up2 (up2 (up2 I 49 46 (nxS (I 49 46))) 49 46 (nxS (nxS (I 49 46)))) 49 46 (nxS (nxS (nxS (I 49 46)))) := ⟨_, rfl⟩
  have aa : AgM I Ia := by rw [ea]; exact (((AgM.refl _).up (by decide) (Or.inr (by decide))).up (by decide) (Or.inr (by decide))).up (by decide) (Or.inr (by decide))
  have ag0 : Ag [49] I Ia := by rw [ea]; exact (((Ag.refl _ _).up (by decide)).up (by decide)).up (by decide)
  have p2 : Ia 49 46 = nxS (nxS (nxS (I 49 46))) := by rw [ea]; exact up2_s
  have p3 : Ia 49 47 = I 49 47 := by rw [ea, up2_k (by decide), up2_k (by decide), up2_k (by decide)]
  have p4 : Ia 49 48 = I 49 48 := by rw [ea, up2_k (by decide), up2_k (by decide), up2_k (by decide)]
  have MFa := MF.ag h8 ag0 (by decide)
  have MAa := MA.ag ag0 (by decide)
  have MLa : LwM Ia L := by
    rcases ML with ⟨m1, m2⟩ | ⟨m1, m2⟩
    · refine Or.inl ⟨by rw [aa.2 17 (by decide)]; exact m1, fun k hk => ?_⟩
      have := WL.1
      rw [ag0 (75 + k) (by simp; omega)]
      exact m2 k hk
    · exact Or.inr ⟨by rw [aa.2 17 (by decide)]; exact m1, m2⟩
  have ha : psA F (I 49 46) < sz F := Nat.mod_lt _ h0
  have hb : psB F (I 49 46) < sz F := Nat.mod_lt _ h0
  have hh : psH (I 49 46) < 6 := Nat.mod_lt _ (by decide)
  obtain ⟨Ib, eb, ab, hb2⟩ := m_takes (J := J) S MFa h8 T (by decide) MAa WA MLa WL ha hb hh
  have hTe : tkA F L A (psA F (I 49 46)) (psB F (I 49 46)) (psH (I 49 46)) = psT F L (I 49 46, I 49 47, I 49 48, A) := rfl
  rw [hTe] at hb2
  have WT : AtW F (psT F L (I 49 46, I 49 47, I 49 48, A)) := tk_W WA L ha hb hh
  have b2 : Ib 49 46 = nxS (nxS (nxS (I 49 46))) := (ab.at 46 (by decide)).trans p2
  have b3 : Ib 49 47 = I 49 47 := (ab.at 47 (by decide)).trans p3
  have b4 : Ib 49 48 = I 49 48 := (ab.at 48 (by decide)).trans p4
  have amb : AgM I Ib := aa.trans (AgM.of ab (by decide) (by decide))
  obtain ⟨Ic, ec⟩ : ∃ Ic, Ic = up2 Ib 49 47 (if tkOK F A (psA F (I 49 46)) (psB F (I 49 46)) then I 49 47 else I 49 47 + 1) := ⟨_, rfl⟩
  have amc : AgM I Ic := by rw [ec]; exact amb.up (by decide) (Or.inr (by decide))
  have c2 : Ic 49 46 = nxS (nxS (nxS (I 49 46))) := by rw [ec, up2_k (by decide)]; exact b2
  have c3 : Ic 49 47 = if tkOK F A (psA F (I 49 46)) (psB F (I 49 46)) then I 49 47 else I 49 47 + 1 := by rw [ec]; exact up2_s
  have c4 : Ic 49 48 = I 49 48 := by rw [ec, up2_k (by decide)]; exact b4
  have MAc : RwR Ic 498 0 (psT F L (I 49 46, I 49 47, I 49 48, A)) := by
    rw [ec]
    exact hb2.ag ((Ag.refl [49] _).up (by decide)) (by decide)
  have d4 := m_draw (I := Ic) (J := J) (x := 16) (m := 16) S rfl (by decide) (by decide)
  rw [c2] at d4
  have a4 : AgM Ic (up2 Ic 49 46 (nxS (nxS (nxS (nxS (I 49 46)))))) := (AgM.refl _).up (by decide) (Or.inr (by decide))
  have MA4 : RwR (up2 Ic 49 46 (nxS (nxS (nxS (nxS (I 49 46)))))) 498 0 (psT F L (I 49 46, I 49 47, I 49 48, A)) := MAc.ag ((Ag.refl [49] _).up (by decide)) (by decide)
  have e1 : f_X12_yearsBy_b29 (N + 1) 49 x2 q x4 (st w I J) = (bd (cv 12 49 (f_X12_draw 49 16)) fun v3 => if (q ≤ v3 : Prop) then (f_X12_yearsBy_b143 (f_X12_yearsBy_b29 N) 49 x2 q x4) else bd (gI 12 48 49) fun v4 => bd (gR 12 28 49) fun r5 => bd (f_X12_burns r5 (nn (psH (I 49 46)))) fun v6 => if (v6 = 0 : Prop) then (f_X12_yearsBy_b139 (f_X12_yearsBy_b29 N) 49 x2 q x4 0 v4 49) else f_X12_yearsBy_b139 (f_X12_yearsBy_b29 N) 49 x2 q x4 1 v4 49) (st w Ic J) := by
    have d1 := m_draw (I := I) (J := J) (x := nn (sz F)) S rfl h0 (by omega)
    have d2 := m_draw (I := up2 I 49 46 (nxS (I 49 46))) (J := J) (x := nn (sz F)) S rfl h0 (by omega)
    have d3 := m_draw (I := up2 (up2 I 49 46 (nxS (I 49 46))) 49 46 (nxS (nxS (I 49 46)))) (J := J) (x := 6) (m := 6) S rfl (by decide) (by decide)
    simp only [up2_s] at d2 d3
    have z1 := l_53_0 (I := I) (J := J) S
    rw [fm_sz MF] at z1
    have z2 := l_53_0 (I := up2 I 49 46 (nxS (I 49 46))) (J := J) S
    rw [up2_a (by decide), fm_sz MF] at z2
    have hs : ¬ nn (sz F) ≤ 0 := by rw [show (0 : Int32) = nn 0 from rfl, nn_le (by omega) (by omega)]; omega
    rw [f_X12_yearsBy_b29, if_neg hlt, bd_st (r_49_12 S), bd_st z1, if_neg hs, bd_st (r_49_12 S), bd_st z1, bd_st ((v_49 S).trans d1), bd_st (r_49_12 S), bd_st z2, bd_st ((v_49 S).trans d2), bd_st ((v_49 S).trans d3)]
    rw [← ea, bd_st (i_49_47 S), p3, bd_st (r_49_28 S)]
    show bd (cv 12 49 (f_X12_takesOne 49 498 (nn (psA F (I 49 46))) (nn (psB F (I 49 46))) (nn (psH (I 49 46))))) _ (st w Ia J) = _
    rw [bd_st ((v_49 S).trans eb), ec]
    by_cases hk : tkOK F A (psA F (I 49 46)) (psB F (I 49 46))
    · rw [bI_t hk, if_neg (by decide), if_pos hk, f_X12_yearsBy_b103, bd_st (w_49_47 S), Int32.add_zero]
      rfl
    · rw [bI_f hk, if_pos rfl, if_neg hk, f_X12_yearsBy_b103, bd_st (w_49_47 S)]
      rfl
  rw [e1, bd_st ((v_49 S).trans d4)]
  have hv : nn (drN (nxS (nxS (nxS (nxS (I 49 46))))) % 16) = nn (psV (I 49 46)) := rfl
  rw [hv]
  by_cases hq : q ≤ nn (psV (I 49 46))
  · refine ⟨up2 Ic 49 46 (nxS (nxS (nxS (nxS (I 49 46))))), ?_, amc.trans a4, ?_, ?_⟩
    · rw [if_pos hq]
    · rw [up2_s, up2_k (by decide), up2_k (by decide), c3, c4]
      show (_, _, _) = (_, _, if q ≤ nn (psV (I 49 46)) then _ else _)
      rw [if_pos hq]
      rfl
    · show RwR _ 498 0 (if q ≤ nn (psV (I 49 46)) then _ else _)
      rw [if_pos hq]
      exact MA4
  · obtain ⟨Id, ed, ad, hd⟩ := m_burns (J := J) T MA4 WT hh
    have i48 := i_49_48 (I := up2 Ic 49 46 (nxS (nxS (nxS (nxS (I 49 46)))))) (J := J) S
    rw [up2_k (by decide), c4] at i48
    rw [if_neg hq, bd_st i48, bd_st (r_49_28 S), bd_st ed]
    have d2 : Id 49 46 = nxS (nxS (nxS (nxS (I 49 46)))) := by rw [ad.at 46 (by decide), up2_s]
    have d3 : Id 49 47 = if tkOK F A (psA F (I 49 46)) (psB F (I 49 46)) then I 49 47 else I 49 47 + 1 := by rw [ad.at 47 (by decide), up2_k (by decide)]; exact c3
    have agd : AgM I Id := (amc.trans a4).trans (AgM.of ad (by decide) (by decide))
    by_cases hbn : (bz (psT F L (I 49 46, I 49 47, I 49 48, A)) (psH (I 49 46)) (hg (psT F L (I 49 46, I 49 47, I 49 48, A)))).1 < hg (psT F L (I 49 46, I 49 47, I 49 48, A))
    · rw [bI_t hbn, if_neg (by decide), f_X12_yearsBy_b139, bd_st (w_49_48 S)]
      refine ⟨up2 Id 49 48 (I 49 48 + 1), rfl, agd.up (by decide) (Or.inr (by decide)), ?_, ?_⟩
      · rw [up2_s, up2_k (by decide), up2_k (by decide), d2, d3]
        show (_, _, _) = (_, _, if q ≤ nn (psV (I 49 46)) then _ else if _ then _ else _)
        rw [if_neg hq, if_pos hbn]
        rfl
      · show RwR _ 498 0 (if q ≤ nn (psV (I 49 46)) then _ else _)
        rw [if_neg hq]
        exact hd.ag ((Ag.refl [49] _).up (by decide)) (by decide)
    · rw [bI_f hbn, if_pos rfl, f_X12_yearsBy_b139, bd_st (w_49_48 S), Int32.add_zero]
      refine ⟨up2 Id 49 48 (I 49 48), rfl, agd.up (by decide) (Or.inr (by decide)), ?_, ?_⟩
      · rw [up2_s, up2_k (by decide), up2_k (by decide), d2, d3]
        show (_, _, _) = (_, _, if q ≤ nn (psV (I 49 46)) then _ else if _ then _ else _)
        rw [if_neg hq, if_neg hbn]
        rfl
      · show RwR _ 498 0 (if q ≤ nn (psV (I 49 46)) then _ else _)
        rw [if_neg hq]
        exact hd.ag ((Ag.refl [49] _).up (by decide)) (by decide)
theorem yr_W (WA : AtW F A) (h : yr A + 1 ≤ 400) : AtW F (yearA A) := ⟨WA.1, h, WA.2.2⟩
theorem rm4 {i : Nat} (hi : i < 1000) {σ : PS} : rm_ (nn i) 4 σ = some (.inl (nn (i % 4)), σ) := rm_nn (m := 4) (by omega) (by decide) (by decide)
/-- years pass in both -/
theorem yrs (S : Sw w) (W : WD D) {t : Nat} (ht : 1 ≤ t ∧ t < 97) (s q : Int32) : ∀ I I' J J', RC w I J D → RM I' D → ∃ A' I1 I2, f_X10_pass 37 43 s (nn t) q (st w I J) = some (.inl (), st w I1 J) ∧ f_X12_yearsBy 49 s (nn t) q (st w I' J') = some (.inl (), st w I2 J') ∧ Ag KC I I1 ∧ AgM I' I2 ∧ StR I1 38 A' ∧ RwR I2 498 0 A' ∧ AtW (dF D) A' ∧ I1 37 3 = I2 49 47 ∧ I1 37 4 = I2 49 48 := by
  intro I I' J J' HCs HMs
  have HC := HCs
  have HM := HMs
  obtain ⟨⟨HF, HA, HL, HW, HT, -⟩, -, -⟩ := HC
  obtain ⟨⟨MF, MA, ML, MW, MT, -⟩, -, -⟩ := HM
  have Ws := W
  obtain ⟨WF, ⟨WA, wy, WB, -⟩, -, WL, WW, -⟩ := W
  have h8 := WF.1
  have h40 := WA.1
  have T := StS_43 S
  have T8 := StS_38 S
  have U := RoS_497 S
  obtain ⟨Ic, ec, ac, hc⟩ := c_copyFrom (J := J) T8 T (by decide) HA h40
  obtain ⟨Im, em, am, hm⟩ := m_copies (I := I') (J := J') U (RoS_498 S) (by decide)
  have hm' : RwR Im 498 0 (dA D) := MA.row hm h40
  obtain ⟨Id, ed⟩ : ∃ Id, Id = up2 (up2 (up2 Ic 37 2 s) 37 3 0) 37 4 0 := ⟨_, rfl⟩
  obtain ⟨Ie, ee⟩ : ∃ Ie, Ie = up2 (up2 (up2 Im 49 46 s) 49 47 0) 49 48 0 := ⟨_, rfl⟩
  have ad : Ag KC I Id := by rw [ed]; exact (((ac.mono (by decide)).up (by decide)).up (by decide)).up (by decide)
  have ae : AgM I' Ie := by rw [ee]; exact (((AgM.of am (by decide) (by decide)).up (by decide) (Or.inr (by decide))).up (by decide) (Or.inr (by decide))).up (by decide) (Or.inr (by decide))
  have hAd : StR Id 38 (dA D) := by rw [ed]; exact hc.ag ((((Ag.refl [37] _).up (by decide)).up (by decide)).up (by decide)) (by decide)
  have hAe : RwR Ie 498 0 (dA D) := by rw [ee]; exact hm'.ag ((((Ag.refl [49] _).up (by decide)).up (by decide)).up (by decide)) (by decide)
  have v1 : (Id 37 2, Id 37 3, Id 37 4) = (s, 0, 0) := by rw [ed, up2_k (by decide), up2_k (by decide), up2_s, up2_k (by decide), up2_s, up2_s]
  have v2 : (Ie 49 46, Ie 49 47, Ie 49 48) = (s, 0, 0) := by rw [ee, up2_k (by decide), up2_k (by decide), up2_s, up2_k (by decide), up2_s, up2_s]
  have zc := i_3_4 (I := Id) (J := J) S
  rw [fc_sz (HCs.kc ad).1.1] at zc
  have q0 : (nn (sz (dF D)) = (0 : Int32)) = (sz (dF D) = 0) := nn_eq (b := 0) (by omega) (by omega)
  have e1 : f_X10_pass 37 43 s (nn t) q (st w I J) = (if (nn (sz (dF D)) = 0 : Prop) then (pu ()) else f_X10_pass_b40 NF 37 (nn t) q 1) (st w Id J) := by
    unfold f_X10_pass
    rw [bd_st (r_37_1 S), bd_st ((v_38 S).trans ec), bd_st (w_37_2 S), bd_st (w_37_3 S), bd_st (w_37_4 S), ← ed, bd_st (r_37_0 S), bd_st (r_28_0 S), bd_st zc]
  have e2 : f_X12_yearsBy 49 s (nn t) q (st w I' J') = f_X12_yearsBy_b29 NF 49 (nn t) q 1 (st w Ie J') := by
    unfold f_X12_yearsBy
    rw [bd_st (r_49_27 S), bd_st (r_49_28 S), bd_st em, bd_st (w_49_46 S), bd_st (w_49_47 S), bd_st (w_49_48 S), ← ee]
  rw [e1, e2]
  have d3 : Id 37 3 = Ie 49 47 := by
    have h1 := congrArg (fun z => z.2.1) v1
    have h2 := congrArg (fun z => z.2.1) v2
    exact h1.trans h2.symm
  have d4 : Id 37 4 = Ie 49 48 := by
    have h1 := congrArg (fun z => z.2.2) v1
    have h2 := congrArg (fun z => z.2.2) v2
    exact h1.trans h2.symm
  have d2 : Id 37 2 = Ie 49 46 := by
    have h1 := congrArg (fun z => z.1) v1
    have h2 := congrArg (fun z => z.1) v2
    exact h1.trans h2.symm
  by_cases h0 : sz (dF D) = 0
  · refine ⟨dA D, Id, Ie, ?_, ?_, ad, ae, hAd, hAe, WA, d3, d4⟩
    · rw [if_pos (by rw [q0]; exact h0)]
      rfl
    · obtain ⟨M, hM⟩ := NF_s
      have zm := l_53_0 (I := Ie) (J := J') S
      rw [fm_sz (HMs.agm Ws ae).1.1, h0] at zm
      have hn : ¬ nn t < 1 := by rw [show (1 : Int32) = nn 1 from rfl, nn_lt (by omega) (by omega)]; omega
      rw [hM, f_X12_yearsBy_b29, if_neg hn, bd_st (r_49_12 S), bd_st zm, if_pos (by decide)]
      rfl
  · have hp : 0 < sz (dF D) := by omega
    rw [if_neg (by rw [q0]; exact h0)]
    refine loop2 (fun N i (I1 : Is) => f_X10_pass_b40 N 37 (nn t) q (nn i) (st w I1 J)) (fun N i (I2 : Is) => f_X12_yearsBy_b29 N 49 (nn t) q (nn i) (st w I2 J')) (t + 1) (fun i I1 I2 => Ag KC I I1 ∧ AgM I' I2 ∧ ∃ A, StR I1 38 A ∧ RwR I2 498 0 A ∧ AtW (dF D) A ∧ yr A ≤ 200 + i ∧ I1 37 2 = I2 49 46 ∧ I1 37 3 = I2 49 47 ∧ I1 37 4 = I2 49 48) (fun r r' => ∃ A' I1 I2, r = some (.inl (), st w I1 J) ∧ r' = some (.inl (), st w I2 J') ∧ Ag KC I I1 ∧ AgM I' I2 ∧ StR I1 38 A' ∧ RwR I2 498 0 A' ∧ AtW (dF D) A' ∧ I1 37 3 = I2 49 47 ∧ I1 37 4 = I2 49 48) ?_ ?_ t 1 Id Ie NF (by omega) (NF_gt (by omega)) ⟨ad, ae, dA D, hAd, hAe, WA, by omega, d2, d3, d4⟩
    · intro N i I1 I2 hi ⟨a1, a2, A, sA, rA, wA, yA, s2, s3, s4⟩
      left
      have RC1 := HCs.kc a1
      have RM1 := HMs.agm Ws a2
      have hlt : ¬ nn t < nn i := by rw [nn_lt (by omega) (by omega)]; omega
      obtain ⟨I3, e3, a3, g3, h3⟩ := c_passTake (J := J) S RC1.1.1 WF sA wA RC1.1.2.2.1 WL hp q
      obtain ⟨I4, e4, a4, g4, h4⟩ := m_yearTake (J := J') S RM1.1.1 WF rA wA RM1.1.2.2.1 WL hp q (nn t) (nn i) hlt N
      rw [s2, s3, s4] at g3 h3
      obtain ⟨pw, py⟩ := ps_W (z := (I2 49 46, I2 49 47, I2 49 48, A)) wA (dL D) q hp
      have gg := g3.trans g4.symm
      simp only [Prod.mk.injEq] at gg
      obtain ⟨g2, g3', g4'⟩ := gg
      have rmc := rm4 (i := i) (by omega) (σ := st w I3 J)
      have rmm := rm4 (i := i) (by omega) (σ := st w I4 J')
      have z4 : (nn (i % 4) = (0 : Int32)) = (i % 4 = 0) := nn_eq (b := 0) (by omega) (by omega)
      have py' : yr (psS (dF D) (dL D) q (I2 49 46, I2 49 47, I2 49 48, A)).2.2.2 = yr A := py
      by_cases h4' : i % 4 = 0
      · obtain ⟨I5, e5, a5, h5⟩ := c_turnYear (J := J) T8 h3
        obtain ⟨I6, e6, a6, h6⟩ := m_yearEnds (J := J') (RoS_498 S) h4
        refine ⟨I5, I6, ?_, ?_, a1.trans ((a3.mono (by decide)).trans (a5.mono (by decide))), a2.trans (a4.trans (AgM.of a6 (by decide) (by decide))), _, h5, h6, yr_W pw (by omega), by show yr (psS (dF D) (dL D) q (I2 49 46, I2 49 47, I2 49 48, A)).2.2.2 + 1 ≤ _; omega, ?_, ?_, ?_⟩
        · show f_X10_pass_b40 (N + 1) 37 (nn t) q (nn i) (st w I1 J) = _
          rw [f_X10_pass_b40, if_neg hlt, bd_st ((v_37 S).trans e3), bd_st rmc, if_pos (by rw [z4]; exact h4'), bd_st (r_37_1 S), bd_st ((v_38 S).trans e5), f_X10_pass_b66, nn_succ]
        · show f_X12_yearsBy_b29 (N + 1) 49 (nn t) q (nn i) (st w I2 J') = _
          rw [e4, f_X12_yearsBy_b143, bd_st rmm, if_pos (by rw [z4]; exact h4'), bd_st (r_49_28 S), bd_st e6, f_X12_yearsBy_b157, nn_succ]
        · rw [a5.at 2 (by decide), a6.at 46 (by decide)]; exact g2
        · rw [a5.at 3 (by decide), a6.at 47 (by decide)]; exact g3'
        · rw [a5.at 4 (by decide), a6.at 48 (by decide)]; exact g4'
      · refine ⟨I3, I4, ?_, ?_, a1.trans (a3.mono (by decide)), a2.trans a4, _, h3, h4, pw, by omega, g2, g3', g4'⟩
        · show f_X10_pass_b40 (N + 1) 37 (nn t) q (nn i) (st w I1 J) = _
          rw [f_X10_pass_b40, if_neg hlt, bd_st ((v_37 S).trans e3), bd_st rmc, if_neg (by rw [z4]; exact h4'), f_X10_pass_b66, nn_succ]
        · show f_X12_yearsBy_b29 (N + 1) 49 (nn t) q (nn i) (st w I2 J') = _
          rw [e4, f_X12_yearsBy_b143, bd_st rmm, if_neg (by rw [z4]; exact h4'), f_X12_yearsBy_b157, nn_succ]
    · intro N I1 I2 ⟨a1, a2, A, sA, rA, wA, yA, s2, s3, s4⟩
      have hlt : nn t < nn (t + 1) := by rw [nn_lt (by omega) (by omega)]; omega
      refine ⟨A, I1, I2, ?_, ?_, a1, a2, sA, rA, wA, s3, s4⟩
      · show f_X10_pass_b40 (N + 1) 37 (nn t) q (nn (t + 1)) (st w I1 J) = _
        rw [f_X10_pass_b40, if_pos hlt]
        rfl
      · show f_X12_yearsBy_b29 (N + 1) 49 (nn t) q (nn (t + 1)) (st w I2 J') = _
        rw [f_X12_yearsBy_b29, if_pos hlt]
        rfl
end YEARS2
