/-! PURE PART: years by seeds, in both -/
theorem shr16 (x : Int32) : (x >>> ((16 : Int32) &&& 31)) &&& 32767 = ((Int32.toUInt32 x >>> (Int32.toUInt32 16 &&& Int32.toUInt32 31)).toInt32) &&& 32767 := by
  refine Int32.toBitVec_inj.1 ?_
  have s : (((16 : Int32) &&& 31).toBitVec.smod 32).toNat = 16 := by decide
  rw [Int32.toBitVec_and, Int32.toBitVec_and, Int32.toBitVec_shiftRight, BitVec.sshiftRight_eq', s]
  have e : ((Int32.toUInt32 x >>> (Int32.toUInt32 16 &&& Int32.toUInt32 31)).toInt32).toBitVec = x.toBitVec >>> 16 := rfl
  rw [e]
  refine BitVec.eq_of_getLsbD_eq fun i hi => ?_
  rw [BitVec.getLsbD_and, BitVec.getLsbD_and, BitVec.getLsbD_sshiftRight, BitVec.getLsbD_ushiftRight]
  by_cases h : i < 15
  · have hd : (!decide (32 ≤ i)) = true := by simp; omega
    rw [if_pos (by omega), hd, Bool.true_and]
  · have : ∀ i, i < 32 → ¬ i < 15 → (32767 : Int32).toBitVec.getLsbD i = false := by decide
    rw [this i hi h, Bool.and_false, Bool.and_false]
def drN (x : Int32) : Nat := ((x >>> ((16 : Int32) &&& 31)) &&& 32767).toNatClampNeg
theorem drN_s (x : Int32) : (x >>> ((16 : Int32) &&& 31)) &&& 32767 = nn (drN x) ∧ drN x < 32768 := by
  obtain ⟨j, hj, e⟩ := pk_andE (x >>> ((16 : Int32) &&& 31)) (m := 32767) 15 rfl
  have hj' : j < 32768 := hj
  unfold drN
  rw [e, nn_cl (by omega)]
  exact ⟨rfl, hj'⟩
theorem rm_nn {d m : Nat} (hd : d < 2147483648) (h0 : 0 < m) (hm : m < 2147483648) {σ : PS} : rm_ (nn d) (nn m) σ = some (.inl (nn (d % m)), σ) := by
  unfold rm_
  have hne : ¬ nn m = 0 := by
    rw [show (0 : Int32) = nn 0 from rfl, nn_eq hm (by decide)]
    omega
  rw [if_neg hne, pk_rem (a := d) (d := m) hd h0 hm]
  rfl
def nxS (s : Int32) : Int32 := s * 1103515245 + 12345
theorem bz_1 (A : At) (h : Nat) : (burnA A h).1 = ((bz A h (hg A)).1, yr A) := rfl
section YEARS
variable {w : Wd} {I I' : Is} {J J' : Js} {F : Fo} {A : At} {L : Lw} {D : Dt}
theorem c_draw (S : Sw w) {m : Nat} {x : Int32} (hx : x = nn m) (h0 : 0 < m) (hm : m < 2147483648) : f_X10_draw 37 x (st w I J) = some (.inl (nn (drN (nxS (I 37 2)) % m)), st w (up2 I 37 2 (nxS (I 37 2))) J) := by
  subst hx
  have hp : (0 : Int32) < nn m := by rw [show (0 : Int32) = nn 0 from rfl, nn_lt (by decide) hm]; exact h0
  obtain ⟨d1, d2⟩ := drN_s (nxS (I 37 2))
  rw [shr16] at d1
  unfold f_X10_draw
  rw [bd_st (i_37_2 S), bd_st (w_37_2 S), bd_st (i_37_2 S), up2_s, if_pos hp]
  show bd (rm_ (((Int32.toUInt32 (nxS (I 37 2)) >>> (Int32.toUInt32 16 &&& Int32.toUInt32 31)).toInt32) &&& 32767) (nn m)) (fun v3 => pu v3) _ = _
  rw [d1, bd_st (rm_nn (by omega) h0 hm)]
  rfl
theorem m_draw (S : Sw w) {m : Nat} {x : Int32} (hx : x = nn m) (h0 : 0 < m) (hm : m < 2147483648) : f_X12_draw 49 x (st w I J) = some (.inl (nn (drN (nxS (I 49 46)) % m)), st w (up2 I 49 46 (nxS (I 49 46))) J) := by
  subst hx
  obtain ⟨d1, d2⟩ := drN_s (nxS (I 49 46))
  unfold f_X12_draw
  rw [bd_st (i_49_46 S), bd_st (w_49_46 S), bd_st (i_49_46 S), up2_s]
  show bd (rm_ ((nxS (I 49 46) >>> ((16 : Int32) &&& 31)) &&& 32767) (nn m)) (fun v3 => pu v3) _ = _
  rw [d1, bd_st (rm_nn (by omega) h0 hm)]
  rfl
abbrev Y4 : Type := Int32 × Int32 × Int32 × At
def psA (F : Fo) (s : Int32) : Nat := drN (nxS s) % sz F
def psB (F : Fo) (s : Int32) : Nat := drN (nxS (nxS s)) % sz F
def psH (s : Int32) : Nat := drN (nxS (nxS (nxS s))) % 6
def psV (s : Int32) : Nat := drN (nxS (nxS (nxS (nxS s)))) % 16
def psT (F : Fo) (L : Lw) (z : Y4) : At := tkA F L z.2.2.2 (psA F z.1) (psB F z.1) (psH z.1)
def psS (F : Fo) (L : Lw) (q : Int32) (z : Y4) : Y4 := (nxS (nxS (nxS (nxS z.1))), (if tkOK F z.2.2.2 (psA F z.1) (psB F z.1) then z.2.1 else z.2.1 + 1), (if q ≤ nn (psV z.1) then z.2.2.1 else if (bz (psT F L z) (psH z.1) (hg (psT F L z))).1 < hg (psT F L z) then z.2.2.1 + 1 else z.2.2.1), (if q ≤ nn (psV z.1) then psT F L z else burnA (psT F L z) (psH z.1)))
theorem tkA_yr (F : Fo) (L : Lw) (A : At) (a b h : Nat) : yr (tkA F L A a b h) = yr A := by
  unfold tkA
  split <;> rfl
theorem ps_W {z : Y4} (W : AtW F z.2.2.2) (L : Lw) (q : Int32) (h0 : 0 < sz F) : AtW F (psS F L q z).2.2.2 ∧ yr (psS F L q z).2.2.2 = yr z.2.2.2 := by
  have w1 : AtW F (psT F L z) := tk_W W L (Nat.mod_lt _ h0) (Nat.mod_lt _ h0) (Nat.mod_lt _ (by decide))
  have y1 : yr (psT F L z) = yr z.2.2.2 := tkA_yr _ _ _ _ _ _
  show AtW F (if q ≤ nn (psV z.1) then psT F L z else burnA (psT F L z) (psH z.1)) ∧ yr (if q ≤ nn (psV z.1) then psT F L z else burnA (psT F L z) (psH z.1)) = _
  split
  · exact ⟨w1, y1⟩
  · exact ⟨burn_W w1 _, y1⟩
def KY : List Nat := [15, 29, 37, 38, 39, 40, 41, 42]
theorem c_passTake (S : Sw w) (HF : FoC I F) (WF : FoW F) (HA : StR I 38 A) (WA : AtW F A) (HL : LwC I L) (WL : LwW L) (h0 : 0 < sz F) (q : Int32) : ∃ I1, f_X10_passTake 37 q (st w I J) = some (.inl (), st w I1 J) ∧ Ag KY I I1 ∧ (I1 37 2, I1 37 3, I1 37 4) = ((psS F L q (I 37 2, I 37 3, I 37 4, A)).1, (psS F L q (I 37 2, I 37 3, I 37 4, A)).2.1, (psS F L q (I 37 2, I 37 3, I 37 4, A)).2.2.1) ∧ StR I1 38 (psS F L q (I 37 2, I 37 3, I 37 4, A)).2.2.2 := by
  have h8 := WF.1
  have T := StS_38 S
  obtain ⟨Ia, ea⟩ : ∃ Ia, Ia = up2 (up2 (up2 I 37 2 (nxS (I 37 2))) 37 2 (nxS (nxS (I 37 2)))) 37 2 (nxS (nxS (nxS (I 37 2)))) := ⟨_, rfl⟩
  have aa : Ag [37] I Ia := by rw [ea]; exact (((Ag.refl _ _).up (by decide)).up (by decide)).up (by decide)
  have p2 : Ia 37 2 = nxS (nxS (nxS (I 37 2))) := by rw [ea]; exact up2_s
  have p3 : Ia 37 3 = I 37 3 := by rw [ea, up2_k (by decide), up2_k (by decide), up2_k (by decide)]
  have p4 : Ia 37 4 = I 37 4 := by rw [ea, up2_k (by decide), up2_k (by decide), up2_k (by decide)]
  have HFa := HF.ag aa (by decide)
  have HAa := HA.ag aa (by decide)
  have HLa := HL.ag aa (by decide) (by decide)
  have ha : psA F (I 37 2) < sz F := Nat.mod_lt _ h0
  have hb : psB F (I 37 2) < sz F := Nat.mod_lt _ h0
  have hh : psH (I 37 2) < 6 := Nat.mod_lt _ (by decide)
  obtain ⟨Ib, eb, ab, hb2⟩ := c_take (J := J) S HFa h8 T (by decide) HAa WA HLa WL ha hb hh
  have hTe : tkA F L A (psA F (I 37 2)) (psB F (I 37 2)) (psH (I 37 2)) = psT F L (I 37 2, I 37 3, I 37 4, A) := rfl
  rw [hTe] at hb2
  have WT : AtW F (psT F L (I 37 2, I 37 3, I 37 4, A)) := tk_W WA L ha hb hh
  have b2 : Ib 37 2 = nxS (nxS (nxS (I 37 2))) := (ab.at 2 (by decide)).trans p2
  have b3 : Ib 37 3 = I 37 3 := (ab.at 3 (by decide)).trans p3
  have b4 : Ib 37 4 = I 37 4 := (ab.at 4 (by decide)).trans p4
  -- the counter of what wasn't done
  obtain ⟨Ic, ec⟩ : ∃ Ic, Ic = if tkOK F A (psA F (I 37 2)) (psB F (I 37 2)) then Ib else up2 Ib 37 3 (I 37 3 + 1) := ⟨_, rfl⟩
  have ac : Ag KY I Ic := by
    have h1 : Ag KY I Ib := (aa.mono (by decide)).trans (ab.mono (by decide))
    rw [ec]
    split
    · exact h1
    · exact h1.up (by decide)
  have c2 : Ic 37 2 = nxS (nxS (nxS (I 37 2))) := by
    rw [ec]
    split
    · exact b2
    · rw [up2_k (by decide)]; exact b2
  have c3 : Ic 37 3 = if tkOK F A (psA F (I 37 2)) (psB F (I 37 2)) then I 37 3 else I 37 3 + 1 := by
    rw [ec]
    split
    · exact b3
    · exact up2_s
  have c4 : Ic 37 4 = I 37 4 := by
    rw [ec]
    split
    · exact b4
    · rw [up2_k (by decide)]; exact b4
  have HAc : StR Ic 38 (psT F L (I 37 2, I 37 3, I 37 4, A)) := by
    rw [ec]
    split
    · exact hb2
    · exact hb2.ag ((Ag.refl [37] _).up (by decide)) (by decide)
  have e1 : f_X10_passTake 37 q (st w I J) = f_X10_passTake_b66 37 q (nn (psH (I 37 2))) (st w Ic J) := by
    unfold f_X10_passTake
    have d1 := c_draw (I := I) (J := J) (x := nn (sz F)) S rfl h0 (by omega)
    have d2 := c_draw (I := up2 I 37 2 (nxS (I 37 2))) (J := J) (x := nn (sz F)) S rfl h0 (by omega)
    have d3 := c_draw (I := up2 (up2 I 37 2 (nxS (I 37 2))) 37 2 (nxS (nxS (I 37 2)))) (J := J) (x := 6) (m := 6) S rfl (by decide) (by decide)
    simp only [up2_s] at d2 d3
    have z1 := i_3_4 (I := I) (J := J) S
    rw [fc_sz HF] at z1
    have z2 := i_3_4 (I := up2 I 37 2 (nxS (I 37 2))) (J := J) S
    rw [up2_a (by decide), fc_sz HF] at z2
    rw [bd_st (r_37_0 S), bd_st (r_28_0 S), bd_st z1, bd_st ((v_37 S).trans d1), bd_st (r_37_0 S), bd_st (r_28_0 S), bd_st z2, bd_st ((v_37 S).trans d2), bd_st ((v_37 S).trans d3), bd_st (r_37_0 S), bd_st (r_37_1 S)]
    rw [← ea]
    show bd (cv 6 28 (f_X6_take 28 38 (nn (psA F (I 37 2))) (nn (psB F (I 37 2))) (nn (psH (I 37 2))))) _ (st w Ia J) = _
    rw [bd_st ((v_28 S).trans eb), ec]
    by_cases hk : tkOK F A (psA F (I 37 2)) (psB F (I 37 2))
    · rw [bI_t hk, if_neg (by decide), if_pos hk]
      rfl
    · rw [bI_f hk, if_pos rfl, if_neg hk, bd_st (i_37_3 S), b3, bd_st (w_37_3 S)]
      rfl
  rw [e1]
  have d4 := c_draw (I := Ic) (J := J) (x := 16) (m := 16) S rfl (by decide) (by decide)
  rw [c2] at d4
  unfold f_X10_passTake_b66
  rw [bd_st ((v_37 S).trans d4)]
  have a4 : Ag [37] Ic (up2 Ic 37 2 (nxS (nxS (nxS (nxS (I 37 2)))))) := (Ag.refl _ _).up (by decide)
  have HA4 := HAc.ag a4 (by decide)
  have hv : nn (drN (nxS (nxS (nxS (nxS (I 37 2))))) % 16) = nn (psV (I 37 2)) := rfl
  rw [hv]
  by_cases hq : q ≤ nn (psV (I 37 2))
  · refine ⟨up2 Ic 37 2 (nxS (nxS (nxS (nxS (I 37 2))))), ?_, ac.trans (a4.mono (by decide)), ?_, ?_⟩
    · rw [if_pos hq]; rfl
    · rw [up2_s, up2_k (by decide), up2_k (by decide), c3, c4]
      show (_, _, _) = (_, _, if q ≤ nn (psV (I 37 2)) then _ else _)
      rw [if_pos hq]
      rfl
    · show StR _ 38 (if q ≤ nn (psV (I 37 2)) then _ else _)
      rw [if_pos hq]
      exact HA4
  · obtain ⟨Id, ed, ad, hd⟩ := c_burn (J := J) T HA4 WT h8 hh
    rw [if_neg hq, bd_st (r_37_1 S), bd_st ((v_38 S).trans ed)]
    have d2 : Id 37 2 = nxS (nxS (nxS (nxS (I 37 2)))) := by rw [ad.at 2 (by decide), up2_s]
    have d3 : Id 37 3 = if tkOK F A (psA F (I 37 2)) (psB F (I 37 2)) then I 37 3 else I 37 3 + 1 := by rw [ad.at 3 (by decide), up2_k (by decide)]; exact c3
    have d4 : Id 37 4 = I 37 4 := by rw [ad.at 4 (by decide), up2_k (by decide)]; exact c4
    have agd : Ag KY I Id := (ac.trans (a4.mono (by decide))).trans (ad.mono (by decide))
    by_cases hbn : (bz (psT F L (I 37 2, I 37 3, I 37 4, A)) (psH (I 37 2)) (hg (psT F L (I 37 2, I 37 3, I 37 4, A)))).1 < hg (psT F L (I 37 2, I 37 3, I 37 4, A))
    · rw [bI_t hbn, if_neg (by decide), bd_st (i_37_4 S), d4, bd_st (w_37_4 S)]
      refine ⟨up2 Id 37 4 (I 37 4 + 1), rfl, agd.up (by decide), ?_, ?_⟩
      · rw [up2_s, up2_k (by decide), up2_k (by decide), d2, d3]
        show (_, _, _) = (_, _, if q ≤ nn (psV (I 37 2)) then _ else if _ then _ else _)
        rw [if_neg hq, if_pos hbn]
        rfl
      · show StR _ 38 (if q ≤ nn (psV (I 37 2)) then _ else _)
        rw [if_neg hq]
        exact hd.ag ((Ag.refl [37] _).up (by decide)) (by decide)
    · rw [bI_f hbn, if_pos rfl]
      refine ⟨Id, rfl, agd, ?_, ?_⟩
      · rw [d2, d3, d4]
        show (_, _, _) = (_, _, if q ≤ nn (psV (I 37 2)) then _ else if _ then _ else _)
        rw [if_neg hq, if_neg hbn]
        rfl
      · show StR _ 38 (if q ≤ nn (psV (I 37 2)) then _ else _)
        rw [if_neg hq]
        exact hd
end YEARS
