/-! PURE PART: a person's clause, the model -/
def pT4 : Mo Unit := bd (gR 12 11 49) fun r10 => bd (al 0 r10 0) fun v11 => bd (gI 12 5 49) fun v12 => if (v12 = 0 : Prop) then (f_X12_clause_b165 49 1 v11 0 r10) else f_X12_clause_b165 49 0 v11 0 r10
def pT3 (k : Nat) (x : Int32) : Mo Unit := bd (as_ (57 + k) 2 x) fun _ => pT4
def pT2 (k : Nat) (x : Int32) : Mo Unit := bd (as_ (57 + k) 1 x) fun _ => bd (cv 12 49 (f_X12_number 49 0 40)) fun v9 => pT3 k v9
def pT1 (k : Nat) (x : Int32) : Mo Unit := bd (as_ (57 + k) 0 x) fun _ => bd (cv 12 49 (f_X12_number 49 0 9)) fun v8 => pT2 k v8
theorem KE_in {k : Nat} (h : k < 8) : 57 + k ∈ KE := by
  unfold KE
  simp
  omega
section TOWN5
variable {w : Wd} {I : Is} {J : Js} {b : Nat → Nat} {n p k : Nat} {G : Fo} {r : Er}
theorem MTx.row {j : Nat} {v : Int32} (X : MTx b n r I) (hk : k < 8) : MTx b n r (up2 I (57 + k) j v) := X.ag (K := [57, 58, 59, 60, 61, 62, 63, 64]) ((Ag.refl _ I).up (by simp; omega)) (by decide) (by decide)
theorem MT.row {j : Nat} {v : Int32} (X : MT b n p I) (hk : k < 8) : MT b n p (up2 I (57 + k) j v) := X.ag (K := [57, 58, 59, 60, 61, 62, 63, 64]) ((Ag.refl _ I).up (by simp; omega)) (by decide) (by decide)
theorem MB.row {j : Nat} {v : Int32} (hk : k < 8) : MB I (up2 I (57 + k) j v) := (MB.refl I).up (KE_in hk) (by omega)
theorem m_p4X (S : Sw w) (X : MTx b n r I) : MRd w J I b n (pT4 (st w I J)) (.inl r) := by
  have h5 : ¬ I 49 5 = 0 := by rw [X.2.1]; exact X.2.2.1
  have X' : MTx b n r (up2 I 52 0 (I 52 0 + 0)) := X.ag ((Ag.refl [52] I).up (by decide)) (by decide) (by decide)
  rw [pT4, bd_st (r_49_11 S), bd_st (l_52_0 S), bd_st (i_49_5 S), if_neg h5, f_X12_clause_b165, bd_st (s_52_0 S)]
  exact (m_245I S X').pre ((MB.refl I).up (by decide) (by decide))
theorem m_p3X (S : Sw w) (X : MTx b n r I) (hk : k < 8) (x : Int32) : MRd w J I b n (pT3 k x (st w I J)) (.inl r) := by
  rw [pT3, bd_st (s_57_2 S hk)]
  exact (m_p4X S (X.row hk)).pre (MB.row hk)
theorem m_p2X (S : Sw w) (X : MTx b n r I) (hk : k < 8) (x : Int32) : MRd w J I b n (pT2 k x (st w I J)) (.inl r) := by
  have X' := X.row (k := k) (j := 1) (v := x) hk
  have h5 : ¬ up2 I (57 + k) 1 x 49 5 = 0 := by rw [X'.2.1]; exact X'.2.2.1
  rw [pT2, bd_st (s_57_1 S hk), bd_st ((v_49 S).trans (m_numF S h5 0 40))]
  exact (m_p3X S X' hk 0).pre (MB.row hk)
theorem m_p1X (S : Sw w) (X : MTx b n r I) (hk : k < 8) (x : Int32) : MRd w J I b n (pT1 k x (st w I J)) (.inl r) := by
  have X' := X.row (k := k) (j := 0) (v := x) hk
  have h5 : ¬ up2 I (57 + k) 0 x 49 5 = 0 := by rw [X'.2.1]; exact X'.2.2.1
  rw [pT1, bd_st (s_57_0 S hk), bd_st ((v_49 S).trans (m_numF S h5 0 9))]
  exact (m_p2X S X' hk 0).pre (MB.row hk)
theorem DM.row {j : Nat} {v : Int32} (H : DM I G) : DM (up2 I (57 + sz G) j v) G := by
  obtain ⟨a1, a2, a3, a4⟩ := H
  refine ⟨by rw [up2_a (by omega)]; exact a1, by rw [up2_a (by omega)]; exact a2, fun i hi => ?_, fun i hi => by rw [up2_a (by omega)]; exact a4 i hi⟩
  rw [up2_a (by omega), up2_a (by omega), up2_a (by omega)]
  exact a3 i hi
theorem m_perR (S : Sw w) (W : TxW b n) (WG : FoW G) (h8 : sz G < 8) (C : MT b n p I) (D : DM I G) : MRd w J I b n ((bd (cv 12 49 (f_X12_number 49 0 63)) fun v7 => pT1 (sz G) v7) (st w I J)) (endR b n (peR b n p G)) := by
  have q63 : (63 : Int32) = nn 64 - 1 := by decide
  have q9 : (9 : Int32) = nn 10 - 1 := by decide
  have q40 : (40 : Int32) = nn 41 - 1 := by decide
  unfold peR
  cases h : nuR b n 64 p with
  | inl r =>
    obtain ⟨I1, e1, a1, c1⟩ := m_nuI (J := J) S W C (by decide) h
    rw [← q63] at e1
    rw [bd_st ((v_49 S).trans e1)]
    exact (m_p1X S c1 h8 0).pre a1.mb
  | inr v =>
    obtain ⟨I1, e1, a1, c1, b1⟩ := m_nuO (J := J) S W C (by decide) h
    rw [← q63] at e1
    have D1 := (D.ma WG.1 a1.1).row (j := 0) (v := nn v.1)
    have C1 := c1.row (k := sz G) (j := 0) (v := nn v.1) h8
    have B1 : MB I (up2 I1 (57 + sz G) 0 (nn v.1)) := a1.mb.trans (MB.row h8)
    rw [bd_st ((v_49 S).trans e1), pT1, bd_st (s_57_0 S h8)]
    show MRd w J I b n _ (endR b n (match nuR b n 10 v.2 with
      | .inl r => .inl r
      | .inr u => match nuR b n 41 u.2 with
        | .inl r => .inl r
        | .inr x => .inr (x.2, fAdd G v.1 u.1 x.1)))
    cases h2 : nuR b n 10 v.2 with
    | inl r =>
      obtain ⟨I2, e2, a2, c2⟩ := m_nuI (J := J) S W C1 (by decide) h2
      rw [← q9] at e2
      rw [bd_st ((v_49 S).trans e2)]
      exact (m_p2X S c2 h8 0).pre (B1.trans a2.mb)
    | inr u =>
      obtain ⟨I2, e2, a2, c2, b2⟩ := m_nuO (J := J) S W C1 (by decide) h2
      rw [← q9] at e2
      have D2 := (D1.ma WG.1 a2.1).row (j := 1) (v := nn u.1)
      have C2 := c2.row (k := sz G) (j := 1) (v := nn u.1) h8
      have B2 : MB I (up2 I2 (57 + sz G) 1 (nn u.1)) := (B1.trans a2.mb).trans (MB.row h8)
      rw [bd_st ((v_49 S).trans e2), pT2, bd_st (s_57_1 S h8)]
      show MRd w J I b n _ (endR b n (match nuR b n 41 u.2 with
        | .inl r => .inl r
        | .inr x => .inr (x.2, fAdd G v.1 u.1 x.1)))
      cases h3 : nuR b n 41 u.2 with
      | inl r =>
        obtain ⟨I3, e3, a3, c3⟩ := m_nuI (J := J) S W C2 (by decide) h3
        rw [← q40] at e3
        rw [bd_st ((v_49 S).trans e3)]
        exact (m_p3X S c3 h8 0).pre (B2.trans a3.mb)
      | inr x =>
        obtain ⟨I3, e3, a3, c3, b3⟩ := m_nuO (J := J) S W C2 (by decide) h3
        rw [← q40] at e3
        have D3 := (D2.ma WG.1 a3.1).row (j := 2) (v := nn x.1)
        have C3 := c3.row (k := sz G) (j := 2) (v := nn x.1) h8
        have B3 : MB I (up2 I3 (57 + sz G) 2 (nn x.1)) := (B2.trans a3.mb).trans (MB.row h8)
        have n49 : (57 + sz G) ∉ [49] := by simp; omega
        have r0 : I3 (57 + sz G) 0 = nn v.1 := by rw [a3.1 _ n49, up2_k (by decide), a2.1 _ n49, up2_s]
        have r1 : I3 (57 + sz G) 1 = nn u.1 := by rw [a3.1 _ n49, up2_s]
        obtain ⟨I4, hI4⟩ : ∃ I4, I4 = up2 I3 (57 + sz G) 2 (nn x.1) := ⟨_, rfl⟩
        have y0 : I4 (57 + sz G) 0 = nn v.1 := by rw [hI4, up2_k (by decide)]; exact r0
        have y1 : I4 (57 + sz G) 1 = nn u.1 := by rw [hI4, up2_k (by decide)]; exact r1
        have y2 : I4 (57 + sz G) 2 = nn x.1 := by rw [hI4, up2_s]
        rw [bd_st ((v_49 S).trans e3), pT3, bd_st (s_57_2 S h8)]
        rw [← hI4] at D3 C3 B3 ⊢
        have l := l_52_0 (I := I4) (J := J) S
        rw [D3.1] at l
        rw [pT4, bd_st (r_49_11 S), bd_st l, bd_st (i_49_5 S), if_pos C3.2.1, f_X12_clause_b165, nn_succ, bd_st (s_52_0 S)]
        have WG' : FoW (fAdd G v.1 u.1 x.1) := ⟨h8, WG.2.1, fun i hi => by
          have hi : i < sz G + 1 := hi
          show (if i = sz G then v.1 else fa G i) < 64 ∧ (if i = sz G then u.1 else te G i) ≤ 9 ∧ (if i = sz G then x.1 else pr G i) ≤ 40 ∧ (if i = sz G then 0 else sy G i) < 256
          by_cases e : i = sz G
          · rw [if_pos e, if_pos e, if_pos e, if_pos e]
            omega
          · rw [if_neg e, if_neg e, if_neg e, if_neg e]
            exact WG.2.2 i (by omega)⟩
        have D4 : DM (up2 I4 52 0 (nn (sz G + 1))) (fAdd G v.1 u.1 x.1) := by
          refine ⟨up2_s, by rw [up2_k (by decide)]; exact D3.2.1, fun i hi => ?_, fun i hi => ?_⟩
          · have hi : i < sz G + 1 := hi
            show _ = nn (if i = sz G then v.1 else fa G i) ∧ _ = nn (if i = sz G then u.1 else te G i) ∧ _ = nn (if i = sz G then x.1 else pr G i)
            rw [up2_a (by omega), up2_a (by omega), up2_a (by omega)]
            by_cases e : i = sz G
            · rw [if_pos e, if_pos e, if_pos e, e]
              exact ⟨y0, y1, y2⟩
            · rw [if_neg e, if_neg e, if_neg e]
              exact D3.2.2.1 i (by omega)
          · show _ = nn (if i < sz G + 1 then (if i = sz G then 0 else sy G i) else 0)
            rw [up2_a (by decide), D3.2.2.2 i hi]
            congr 1
            by_cases e : i = sz G
            · rw [if_neg (by omega), if_pos (by omega), if_pos e]
            · by_cases e' : i < sz G
              · rw [if_pos e', if_pos (by omega), if_neg e]
              · rw [if_neg e', if_neg (by omega)]
        exact (m_245O S W WG' (C3.ag ((Ag.refl [52] I4).up (by decide)) (by decide) (by decide)) D4).pre (B3.up (by decide) (by decide))
end TOWN5
