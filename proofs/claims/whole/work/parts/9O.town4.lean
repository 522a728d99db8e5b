/-! PURE PART: a clause's body, the model -/
def endR (b : Nat → Nat) (n : Nat) : Er ⊕ (Nat × Fo) → Er ⊕ (Nat × Fo)
  | .inl r => .inl r
  | .inr u => match sgR b n 59 u.1 with
    | .inl r => .inl r
    | .inr t => .inr (t, u.2)
def KE : List Nat := [49, 52, 54, 57, 58, 59, 60, 61, 62, 63, 64]
def MB (I I' : Is) : Prop := Ag KE I I' ∧ ∀ j, j ≠ 4 → j ≠ 5 → j ≠ 6 → I' 49 j = I 49 j
theorem MB.refl (I : Is) : MB I I := ⟨Ag.refl _ _, fun _ _ _ _ => rfl⟩
theorem MB.trans {I I' I'' : Is} (h : MB I I') (h' : MB I' I'') : MB I I'' := ⟨h.1.trans h'.1, fun j a b c => (h'.2 j a b c).trans (h.2 j a b c)⟩
theorem MA.mb {I I' : Is} (h : MA I I') : MB I I' := ⟨h.1.mono (by decide), fun j a b c => h.2 j a b c⟩
theorem MB.up {I I' : Is} {a k : Nat} {v : Int32} (h : MB I I') (ha : a ∈ KE) (h9 : a ≠ 49) : MB I (up2 I' a k v) := ⟨h.1.up ha, fun j x y z => by
  rw [up2_a (Ne.symm h9)]
  exact h.2 j x y z⟩
def MRd (w : Wd) (J : Js) (I : Is) (b : Nat → Nat) (n : Nat) (z : Option ((Unit ⊕ (Nat × Nat)) × PS)) : Er ⊕ (Nat × Fo) → Prop
  | .inl r => ∃ I1, z = some (.inl (), st w I1 J) ∧ MB I I1 ∧ MTx b n r I1
  | .inr u => ∃ I1, z = some (.inl (), st w I1 J) ∧ MB I I1 ∧ MT b n u.1 I1 ∧ DM I1 u.2
section TOWN4
variable {w : Wd} {I : Is} {J : Js} {b : Nat → Nat} {n p : Nat} {G : Fo} {r : Er}
theorem DM.ma {I' : Is} (H : DM I G) (h8 : sz G ≤ 8) (h : Ag [49] I I') : DM I' G := by
  obtain ⟨a1, a2, a3, a4⟩ := H
  refine ⟨by rw [h 52 (by decide)]; exact a1, by rw [h 52 (by decide)]; exact a2, fun p hp => ?_, fun p hp => by rw [h 54 (by decide)]; exact a4 p hp⟩
  rw [h (57 + p) (by simp; omega)]
  exact a3 p hp
theorem MRd.pre {I0 : Is} {z : Option ((Unit ⊕ (Nat × Nat)) × PS)} {R : Er ⊕ (Nat × Fo)} (h : MB I0 I) (H : MRd w J I b n z R) : MRd w J I0 b n z R := by
  rcases R with r | u
  · obtain ⟨I1, e, a, c⟩ := H
    exact ⟨I1, e, h.trans a, c⟩
  · obtain ⟨I1, e, a, c⟩ := H
    exact ⟨I1, e, h.trans a, c⟩
theorem m_245I (S : Sw w) (X : MTx b n r I) : MRd w J I b n (f_X12_clause_b245 49 (st w I J)) (.inl r) := by
  have h5 : ¬ I 49 5 = 0 := by rw [X.2.1]; exact X.2.2.1
  refine ⟨I, ?_, MB.refl I, X⟩
  rw [f_X12_clause_b245, bd_st ((v_49 S).trans (m_signF S h5 59))]
  rfl
theorem m_245O (S : Sw w) (W : TxW b n) (WG : FoW G) (C : MT b n p I) (D : DM I G) : MRd w J I b n (f_X12_clause_b245 49 (st w I J)) (endR b n (.inr (p, G))) := by
  show MRd w J I b n _ (match sgR b n 59 p with
    | .inl r => .inl r
    | .inr t => .inr (t, G))
  cases h : sgR b n 59 p with
  | inl r =>
    obtain ⟨I1, e1, a1, c1⟩ := m_sgI (J := J) S W C (by decide) h
    have e1 : f_X12_sign 49 59 _ = _ := e1
    refine ⟨I1, ?_, a1.mb, c1⟩
    rw [f_X12_clause_b245, bd_st ((v_49 S).trans e1)]
    rfl
  | inr t =>
    obtain ⟨I1, e1, a1, c1⟩ := m_sgO (J := J) S W C (by decide) h
    have e1 : f_X12_sign 49 59 _ = _ := e1
    refine ⟨I1, ?_, a1.mb, c1, D.ma WG.1 a1.1⟩
    rw [f_X12_clause_b245, bd_st ((v_49 S).trans e1)]
    rfl
theorem m_likR (S : Sw w) (W : TxW b n) (WG : FoW G) (C : MT b n p I) (D : DM I G) : MRd w J I b n ((bd (cv 12 49 (f_X12_number 49 0 6)) fun v13 => bd (gI 12 5 49) fun v14 => if (v14 = 0 : Prop) then (bd (gR 12 11 49) fun r15 => bd (as_ r15 1 v13) fun _ => f_X12_clause_b245 49) else f_X12_clause_b245 49) (st w I J)) (endR b n (liR b n p G)) := by
  have six : (6 : Int32) = nn 7 - 1 := by decide
  unfold liR
  cases h : nuR b n 7 p with
  | inl r =>
    obtain ⟨I1, e1, a1, c1⟩ := m_nuI (J := J) S W C (by decide) h
    rw [← six] at e1
    have h5 : ¬ I1 49 5 = 0 := by rw [c1.2.1]; exact c1.2.2.1
    rw [bd_st ((v_49 S).trans e1), bd_st (i_49_5 S), if_neg h5]
    exact (m_245I S c1).pre a1.mb
  | inr v =>
    obtain ⟨I1, e1, a1, c1, b1⟩ := m_nuO (J := J) S W C (by decide) h
    rw [← six] at e1
    have D1 := D.ma WG.1 a1.1
    rw [bd_st ((v_49 S).trans e1), bd_st (i_49_5 S), if_pos c1.2.1, bd_st (r_49_11 S), bd_st (s_52_1 S)]
    have WG' : FoW (fLik G v.1) := ⟨WG.1, (by omega : v.1 ≤ 6), WG.2.2⟩
    have D2 : DM (up2 I1 52 1 (nn v.1)) (fLik G v.1) := by
      refine ⟨by rw [up2_k (by decide)]; exact D1.1, up2_s, fun i hi => ?_, fun i hi => ?_⟩
      · have z8 := WG.1
        have hi : i < sz G := hi
        rw [up2_a (by omega), up2_a (by omega), up2_a (by omega)]
        exact D1.2.2.1 i hi
      · rw [up2_a (by decide)]
        exact D1.2.2.2 i hi
    exact (m_245O S W WG' (c1.ag ((Ag.refl [52] I1).up (by decide)) (by decide) (by decide)) D2).pre (a1.mb.up (by decide) (by decide))
theorem m_shyR (S : Sw w) (W : TxW b n) (WG : FoW G) (C : MT b n p I) (D : DM I G) : MRd w J I b n ((bd (gR 12 11 49) fun r16 => bd (al 0 r16 0) fun v17 => bd (cv 12 49 (f_X12_number 49 0 (v17 - (1 : Int32)))) fun v18 => bd (gR 12 11 49) fun r19 => bd (al 0 r19 0) fun v20 => bd (cv 12 49 (f_X12_number 49 0 (v20 - (1 : Int32)))) fun v21 => bd (gI 12 5 49) fun v22 => if (v22 = 0 : Prop) then (bd (gR 12 13 49) fun r23 => bd (al 0 r23 v18) fun v24 => bd (as_ r23 v18 (v24 ||| ((1 : Int32) <<< (v21 &&& 31)))) fun _ => f_X12_clause_b245 49) else f_X12_clause_b245 49) (st w I J)) (endR b n (shR b n p G)) := by
  have z8 := WG.1
  have i4 : ∀ {I' : Is}, DM I' G → al 0 52 0 (st w I' J) = some (.inl (nn (sz G)), st w I' J) := fun {I'} hh => by
    have := l_52_0 (I := I') (J := J) S
    rw [hh.1] at this
    exact this
  unfold shR
  cases h : nuR b n (sz G) p with
  | inl r =>
    obtain ⟨I1, e1, a1, c1⟩ := m_nuI (J := J) S W C (by omega) h
    have D1 := D.ma WG.1 a1.1
    have h5 : ¬ I1 49 5 = 0 := by rw [c1.2.1]; exact c1.2.2.1
    rw [bd_st (r_49_11 S), bd_st (i4 D), bd_st ((v_49 S).trans e1), bd_st (r_49_11 S), bd_st (i4 D1), bd_st ((v_49 S).trans (m_numF S h5 0 _)), bd_st (i_49_5 S), if_neg h5]
    exact (m_245I S c1).pre a1.mb
  | inr v =>
    obtain ⟨I1, e1, a1, c1, b1⟩ := m_nuO (J := J) S W C (by omega) h
    have D1 := D.ma WG.1 a1.1
    rw [bd_st (r_49_11 S), bd_st (i4 D), bd_st ((v_49 S).trans e1), bd_st (r_49_11 S), bd_st (i4 D1)]
    show MRd w J I b n _ (endR b n (match nuR b n (sz G) v.2 with
      | .inl r => .inl r
      | .inr u => .inr (u.2, fShy G v.1 u.1)))
    cases h2 : nuR b n (sz G) v.2 with
    | inl r =>
      obtain ⟨I2, e2, a2, c2⟩ := m_nuI (J := J) S W c1 (by omega) h2
      have h5 : ¬ I2 49 5 = 0 := by rw [c2.2.1]; exact c2.2.2.1
      rw [bd_st ((v_49 S).trans e2), bd_st (i_49_5 S), if_neg h5]
      exact (m_245I S c2).pre (a1.trans a2).mb
    | inr u =>
      obtain ⟨I2, e2, a2, c2, b2⟩ := m_nuO (J := J) S W c1 (by omega) h2
      have D2 := D1.ma WG.1 a2.1
      have l := l_54 (I := I2) (J := J) (k := v.1) S (by omega)
      rw [D2.2.2.2 v.1 (by omega), if_pos b1] at l
      obtain ⟨o1, o2⟩ := or_s (sy G v.1) (WG.2.2 v.1 b1).2.2.2 u.1 (by omega)
      rw [bd_st ((v_49 S).trans e2), bd_st (i_49_5 S), if_pos c2.2.1, bd_st (r_49_13 S), bd_st l, o1, bd_st (s_54 S (by omega))]
      have WG' : FoW (fShy G v.1 u.1) := ⟨WG.1, WG.2.1, fun i hi => ⟨(WG.2.2 i hi).1, (WG.2.2 i hi).2.1, (WG.2.2 i hi).2.2.1, by
        show (if i = v.1 then sy G v.1 ||| 2 ^ u.1 else sy G i) < 256
        split
        · exact o2
        · exact (WG.2.2 i hi).2.2.2⟩⟩
      have D3 : DM (up2 I2 54 v.1 (nn (sy G v.1 ||| 2 ^ u.1))) (fShy G v.1 u.1) := by
        refine ⟨by rw [up2_a (by decide)]; exact D2.1, by rw [up2_a (by decide)]; exact D2.2.1, fun i hi => ?_, fun i hi => ?_⟩
        · rw [up2_a (by omega), up2_a (by omega), up2_a (by omega)]
          exact D2.2.2.1 i hi
        · show _ = nn (if i < sz G then (if i = v.1 then sy G v.1 ||| 2 ^ u.1 else sy G i) else 0)
          by_cases e : i = v.1
          · rw [e, up2_s, if_pos b1, if_pos rfl]
          · rw [up2_k e, if_neg e]
            exact D2.2.2.2 i hi
      exact (m_245O S W WG' (c2.ag ((Ag.refl [54] I2).up (by decide)) (by decide) (by decide)) D3).pre ((a1.trans a2).mb.up (by decide) (by decide))
end TOWN4
