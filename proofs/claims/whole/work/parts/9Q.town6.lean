/-! PURE PART: a clause, the model -/
def MCd (w : Wd) (J : Js) (I : Is) (b : Nat → Nat) (n c : Nat) (z : Option ((Unit ⊕ (Nat × Nat)) × PS)) : Er ⊕ (Nat × Fo) → Prop
  | .inl r => ∃ I1, z = some (.inl (), st w I1 J) ∧ Ag KE I I1 ∧ (∀ j, j ≠ 4 → j ≠ 5 → j ≠ 6 → j ≠ 7 → I1 49 j = I 49 j) ∧ MTx b n r I1
  | .inr u => ∃ I1, z = some (.inl (), st w I1 J) ∧ Ag KE I I1 ∧ (∀ j, j ≠ 4 → j ≠ 5 → j ≠ 6 → j ≠ 7 → I1 49 j = I 49 j) ∧ MT b n u.1 I1 ∧ DM I1 u.2 ∧ I1 49 7 = nn (c + 1)
section TOWN6
variable {w : Wd} {I : Is} {J : Js} {b : Nat → Nat} {n p c : Nat} {G : Fo} {r : Er}
theorem m_b55X (S : Sw w) (X : MTx b n r I) (x : Int32) : f_X12_clause_b55 49 x (st w I J) = some (.inl (), st w I J) := by
  have h5 : ¬ I 49 5 = 0 := by rw [X.2.1]; exact X.2.2.1
  rw [f_X12_clause_b55, bd_st (i_49_5 S), if_neg h5]
  rfl
theorem m_clauR (S : Sw w) (W : TxW b n) (WG : FoW G) (hp : p ≤ n) (hc : c ≤ 60) (C : MT b n p I) (D : DM I G) (h7 : I 49 7 = nn c) : MCd w J I b n c (f_X12_clause 49 (st w I J)) (clR b n c p G) := by
  have z8 := WG.1
  obtain ⟨I1, e1, a1, c1, p1⟩ := m_kindR (J := J) S W hp C
  have D1 := D.ma WG.1 a1.1
  have k7 : I1 49 7 = nn c := (a1.2 7 (by decide) (by decide) (by decide)).trans h7
  have i4 := i_49_4 (I := I1) (J := J) S
  rw [p1] at i4
  have i7 := i_49_7 (I := I1) (J := J) S
  rw [k7] at i7
  have l52 := l_52_0 (I := I1) (J := J) S
  rw [D1.1] at l52
  -- a fault at the word
  have flt : ∀ (x y : Int32) (hx : ¬ x = 0), ∃ I2, (bd (gI 12 4 49) fun v30 => bd (cv 12 49 (f_X12_wrong 49 x v30)) fun _ => f_X12_clause_b55 49 y) (st w I1 J) = some (.inl (), st w I2 J) ∧ MA I I2 ∧ MTx b n (x, sk b n p) I2 := fun x y hx => by
    obtain ⟨I2, e2, a2, c2⟩ := m_wrR (J := J) S c1 hx (sk b n p)
    refine ⟨I2, ?_, a1.trans a2, c2⟩
    rw [bd_st i4, bd_st ((v_49 S).trans e2)]
    exact m_b55X S c2 y
  unfold clR
  cases h : wdR b n 0 [6, 10, 15] p with
  | inl r0 =>
    rw [h] at e1
    obtain ⟨I2, e2, a2, c2⟩ := flt 1 (-1) (by decide)
    have hr0 : r0 = (1, sk b n p) := by
      unfold wdR at h
      cases q : wIx 0 b (sk b n p) (wE b n (sk b n p)) 0 0 [6, 10, 15] with
      | some y => rw [q] at h; cases h
      | none => rw [q] at h; cases h; rfl
    refine ⟨I2, ?_, a2.mb.1, fun j x y z _ => a2.2 j x y z, by rw [hr0]; exact c2⟩
    rw [f_X12_clause, bd_st ((v_49 S).trans e1)]
    exact e2
  | inr v =>
    rw [h] at e1
    have hv : v.1 < 3 := wdR_b h
    have hw : v.2 = wE b n (sk b n p) := by
      unfold wdR at h
      cases q : wIx 0 b (sk b n p) (wE b n (sk b n p)) 0 0 [6, 10, 15] with
      | none => rw [q] at h; cases h
      | some y => rw [q] at h; cases h; rfl
    obtain ⟨kk, hkk⟩ : ∃ kk, kk = kdM (.inr v) := ⟨_, rfl⟩
    rw [← hkk] at e1
    have hk3 : v.1 = 0 ∧ kk = 0 ∨ v.1 = 1 ∧ kk = 2 ∨ v.1 = 2 ∧ kk = 1 := by
      rw [hkk]
      unfold kdM
      rcases (show v.1 = 0 ∨ v.1 = 1 ∨ v.1 = 2 by omega) with q | q | q
      · exact Or.inl ⟨q, if_pos q⟩
      · exact Or.inr (Or.inl ⟨q, by show (if v.1 = 0 then (0 : Int32) else if v.1 = 1 then 2 else 1) = 2; rw [if_neg (by omega), if_pos q]⟩)
      · exact Or.inr (Or.inr ⟨q, by show (if v.1 = 0 then (0 : Int32) else if v.1 = 1 then 2 else 1) = 1; rw [if_neg (by omega), if_neg (by omega)]⟩)
    have hkn : ¬ kk = -1 := by rcases hk3 with q | q | q <;> (rw [q.2]; decide)
    have hk0 : (kk = 0) = (v.1 = 0) := by
      rcases hk3 with q | q | q
      · rw [q.1, q.2]
        exact propext ⟨fun _ => rfl, fun _ => rfl⟩
      · rw [q.1, q.2]; decide
      · rw [q.1, q.2]; decide
    have q60 : (nn c = (60 : Int32)) = (c = 60) := nn_eq (b := 60) (by omega) (by omega)
    have q8 : (nn (sz G) = (8 : Int32)) = (sz G = 8) := nn_eq (b := 8) (by omega) (by omega)
    have e0 : f_X12_clause 49 (st w I J) = (if (nn c = 60 : Prop) then (f_X12_clause_b46 49 kk) else if (kk = 0 : Prop) then (bd (gR 12 11 49) fun r28 => bd (al 0 r28 0) fun v29 => if (v29 = 8 : Prop) then (f_X12_clause_b46 49 kk) else f_X12_clause_b55 49 kk) else f_X12_clause_b55 49 kk) (st w I1 J) := by
      rw [f_X12_clause, bd_st ((v_49 S).trans e1), if_neg hkn, bd_st i7]
    show MCd w J I b n c _ (if 60 ≤ c ∨ v.1 = 0 ∧ 8 ≤ sz G then .inl (3, sk b n p) else endR b n (boR b n v.1 v.2 G))
    by_cases hx : 60 ≤ c ∨ v.1 = 0 ∧ 8 ≤ sz G
    · rw [if_pos hx]
      obtain ⟨I2, e2, a2, c2⟩ := flt 3 kk (by decide)
      refine ⟨I2, ?_, a2.mb.1, fun j x y z _ => a2.2 j x y z, c2⟩
      rw [e0]
      by_cases h6 : c = 60
      · rw [if_pos (by rw [q60]; exact h6)]
        exact e2
      · have hx := hx.resolve_left (by omega)
        rw [if_neg (by rw [q60]; exact h6), if_pos (by rw [hk0]; exact hx.1), bd_st (r_49_11 S), bd_st l52, if_pos (by rw [q8]; omega)]
        exact e2
    rw [if_neg hx]
    have e55 : f_X12_clause 49 (st w I J) = f_X12_clause_b55 49 kk (st w I1 J) := by
      rw [e0, if_neg (by rw [q60]; omega)]
      by_cases hv0 : v.1 = 0
      · rw [if_pos (by rw [hk0]; exact hv0), bd_st (r_49_11 S), bd_st l52, if_neg (by rw [q8]; omega)]
      · rw [if_neg (by rw [hk0]; exact hv0)]
    obtain ⟨I2, e2, a2, c2⟩ := m_skW (J := J) S W c1 p1 hp
    rw [← hw] at c2
    have j7 := i_49_7 (I := I2) (J := J) S
    rw [a2.2 7 (by decide) (by decide) (by decide), k7] at j7
    obtain ⟨I3, hI3⟩ : ∃ I3, I3 = up2 I2 49 7 (nn (c + 1)) := ⟨_, rfl⟩
    have a3 : Ag [49] I I3 := by rw [hI3]; exact ((a1.trans a2).1).up (by decide)
    have g3 : ∀ j, j ≠ 4 → j ≠ 5 → j ≠ 6 → j ≠ 7 → I3 49 j = I 49 j := fun j x y z t => by
      rw [hI3, up2_k t]
      exact (a1.trans a2).2 j x y z
    have D3 : DM I3 G := D.ma WG.1 a3
    have C3 : MT b n v.2 I3 := by
      obtain ⟨t1, t2, q, hq, t3, t4⟩ := c2
      rw [hI3]
      exact ⟨t1.up ⟨by decide, Or.inr (by decide)⟩, by rw [up2_k (by decide)]; exact t2, q, hq, by rw [up2_k (by decide)]; exact t3, t4⟩
    have s7 : I3 49 7 = nn (c + 1) := by rw [hI3, up2_s]
    have fin : ∀ {z : Option ((Unit ⊕ (Nat × Nat)) × PS)} {R : Er ⊕ (Nat × Fo)}, MRd w J I3 b n z R → MCd w J I b n c z R := fun {z R} H => by
      rcases R with r | u
      · obtain ⟨I4, e, a, x⟩ := H
        exact ⟨I4, e, (a3.mono (by decide)).trans a.1, fun j x y z t => (a.2 j x y z).trans (g3 j x y z t), x⟩
      · obtain ⟨I4, e, a, x, d⟩ := H
        exact ⟨I4, e, (a3.mono (by decide)).trans a.1, fun j x y z t => (a.2 j x y z).trans (g3 j x y z t), x, d, (a.2 7 (by decide) (by decide) (by decide)).trans s7⟩
    rw [e55, f_X12_clause_b55, bd_st (i_49_5 S), if_pos c1.2.1, bd_st ((v_49 S).trans e2), bd_st j7, nn_succ, bd_st (w_49_7 S), ← hI3]
    refine fin ?_
    unfold boR
    rcases hk3 with ⟨q, e⟩ | ⟨q, e⟩ | ⟨q, e⟩
    · have l53 := l_52_0 (I := I3) (J := J) S
      rw [D3.1] at l53
      have h8 : sz G < 8 := by omega
      rw [if_pos q, if_pos e, bd_st (r_49_15 S), bd_st (r_49_11 S), bd_st l53, bd_st (g_56 S h8)]
      exact m_perR S W WG h8 C3 D3
    · rw [if_neg (show ¬ kk = 0 by rw [e]; decide), if_neg (show ¬ kk = 1 by rw [e]; decide), if_neg (show ¬ v.1 = 0 by omega), if_pos q]
      exact m_shyR S W WG C3 D3
    · rw [if_neg (show ¬ kk = 0 by rw [e]; decide), if_pos e, if_neg (show ¬ v.1 = 0 by omega), if_neg (show ¬ v.1 = 1 by omega)]
      exact m_likR S W WG C3 D3
end TOWN6
