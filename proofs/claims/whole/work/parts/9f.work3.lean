/-! PURE PART: the model reads a work -/
def RkM (I : Is) (k : Nat) (q : Rc) : Prop := I (417 + k) 0 = nn (rK q) ∧ (rK q < 2 ∨ rK q = 4 → I (417 + k) 1 = nn (rA q)) ∧ (rK q < 2 → I (417 + k) 2 = nn (rB q)) ∧ (rK q = 0 ∨ rK q = 2 → I (417 + k) 3 = nn (rH q)) ∧ I (417 + k) 4 = nn (rE q)
/-- what the model's reader of a work may change -/
def WL (I I' : Is) : Prop := (∀ a, a ≠ 49 → (a < 417 ∨ 496 < a) → I' a = I a) ∧ ∀ j, j ≠ 4 → j ≠ 5 → j ≠ 6 → j ≠ 8 → j ≠ 26 → I' 49 j = I 49 j
theorem WL.refl (I : Is) : WL I I := ⟨fun _ _ _ => rfl, fun _ _ _ _ _ _ => rfl⟩
theorem WL.trans {I I' I'' : Is} (h : WL I I') (h' : WL I' I'') : WL I I'' := ⟨fun a x y => (h'.1 a x y).trans (h.1 a x y), fun j a b c d e => (h'.2 j a b c d e).trans (h.2 j a b c d e)⟩
theorem MA.wl {I I' : Is} (h : MA I I') : WL I I' := ⟨fun a x _ => h.1 a (by simp; exact x), fun j a b c _ _ => h.2 j a b c⟩
theorem WL.u8 {I I' : Is} {v : Int32} (h : WL I I') : WL I (up2 I' 49 8 v) := ⟨fun a x y => by rw [up2_ra x]; exact h.1 a x y, fun j a b c d e => by rw [up2_k d]; exact h.2 j a b c d e⟩
theorem WL.u26 {I I' : Is} {v : Int32} (h : WL I I') : WL I (up2 I' 49 26 v) := ⟨fun a x y => by rw [up2_ra x]; exact h.1 a x y, fun j a b c d e => by rw [up2_k e]; exact h.2 j a b c d e⟩
theorem WL.ur {I I' : Is} {q k : Nat} {v : Int32} (h : WL I I') (hq : q < 80) : WL I (up2 I' (417 + q) k v) := ⟨fun a x y => by rw [up2_ra (by omega)]; exact h.1 a x y, fun j a b c d e => by rw [up2_a (by omega)]; exact h.2 j a b c d e⟩
/-- the model stands at p, o are open, c steps are noted; those below c0 as they were -/
def PM (b : Nat → Nat) (n o c0 : Nat) (I : Is) (u : WU) (I1 : Is) : Prop := MT b n u.1 I1 ∧ I1 49 8 = nn o ∧ I1 49 26 = nn u.2.1 ∧ (∀ k, k < c0 → I1 (417 + k) = I (417 + k)) ∧ ∀ k, c0 ≤ k → k < u.2.1 → RkM I1 k (u.2.2 k)
section MWORK
variable {w : Wd} {I : Is} {J : Js} {b : Nat → Nat} {n p z c o : Nat} {f : Nat → Rc} {r : Er}
theorem MT.cell {x y : Nat} {v : Int32} (X : MT b n p I) (hx : x ≠ 49 ∧ x ≠ 50) : MT b n p (up2 I x y v) := X.ag (K := [x]) ((Ag.refl _ _).up (by simp)) (by simp; exact fun e => hx.1 e.symm) (by simp; exact fun e => hx.2 e.symm)
theorem MTx.cell {x y : Nat} {v : Int32} (X : MTx b n r I) (hx : x ≠ 49 ∧ x ≠ 50) : MTx b n r (up2 I x y v) := X.ag (K := [x]) ((Ag.refl _ _).up (by simp)) (by simp; exact fun e => hx.1 e.symm) (by simp; exact fun e => hx.2 e.symm)
theorem MT.u26 {v : Int32} (X : MT b n p I) : MT b n p (up2 I 49 26 v) := by
  obtain ⟨T, h5, q, hq, h4, e⟩ := X
  refine ⟨T.up ⟨by decide, Or.inr (by decide)⟩, ?_, q, hq, ?_, e⟩
  · rw [up2_k (by decide)]; exact h5
  · rw [up2_k (by decide)]; exact h4
-- behind a fault
theorem kw_num (S : Sw w) (hc : c < 80) {j : Nat} (hj : j < 5) (x y : Int32) {F : Mo Unit} (hF : SKP w J b n WL F) : SKP w J b n WL (bd (cv 12 49 (f_X12_number 49 x y)) fun v => bd (as_ (417 + c) (nn j) v) fun _ => F) := fun r I X => by
  obtain ⟨I1, e1, a1, c1⟩ := hF r (up2 I (417 + c) j 0) (X.cell ⟨by omega, by omega⟩)
  refine ⟨I1, ?_, ((WL.refl I).ur hc).trans a1, c1⟩
  rw [bd_st ((v_49 S).trans (m_numF S (mx5 X) x y)), bd_st (s_417 S hc hj)]
  exact e1
theorem kw_sign (S : Sw w) (x : Int32) : SKP w J b n WL (cv 12 49 (f_X12_sign 49 x)) := fun r I X => ⟨I, by rw [v_49 S]; exact m_signF S (mx5 X) x, WL.refl I, X⟩
theorem kw_bl (S : Sw w) (W : TxW b n) : SKP w J b n WL (cv 12 49 (f_X12_blanks 49)) := fun r I X => by
  obtain ⟨I1, e1, a1, c1⟩ := m_blX (J := J) S W X
  exact ⟨I1, by rw [v_49 S]; exact e1, a1.wl, c1⟩
theorem kw_214 (S : Sw w) (hc : c < 80) (rec : Nat → Mo Unit) : SKP w J b n WL (f_X12_readsStep_b214 rec 49 (417 + c)) := fun r I X => by
  have X1 : MTx b n r (up2 I (417 + c) 4 (I 49 26)) := X.cell ⟨by omega, by omega⟩
  refine ⟨up2 I (417 + c) 4 (I 49 26), ?_, (WL.refl I).ur hc, X1⟩
  rw [f_X12_readsStep_b214, bd_st (i_49_26 S), bd_st (s_417_4 S hc), bd_st ((v_49 S).trans (m_signF S (mx5 X1) 59))]
  rfl
theorem kw_198 (S : Sw w) (hc : c < 80) (rec : Nat → Mo Unit) : SKP w J b n WL (f_X12_readsStep_b198 rec 49 (417 + c)) := fun r I X => by
  obtain ⟨I1, e1, a1, c1⟩ := kw_214 (J := J) S hc rec r (up2 I 49 8 (I 49 8 - 1)) X.u8
  refine ⟨I1, ?_, ((WL.refl I).u8).trans a1, c1⟩
  rw [f_X12_readsStep_b198, bd_st ((v_49 S).trans (m_signF S (mx5 X) 93)), bd_st (i_49_8 S), bd_st (w_49_8 S)]
  exact e1
theorem kw_167 (S : Sw w) (hc : c < 80) (rec : Nat → Mo Unit) {N : Nat} (hN : 0 < N) : SKP w J b n WL (f_X12_readsStep_b167 rec N 49 (417 + c)) := fun r I X => by
  obtain ⟨N, rfl⟩ : ∃ M, N = M + 1 := ⟨N - 1, by omega⟩
  obtain ⟨I1, e1, a1, c1⟩ := kw_198 (J := J) S hc rec r I X
  refine ⟨I1, ?_, a1, c1⟩
  rw [f_X12_readsStep_b167, bd_st (i_49_5 S), if_neg (mx5 X)]
  exact e1
theorem kw_142 (S : Sw w) (W : TxW b n) (hc : c < 80) (rec : Nat → Mo Unit) (x : Int32) : SKP w J b n WL (f_X12_readsStep_b142 rec 49 x (417 + c)) := by
  unfold f_X12_readsStep_b142
  by_cases h : x = 4
  · rw [if_pos h]
    exact kw_num (j := 1) S hc (by decide) 0 30 (SKP.bd WL.trans (kw_sign S 91) (SKP.bd WL.trans (kw_bl S W) (kw_167 S hc rec (by decide))))
  · rw [if_neg h]
    exact kw_214 S hc rec
theorem kw_133 (S : Sw w) (W : TxW b n) (hc : c < 80) (rec : Nat → Mo Unit) (x : Int32) : SKP w J b n WL (f_X12_readsStep_b133 rec 49 x (417 + c)) := kw_num (j := 3) S hc (by decide) 0 5 (kw_142 S W hc rec x)
theorem kw_124 (S : Sw w) (W : TxW b n) (hc : c < 80) (rec : Nat → Mo Unit) (x : Int32) : SKP w J b n WL (f_X12_readsStep_b124 rec 49 x (417 + c)) := by
  unfold f_X12_readsStep_b124
  by_cases h : x = 0
  · rw [if_pos h]
    exact kw_133 S W hc rec x
  · rw [if_neg h]
    by_cases h : x = 2
    · rw [if_pos h]
      exact kw_133 S W hc rec x
    · rw [if_neg h]
      exact kw_142 S W hc rec x
theorem kw_109 (S : Sw w) (W : TxW b n) (hc : c < 80) (rec : Nat → Mo Unit) (x : Int32) : SKP w J b n WL (f_X12_readsStep_b109 rec 49 x (417 + c)) := by
  unfold f_X12_readsStep_b109
  by_cases h : x = 1
  · rw [if_pos h]
    exact kw_num (j := 2) S hc (by decide) 0 9 (kw_124 S W hc rec x)
  · rw [if_neg h]
    exact kw_124 S W hc rec x
theorem kw_89 (S : Sw w) (W : TxW b n) (hc : c < 80) (rec : Nat → Mo Unit) (x : Int32) : SKP w J b n WL (f_X12_readsStep_b89 rec 49 x (417 + c)) := by
  unfold f_X12_readsStep_b89
  by_cases h : x = 0
  · rw [if_pos h]
    intro r I X
    obtain ⟨I1, e1, a1, c1⟩ := kw_num (J := J) (j := 2) S hc (by decide) 0 (I 53 0 - 1) (kw_109 S W hc rec x) r I X
    refine ⟨I1, ?_, a1, c1⟩
    rw [bd_st (r_49_12 S), bd_st (l_53_0 S)]
    exact e1
  · rw [if_neg h]
    exact kw_109 S W hc rec x
-- steps
theorem mw_num (S : Sw w) (W : TxW b n) (C : MT b n p I) {m j : Nat} {B : Int32} (hm : m ≤ 1000) (hB : B = nn m - 1) (hc : c < 80) (hj : j < 5) {F : Mo Unit} {α : Type} {g : Nat × Nat → Er ⊕ α} {Q : α → Is → Prop} (hF : SKP w J b n WL F) (h : ∀ v I1, nuR b n m p = .inr v → MA I I1 → v.1 < m → MT b n v.2 (up2 I1 (417 + c) j (nn v.1)) → MR w J b n WL (up2 I1 (417 + c) j (nn v.1)) (F (st w (up2 I1 (417 + c) j (nn v.1)) J)) (g v) Q) : MR w J b n WL I ((bd (cv 12 49 (f_X12_number 49 0 B)) fun v => bd (as_ (417 + c) (nn j) v) fun _ => F) (st w I J)) (rb (nuR b n m p) g) Q := by
  subst hB
  cases hR : nuR b n m p with
  | inl r =>
    obtain ⟨I1, e1, a1, c1⟩ := m_nuI (J := J) S W C hm hR
    obtain ⟨I2, e2, a2, c2⟩ := hF r (up2 I1 (417 + c) j 0) (c1.cell ⟨by omega, by omega⟩)
    refine ⟨I2, ?_, ((a1.wl).ur hc).trans a2, c2⟩
    rw [bd_st ((v_49 S).trans e1), bd_st (s_417 S hc hj)]
    exact e2
  | inr v =>
    obtain ⟨I1, e1, a1, c1, b1⟩ := m_nuO (J := J) S W C hm hR
    rw [bd_st ((v_49 S).trans e1), bd_st (s_417 S hc hj)]
    exact MR.pre WL.trans ((a1.wl).ur hc) (h v I1 hR a1 b1 (c1.cell ⟨by omega, by omega⟩))
theorem mw_sign (S : Sw w) (W : TxW b n) (C : MT b n p I) {x : Nat} (hx : x < 128) : MR w J b n WL I (cv 12 49 (f_X12_sign 49 (nn x)) (st w I J)) (sgR b n x p) (fun t I1 => MA I I1 ∧ MT b n t I1) := by
  rw [v_49 S]
  cases h : sgR b n x p with
  | inl r =>
    obtain ⟨I1, e1, a1, c1⟩ := m_sgI (J := J) S W C hx h
    exact ⟨I1, e1, a1.wl, c1⟩
  | inr t =>
    obtain ⟨I1, e1, a1, c1⟩ := m_sgO (J := J) S W C hx h
    exact ⟨I1, e1, a1.wl, a1, c1⟩
theorem ma_row {I I' : Is} (h : MA I I') (k : Nat) : I' (417 + k) = I (417 + k) := h.1 _ (by simp; omega)
theorem RkM.row {I I' : Is} {k : Nat} {q : Rc} (H : RkM I k q) (h : I' (417 + k) = I (417 + k)) : RkM I' k q := by
  unfold RkM at *
  rw [h]
  exact H
/-- the end of a step: its last cell, the sign -/
theorem mw_214 (S : Sw w) (W : TxW b n) (rec : Nat → Mo Unit) {c0 e : Nat} {I0 : Is} {q : Rc} (hc : c < 80) (hc0 : c0 = c) (he : rE q = e) (C : MT b n p I) (h8 : I 49 8 = nn o) (h26 : I 49 26 = nn e) (hce : c < e) (hlow : ∀ k, k < c0 → I (417 + k) = I0 (417 + k)) (hin : ∀ k, c < k → k < e → RkM I k (f k)) (hq : I (417 + c) 0 = nn (rK q) ∧ (rK q < 2 ∨ rK q = 4 → I (417 + c) 1 = nn (rA q)) ∧ (rK q < 2 → I (417 + c) 2 = nn (rB q)) ∧ (rK q = 0 ∨ rK q = 2 → I (417 + c) 3 = nn (rH q))) : MR w J b n WL I (f_X12_readsStep_b214 rec 49 (417 + c) (st w I J)) (enR b n (p, e, upF f c q)) (PM b n o c0 I0) := by
  have i26 := i_49_26 (I := I) (J := J) S
  rw [h26] at i26
  obtain ⟨I1, hI1⟩ : ∃ I1, I1 = up2 I (417 + c) 4 (nn e) := ⟨_, rfl⟩
  have C1 : MT b n p I1 := by rw [hI1]; exact C.cell ⟨by omega, by omega⟩
  have k49 : I1 49 = I 49 := by rw [hI1, up2_ra (by omega)]
  rw [f_X12_readsStep_b214, bd_st i26, bd_st (s_417_4 S hc), ← hI1]
  have l1 : WL I I1 := by rw [hI1]; exact (WL.refl I).ur hc
  refine MR.pre WL.trans l1 ?_
  unfold enR
  refine MR.bd WL.trans (mw_sign (x := 59) S W C1 (by decide)) (fun r I X => ⟨I, rfl, WL.refl I, X⟩) fun t I2 et a2 Q2 => ?_
  obtain ⟨a2', c2⟩ := Q2
  refine ⟨I2, rfl, WL.refl _, c2, ?_, ?_, fun k hk => ?_, fun k k1 k2 => ?_⟩
  · rw [a2'.2 8 (by decide) (by decide) (by decide), k49]; exact h8
  · rw [a2'.2 26 (by decide) (by decide) (by decide), k49]; exact h26
  · rw [ma_row a2' k, hI1, up2_ra (by omega)]; exact hlow k hk
  · have k2 : k < e := k2
    show RkM I2 k (upF f c q k)
    refine RkM.row ?_ (ma_row a2' k)
    by_cases h : k = c
    · subst h
      rw [upF_s, hI1]
      obtain ⟨q0, q1, q2, q3⟩ := hq
      refine ⟨?_, fun y => ?_, fun y => ?_, fun y => ?_, ?_⟩
      · rw [up2_k (by decide)]; exact q0
      · rw [up2_k (by decide)]; exact q1 y
      · rw [up2_k (by decide)]; exact q2 y
      · rw [up2_k (by decide)]; exact q3 y
      · rw [up2_s, he]
    · rw [upF_n h]
      exact (hin k (by omega) k2).row (by rw [hI1, up2_ra (by omega)])
/-- which step's word stands there -/
theorem m_shO (S : Sw w) (W : TxW b n) (C : MT b n p I) {y : Nat} (hy : y < 5) (h : ∀ i, i < 5 → (wcM b (sk b n p) (wE b n (sk b n p)) = nn (cdL 2 0 wl2 i)) = (y = i)) : ∃ I1, f_X12_stepHere 49 (st w I J) = some (.inl (nn y), st w I1 J) ∧ MA I I1 ∧ MT b n p I1 ∧ I1 49 4 = nn (sk b n p) := by
  rw [f_X12_stepHere]
  obtain ⟨I0, e0, a0, c0, p0⟩ := m_isWR (J := J) S W C sx2_0
  by_cases q0 : y = 0
  · rw [bI_t (by rw [h 0 (by decide)]; exact q0)] at e0
    refine ⟨I0, ?_, a0, c0, p0⟩
    rw [bd_st ((v_49 S).trans e0), if_neg (by decide), q0]
    rfl
  rw [bI_f (by rw [h 0 (by decide)]; exact q0)] at e0
  rw [bd_st ((v_49 S).trans e0), if_pos rfl]
  obtain ⟨I1, e1, a1, c1, p1⟩ := m_isWR (J := J) S W c0 sx2_1
  by_cases q1 : y = 1
  · rw [bI_t (by rw [h 1 (by decide)]; exact q1)] at e1
    refine ⟨I1, ?_, (a0).trans a1, c1, p1⟩
    rw [bd_st ((v_49 S).trans e1), if_neg (by decide), q1]
    rfl
  rw [bI_f (by rw [h 1 (by decide)]; exact q1)] at e1
  rw [bd_st ((v_49 S).trans e1), if_pos rfl]
  obtain ⟨I2, e2, a2, c2, p2⟩ := m_isWR (J := J) S W c1 sx2_2
  by_cases q2 : y = 2
  · rw [bI_t (by rw [h 2 (by decide)]; exact q2)] at e2
    refine ⟨I2, ?_, ((a0).trans a1).trans a2, c2, p2⟩
    rw [bd_st ((v_49 S).trans e2), if_neg (by decide), q2]
    rfl
  rw [bI_f (by rw [h 2 (by decide)]; exact q2)] at e2
  rw [bd_st ((v_49 S).trans e2), if_pos rfl]
  obtain ⟨I3, e3, a3, c3, p3⟩ := m_isWR (J := J) S W c2 sx2_3
  by_cases q3 : y = 3
  · rw [bI_t (by rw [h 3 (by decide)]; exact q3)] at e3
    refine ⟨I3, ?_, (((a0).trans a1).trans a2).trans a3, c3, p3⟩
    rw [bd_st ((v_49 S).trans e3), if_neg (by decide), q3]
    rfl
  rw [bI_f (by rw [h 3 (by decide)]; exact q3)] at e3
  rw [bd_st ((v_49 S).trans e3), if_pos rfl]
  obtain ⟨I4, e4, a4, c4, p4⟩ := m_isWR (J := J) S W c3 sx2_4
  by_cases q4 : y = 4
  · rw [bI_t (by rw [h 4 (by decide)]; exact q4)] at e4
    refine ⟨I4, ?_, ((((a0).trans a1).trans a2).trans a3).trans a4, c4, p4⟩
    rw [bd_st ((v_49 S).trans e4), if_neg (by decide), q4]
    rfl
  rw [bI_f (by rw [h 4 (by decide)]; exact q4)] at e4
  omega
theorem m_shI (S : Sw w) (W : TxW b n) (C : MT b n p I) (h : ∀ i, i < 5 → (wcM b (sk b n p) (wE b n (sk b n p)) = nn (cdL 2 0 wl2 i)) = False) : ∃ I1, f_X12_stepHere 49 (st w I J) = some (.inl (-1), st w I1 J) ∧ MA I I1 ∧ MT b n p I1 ∧ I1 49 4 = nn (sk b n p) := by
  obtain ⟨I0, e0, a0, c0, p0⟩ := m_isWR (J := J) S W C sx2_0
  rw [bI_f (by rw [h 0 (by decide)]; exact id)] at e0
  obtain ⟨I1, e1, a1, c1, p1⟩ := m_isWR (J := J) S W c0 sx2_1
  rw [bI_f (by rw [h 1 (by decide)]; exact id)] at e1
  obtain ⟨I2, e2, a2, c2, p2⟩ := m_isWR (J := J) S W c1 sx2_2
  rw [bI_f (by rw [h 2 (by decide)]; exact id)] at e2
  obtain ⟨I3, e3, a3, c3, p3⟩ := m_isWR (J := J) S W c2 sx2_3
  rw [bI_f (by rw [h 3 (by decide)]; exact id)] at e3
  obtain ⟨I4, e4, a4, c4, p4⟩ := m_isWR (J := J) S W c3 sx2_4
  rw [bI_f (by rw [h 4 (by decide)]; exact id)] at e4
  refine ⟨I4, ?_, ((((a0).trans a1).trans a2).trans a3).trans a4, c4, p4⟩
  rw [f_X12_stepHere, bd_st ((v_49 S).trans e0), if_pos rfl, bd_st ((v_49 S).trans e1), if_pos rfl, bd_st ((v_49 S).trans e2), if_pos rfl, bd_st ((v_49 S).trans e3), if_pos rfl, bd_st ((v_49 S).trans e4), if_pos rfl]
  rfl
end MWORK
