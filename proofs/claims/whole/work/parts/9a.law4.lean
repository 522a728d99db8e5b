/-! PURE PART: the model reads a law, its small steps -/
theorem sx1_0 : f_X12_six 6 1 3 5 0 0 = pu (nn (cdL 1 0 wl1 0)) := by
  unfold f_X12_six f_X12_six_b29 f_X12_six_b49
  rw [if_neg (by decide), if_pos rfl, if_pos rfl]
  exact congrArg pu (by decide +kernel)
theorem sx1_1 : f_X12_six 20 5 13 16 5 18 = pu (nn (cdL 1 0 wl1 1)) := by
  unfold f_X12_six f_X12_six_b29 f_X12_six_b49
  rw [if_neg (by decide), if_neg (by decide), if_neg (by decide)]
  exact congrArg pu (by decide +kernel)
theorem sx1_2 : f_X12_six 13 15 15 4 0 0 = pu (nn (cdL 1 0 wl1 2)) := by
  unfold f_X12_six f_X12_six_b29 f_X12_six_b49
  rw [if_neg (by decide), if_pos rfl, if_pos rfl]
  exact congrArg pu (by decide +kernel)
theorem sx1_3 : f_X12_six 19 9 20 20 5 18 = pu (nn (cdL 1 0 wl1 3)) := by
  unfold f_X12_six f_X12_six_b29 f_X12_six_b49
  rw [if_neg (by decide), if_neg (by decide), if_neg (by decide)]
  exact congrArg pu (by decide +kernel)
theorem sx1_4 : f_X12_six 15 23 14 0 0 0 = pu (nn (cdL 1 0 wl1 4)) := by
  unfold f_X12_six f_X12_six_b29 f_X12_six_b49
  rw [if_pos rfl, if_pos rfl, if_pos rfl]
  exact congrArg pu (by decide +kernel)
theorem sx1_5 : f_X12_six 25 5 1 18 0 0 = pu (nn (cdL 1 0 wl1 5)) := by
  unfold f_X12_six f_X12_six_b29 f_X12_six_b49
  rw [if_neg (by decide), if_pos rfl, if_pos rfl]
  exact congrArg pu (by decide +kernel)
theorem sx1_6 : f_X12_six 20 1 11 5 14 0 = pu (nn (cdL 1 0 wl1 6)) := by
  unfold f_X12_six f_X12_six_b29 f_X12_six_b49
  rw [if_neg (by decide), if_neg (by decide), if_pos rfl]
  exact congrArg pu (by decide +kernel)
theorem sx1_7 : f_X12_six 8 1 12 12 0 0 = pu (nn (cdL 1 0 wl1 7)) := by
  unfold f_X12_six f_X12_six_b29 f_X12_six_b49
  rw [if_neg (by decide), if_pos rfl, if_pos rfl]
  exact congrArg pu (by decide +kernel)
theorem sx1_8 : f_X12_six 12 5 1 19 20 0 = pu (nn (cdL 1 0 wl1 8)) := by
  unfold f_X12_six f_X12_six_b29 f_X12_six_b49
  rw [if_neg (by decide), if_neg (by decide), if_pos rfl]
  exact congrArg pu (by decide +kernel)
theorem sx1_9 : f_X12_six 13 15 19 20 0 0 = pu (nn (cdL 1 0 wl1 9)) := by
  unfold f_X12_six f_X12_six_b29 f_X12_six_b49
  rw [if_neg (by decide), if_pos rfl, if_pos rfl]
  exact congrArg pu (by decide +kernel)
theorem sx2_0 : f_X12_six 20 1 11 5 0 0 = pu (nn (cdL 2 0 wl2 0)) := by
  unfold f_X12_six f_X12_six_b29 f_X12_six_b49
  rw [if_neg (by decide), if_pos rfl, if_pos rfl]
  exact congrArg pu (by decide +kernel)
theorem sx2_1 : f_X12_six 13 15 15 4 0 0 = pu (nn (cdL 2 0 wl2 1)) := by
  unfold f_X12_six f_X12_six_b29 f_X12_six_b49
  rw [if_neg (by decide), if_pos rfl, if_pos rfl]
  exact congrArg pu (by decide +kernel)
theorem sx2_2 : f_X12_six 2 21 18 14 0 0 = pu (nn (cdL 2 0 wl2 2)) := by
  unfold f_X12_six f_X12_six_b29 f_X12_six_b49
  rw [if_neg (by decide), if_pos rfl, if_pos rfl]
  exact congrArg pu (by decide +kernel)
theorem sx2_3 : f_X12_six 25 5 1 18 0 0 = pu (nn (cdL 2 0 wl2 3)) := by
  unfold f_X12_six f_X12_six_b29 f_X12_six_b49
  rw [if_neg (by decide), if_pos rfl, if_pos rfl]
  exact congrArg pu (by decide +kernel)
theorem sx2_4 : f_X12_six 1 7 1 9 14 0 = pu (nn (cdL 2 0 wl2 4)) := by
  unfold f_X12_six f_X12_six_b29 f_X12_six_b49
  rw [if_neg (by decide), if_neg (by decide), if_pos rfl]
  exact congrArg pu (by decide +kernel)
/-- what the model's reader of a law may change -/
def LF (I I' : Is) : Prop := (∀ a, a ≠ 49 → (a < 236 ∨ 395 < a) → I' a = I a) ∧ ∀ j, j ≠ 4 → j ≠ 5 → j ≠ 6 → j ≠ 8 → j ≠ 18 → I' 49 j = I 49 j
theorem LF.refl (I : Is) : LF I I := ⟨fun _ _ _ => rfl, fun _ _ _ _ _ _ => rfl⟩
theorem LF.trans {I I' I'' : Is} (h : LF I I') (h' : LF I' I'') : LF I I'' := ⟨fun a x y => (h'.1 a x y).trans (h.1 a x y), fun j a b c d e => (h'.2 j a b c d e).trans (h.2 j a b c d e)⟩
theorem MA.lf {I I' : Is} (h : MA I I') : LF I I' := ⟨fun a x _ => h.1 a (by simp; exact x), fun j a b c _ _ => h.2 j a b c⟩
theorem LF.u8 {I I' : Is} {v : Int32} (h : LF I I') : LF I (up2 I' 49 8 v) := ⟨fun a x y => by rw [up2_ra x]; exact h.1 a x y, fun j a b c d e => by rw [up2_k d]; exact h.2 j a b c d e⟩
theorem LF.u18 {I I' : Is} {v : Int32} (h : LF I I') : LF I (up2 I' 49 18 v) := ⟨fun a x y => by rw [up2_ra x]; exact h.1 a x y, fun j a b c d e => by rw [up2_k e]; exact h.2 j a b c d e⟩
theorem LF.ur {I I' : Is} {q k : Nat} {v : Int32} (h : LF I I') (hq : q < 160) : LF I (up2 I' (236 + q) k v) := ⟨fun a x y => by rw [up2_ra (by omega)]; exact h.1 a x y, fun j a b c d e => by rw [up2_a (by omega)]; exact h.2 j a b c d e⟩
/-- what a reader of the model does -/
def MR (w : Wd) (J : Js) (b : Nat → Nat) (n : Nat) (R : Is → Is → Prop) (I : Is) (z : Option ((Unit ⊕ (Nat × Nat)) × PS)) {α : Type} (x : Er ⊕ α) (Q : α → Is → Prop) : Prop := match x with
  | .inl r => ∃ I1, z = some (.inl (), st w I1 J) ∧ R I I1 ∧ MTx b n r I1
  | .inr u => ∃ I1, z = some (.inl (), st w I1 J) ∧ R I I1 ∧ Q u I1
/-- behind a fault a reader does nothing that counts -/
def SKP (w : Wd) (J : Js) (b : Nat → Nat) (n : Nat) (R : Is → Is → Prop) (F : Mo Unit) : Prop := ∀ r I, MTx b n r I → ∃ I1, F (st w I J) = some (.inl (), st w I1 J) ∧ R I I1 ∧ MTx b n r I1
section MRS
variable {w : Wd} {J : Js} {b : Nat → Nat} {n : Nat} {R : Is → Is → Prop} {I I0 : Is} {α β : Type} {x : Er ⊕ α} {Q : α → Is → Prop} {Q' : β → Is → Prop} {f : α → Er ⊕ β} {M F : Mo Unit} {z : Option ((Unit ⊕ (Nat × Nat)) × PS)}
theorem MR.pre (tr : ∀ {I I' I'' : Is}, R I I' → R I' I'' → R I I'') (h : R I0 I) (H : MR w J b n R I z x Q) : MR w J b n R I0 z x Q := by
  cases x with
  | inl r =>
    obtain ⟨I1, e, a, c⟩ := H
    exact ⟨I1, e, tr h a, c⟩
  | inr u =>
    obtain ⟨I1, e, a, c⟩ := H
    exact ⟨I1, e, tr h a, c⟩
theorem MR.bd (tr : ∀ {I I' I'' : Is}, R I I' → R I' I'' → R I I'') (H : MR w J b n R I (M (st w I J)) x Q) (hF : SKP w J b n R F) (h : ∀ u I1, x = .inr u → R I I1 → Q u I1 → MR w J b n R I1 (F (st w I1 J)) (f u) Q') : MR w J b n R I ((bd M fun _ => F) (st w I J)) (rb x f) Q' := by
  cases x with
  | inl r =>
    obtain ⟨I1, e, a, c⟩ := H
    obtain ⟨I2, e2, a2, c2⟩ := hF r I1 c
    exact ⟨I2, by rw [bd_st e]; exact e2, tr a a2, c2⟩
  | inr u =>
    obtain ⟨I1, e, a, c⟩ := H
    rw [bd_st e]
    exact (h u I1 rfl a c).pre tr a
theorem SKP.bd (tr : ∀ {I I' I'' : Is}, R I I' → R I' I'' → R I I'') (H : SKP w J b n R M) (hF : SKP w J b n R F) : SKP w J b n R (bd M fun _ => F) := fun r I X => by
  obtain ⟨I1, e, a, c⟩ := H r I X
  obtain ⟨I2, e2, a2, c2⟩ := hF r I1 c
  exact ⟨I2, by rw [bd_st e]; exact e2, tr a a2, c2⟩
end MRS
def LM (I : Is) (L : Lw) : Prop := I 49 18 = nn L.1 ∧ ∀ k, k < L.1 → I (236 + k) 0 = nn (L.2 k).1 ∧ I (236 + k) 1 = nn (L.2 k).2
def QM (b : Nat → Nat) (n o : Nat) (u : Nat × Lw) (I : Is) : Prop := MT b n u.1 I ∧ I 49 8 = nn o ∧ LM I u.2 ∧ u.2.1 ≤ 150
theorem LM.ma {I I' : Is} {L : Lw} (H : LM I L) (hL : L.1 ≤ 150) (h : MA I I') : LM I' L := by
  refine ⟨by rw [h.2 18 (by decide) (by decide) (by decide)]; exact H.1, fun k hk => ?_⟩
  rw [h.1 (236 + k) (by simp; omega)]
  exact H.2 k hk
section MLAW
variable {w : Wd} {I : Is} {J : Js} {b : Nat → Nat} {n p o : Nat} {L : Lw} {r : Er}
theorem QM.ma {I' : Is} {p' : Nat} (C : QM b n o (p, L) I) (h : MA I I') (hT : MT b n p' I') : QM b n o (p', L) I' := ⟨hT, by rw [h.2 8 (by decide) (by decide) (by decide)]; exact C.2.1, C.2.2.1.ma C.2.2.2 h, C.2.2.2⟩
theorem MTx.u8 {v : Int32} (X : MTx b n r I) : MTx b n r (up2 I 49 8 v) := by
  obtain ⟨T, h5, h0, h6, q, hq, h4⟩ := X
  refine ⟨T.up ⟨by decide, Or.inr (by decide)⟩, ?_, h0, ?_, q, hq, ?_⟩
  · rw [up2_k (by decide)]; exact h5
  · rw [up2_k (by decide)]; exact h6
  · rw [up2_k (by decide)]; exact h4
theorem MT.u8 {v : Int32} (X : MT b n p I) : MT b n p (up2 I 49 8 v) := by
  obtain ⟨T, h5, q, hq, h4, e⟩ := X
  refine ⟨T.up ⟨by decide, Or.inr (by decide)⟩, ?_, q, hq, ?_, e⟩
  · rw [up2_k (by decide)]; exact h5
  · rw [up2_k (by decide)]; exact h4
theorem MT.sk (X : MT b n p I) {p' : Nat} (e : sk b n p' = sk b n p) : MT b n p' I := by
  obtain ⟨T, h5, q, hq, h4, e'⟩ := X
  exact ⟨T, h5, q, hq, h4, e'.trans e.symm⟩
theorem mx5 (X : MTx b n r I) : ¬ I 49 5 = 0 := by rw [X.2.1]; exact X.2.2.1
-- behind a fault
theorem k_sign (S : Sw w) (x : Int32) : SKP w J b n LF (cv 12 49 (f_X12_sign 49 x)) := fun r I X => ⟨I, by rw [v_49 S]; exact m_signF S (mx5 X) x, LF.refl I, X⟩
theorem k_notes (S : Sw w) (x y : Int32) : SKP w J b n LF (cv 12 49 (f_X12_notes 49 x y)) := fun r I X => ⟨I, by rw [v_49 S, f_X12_notes, bd_st (i_49_5 S), if_neg (mx5 X)]; rfl, LF.refl I, X⟩
theorem k_one (S : Sw w) (rec : Nat → Mo Unit) : SKP w J b n LF (cv 12 49 (f_X12_one rec 49)) := fun r I X => ⟨I, by rw [v_49 S, f_X12_one, bd_st (i_49_5 S), if_neg (mx5 X)]; rfl, LF.refl I, X⟩
theorem k_pro4 (S : Sw w) (rec : Nat → Mo Unit) {N : Nat} (hN : 0 < N) : SKP w J b n LF (f_X12_product_b4 rec N 49) := fun r I X => ⟨I, by
  obtain ⟨N, rfl⟩ : ∃ M, N = M + 1 := ⟨N - 1, by omega⟩
  rw [f_X12_product_b4, bd_st (i_49_5 S), if_neg (mx5 X)]
  rfl, LF.refl I, X⟩
theorem k_sum4 (S : Sw w) (rec : Nat → Mo Unit) {N : Nat} (hN : 0 < N) : SKP w J b n LF (f_X12_sum_b4 rec N 49) := fun r I X => ⟨I, by
  obtain ⟨N, rfl⟩ : ∃ M, N = M + 1 := ⟨N - 1, by omega⟩
  rw [f_X12_sum_b4, bd_st (i_49_5 S), if_neg (mx5 X)]
  rfl, LF.refl I, X⟩
theorem k_cv (S : Sw w) {F : Mo Unit} (H : SKP w J b n LF F) : SKP w J b n LF (cv 12 49 F) := fun r I X => by
  rw [v_49 S]
  exact H r I X
theorem k_sumD (S : Sw w) : ∀ D, 0 < D → SKP w J b n LF (F_X12_sum D 49)
  | 0, h => absurd h (Nat.lt_irrefl _)
  | D + 1, _ => by
    show SKP w J b n LF (f_X12_sum (F_X12_sum D) 49)
    unfold f_X12_sum
    refine SKP.bd LF.trans (k_cv S ?_) (k_sum4 S _ (by decide))
    unfold f_X12_product
    exact SKP.bd LF.trans (k_one S _) (k_pro4 S _ (by decide))
theorem k_shut (S : Sw w) : SKP w J b n LF (bd (gI 12 8 49) fun v7 => bd (pf 12 8 49 (.int (v7 - (1 : Int32)))) fun _ => pu ()) := fun r I X => ⟨up2 I 49 8 (I 49 8 - 1), by
  rw [bd_st (i_49_8 S), bd_st (w_49_8 S)]
  rfl, (LF.refl I).u8, X.u8⟩
-- steps
theorem mr_sign (S : Sw w) (W : TxW b n) (C : QM b n o (p, L) I) {x : Nat} (hx : x < 128) : MR w J b n LF I (cv 12 49 (f_X12_sign 49 (nn x)) (st w I J)) (sgR b n x p) (fun t => QM b n o (t, L)) := by
  rw [v_49 S]
  cases h : sgR b n x p with
  | inl r =>
    obtain ⟨I1, e1, a1, c1⟩ := m_sgI (J := J) S W C.1 hx h
    exact ⟨I1, e1, a1.lf, c1⟩
  | inr t =>
    obtain ⟨I1, e1, a1, c1⟩ := m_sgO (J := J) S W C.1 hx h
    exact ⟨I1, e1, a1.lf, C.ma a1 c1⟩
theorem mr_notes (S : Sw w) {x y : Nat} (C : QM b n o (p, L) I) (hL : L.1 < 150) : MR w J b n LF I (cv 12 49 (f_X12_notes 49 (nn x) (nn y)) (st w I J)) (.inr (p, lwA L (x, y))) (QM b n o) := by
  obtain ⟨C0, h8, ⟨H1, H2⟩, h150⟩ := C
  have H1 : I 49 18 = nn L.1 := H1
  have H2 : ∀ k, k < L.1 → I (236 + k) 0 = nn (L.2 k).1 ∧ I (236 + k) 1 = nn (L.2 k).2 := H2
  have h160 : L.1 < 160 := by omega
  have i5 := i_49_5 (I := I) (J := J) S
  rw [C0.2.1] at i5
  have i18 : ∀ {I' : Is}, I' 49 = I 49 → gI 12 18 49 (st w I' J) = some (.inl (nn L.1), st w I' J) := fun {I'} hh => by
    have := i_49_18 (I := I') (J := J) S
    rw [hh, H1] at this
    exact this
  obtain ⟨I1, hI1⟩ : ∃ I1, I1 = up2 (up2 I (236 + L.1) 0 (nn x)) (236 + L.1) 1 (nn y) := ⟨_, rfl⟩
  have a1 : Ag [236 + L.1] I I1 := by rw [hI1]; exact ((Ag.refl _ _).up (by simp)).up (by simp)
  have x49 : I1 49 = I 49 := a1 49 (by simp; omega)
  refine ⟨up2 I1 49 18 (nn (L.1 + 1)), ?_, ?_, ?_, ?_, ⟨up2_s, fun k hk => ?_⟩, hL⟩
  · rw [v_49 S, f_X12_notes, bd_st i5, if_pos rfl, bd_st (r_49_20 S), bd_st (i18 rfl), bd_st (g_235 S h160), bd_st (s_236_0 S h160), bd_st (r_49_20 S), bd_st (i18 (up2_ra (by omega))), bd_st (g_235 S h160), bd_st (s_236_1 S h160), ← hI1, bd_st (i18 x49), nn_succ, bd_st (w_49_18 S)]
    rfl
  · rw [hI1]
    exact (((LF.refl I).ur h160).ur h160).u18
  · have C1 := C0.ag a1 (by simp; omega) (by simp; omega)
    obtain ⟨T, h5, q, hq, h4, e⟩ := C1
    refine ⟨T.up ⟨by decide, Or.inr (by decide)⟩, ?_, q, hq, ?_, e⟩
    · rw [up2_k (by decide)]; exact h5
    · rw [up2_k (by decide)]; exact h4
  · rw [up2_k (by decide), x49]; exact h8
  · have hk : k < L.1 + 1 := hk
    rw [up2_a (by omega), up2_a (by omega)]
    by_cases e : k = L.1
    · subst e
      rw [hI1, up2_k (by decide), up2_s, up2_s, lwA_e]
      exact ⟨rfl, rfl⟩
    · rw [a1 (236 + k) (by simp; omega)]
      show _ = nn ((lwA L (x, y)).2 k).1 ∧ _ = nn ((lwA L (x, y)).2 k).2
      rw [lwA_k (by omega)]
      exact H2 k (by omega)
/-- one bracket more, or one too many -/
theorem m_open (S : Sw w) (C : MT b n p I) (h4 : I 49 4 = nn (sk b n p)) (h8 : I 49 8 = nn o) (ho : o ≤ 6) : if 6 ≤ o then (∃ I1, f_X12_opensOne 49 (st w I J) = some (.inl 0, st w I1 J) ∧ MA I I1 ∧ MTx b n (3, sk b n p) I1) else f_X12_opensOne 49 (st w I J) = some (.inl 1, st w (up2 I 49 8 (nn (o + 1))) J) := by
  have i5 := i_49_5 (I := I) (J := J) S
  rw [C.2.1] at i5
  have i8 := i_49_8 (I := I) (J := J) S
  rw [h8] at i8
  have i4 := i_49_4 (I := I) (J := J) S
  rw [h4] at i4
  have q6 : (nn o = (6 : Int32)) = (o = 6) := nn_eq (b := 6) (by omega) (by decide)
  by_cases h : 6 ≤ o
  · rw [if_pos h]
    obtain ⟨I1, e1, a1, c1⟩ := m_wrR (J := J) S C (x := 3) (by decide) (sk b n p)
    refine ⟨I1, ?_, a1, c1⟩
    rw [f_X12_opensOne, bd_st i5, if_pos rfl, bd_st i8, if_pos (by rw [q6]; omega), bd_st i4, bd_st ((v_49 S).trans e1), f_X12_opensOne_b45, bd_st (i_49_5 S), if_neg (mx5 c1)]
    rfl
  · rw [if_neg h]
    have j5 := i_49_5 (I := up2 I 49 8 (nn (o + 1))) (J := J) S
    rw [up2_k (by decide), C.2.1] at j5
    rw [f_X12_opensOne, bd_st i5, if_pos rfl, bd_st i8, if_neg (by rw [q6]; omega), f_X12_opensOne_b28, bd_st i5, if_pos rfl, bd_st i8, nn_succ, bd_st (w_49_8 S), f_X12_opensOne_b45, bd_st j5, if_pos rfl]
    rfl
theorem m_tkO (S : Sw w) (W : TxW b n) (hp : p ≤ n) (C : MT b n p I) {x1 x2 x3 x4 x5 x6 : Int32} {c : Nat} (h6 : f_X12_six x1 x2 x3 x4 x5 x6 = pu (nn c)) (h : wcM b (sk b n p) (wE b n (sk b n p)) = nn c) : ∃ I1, f_X12_takes 49 x1 x2 x3 x4 x5 x6 (st w I J) = some (.inl 1, st w I1 J) ∧ MA I I1 ∧ MT b n (wE b n (sk b n p)) I1 := by
  obtain ⟨I1, e1, a1, c1, p1⟩ := m_isWR (J := J) S W C h6
  rw [bI_t h] at e1
  obtain ⟨I2, e2, a2, c2⟩ := m_skW (J := J) S W c1 p1 hp
  refine ⟨I2, ?_, a1.trans a2, c2⟩
  rw [f_X12_takes, bd_st ((v_49 S).trans e1), if_neg (by decide), bd_st ((v_49 S).trans e2)]
  exact rz1
theorem m_tkI (S : Sw w) (W : TxW b n) (C : MT b n p I) {x1 x2 x3 x4 x5 x6 : Int32} {c : Nat} (h6 : f_X12_six x1 x2 x3 x4 x5 x6 = pu (nn c)) (h : ¬ wcM b (sk b n p) (wE b n (sk b n p)) = nn c) : ∃ I1, f_X12_takes 49 x1 x2 x3 x4 x5 x6 (st w I J) = some (.inl 0, st w I1 J) ∧ MA I I1 ∧ MT b n p I1 := by
  obtain ⟨I1, e1, a1, c1, p1⟩ := m_isWR (J := J) S W C h6
  rw [bI_f h] at e1
  refine ⟨I1, ?_, a1, c1⟩
  rw [f_X12_takes, bd_st ((v_49 S).trans e1), if_pos rfl]
  exact rz0
/-- a word of the law's first eight, by the model's number of it -/
theorem m_knO (S : Sw w) (W : TxW b n) (hp : p ≤ n) (C : MT b n p I) {y : Nat} (hy : y < 8) (h : ∀ i, i < 10 → (wcM b (sk b n p) (wE b n (sk b n p)) = nn (cdL 1 0 wl1 i)) = (y = i)) : ∃ I1, f_X12_knownHere 49 (st w I J) = some (.inl (nn y), st w I1 J) ∧ MA I I1 ∧ MT b n (wE b n (sk b n p)) I1 := by
  rw [f_X12_knownHere]
  by_cases q0 : y = 0
  · obtain ⟨IX, eX, aX, cX⟩ := m_tkO (J := J) S W hp C sx1_0 (by rw [h 0 (by decide)]; exact q0)
    refine ⟨IX, ?_, aX, cX⟩
    rw [bd_st ((v_49 S).trans eX), if_neg (by decide), q0]
    rfl
  obtain ⟨I0, e0, a0, c0⟩ := m_tkI (J := J) S W C sx1_0 (by rw [h 0 (by decide)]; exact q0)
  rw [bd_st ((v_49 S).trans e0), if_pos rfl]
  by_cases q1 : y = 1
  · obtain ⟨IX, eX, aX, cX⟩ := m_tkO (J := J) S W hp c0 sx1_1 (by rw [h 1 (by decide)]; exact q1)
    refine ⟨IX, ?_, (a0).trans aX, cX⟩
    rw [bd_st ((v_49 S).trans eX), if_neg (by decide), q1]
    rfl
  obtain ⟨I1, e1, a1, c1⟩ := m_tkI (J := J) S W c0 sx1_1 (by rw [h 1 (by decide)]; exact q1)
  rw [bd_st ((v_49 S).trans e1), if_pos rfl]
  by_cases q2 : y = 2
  · obtain ⟨IX, eX, aX, cX⟩ := m_tkO (J := J) S W hp c1 sx1_2 (by rw [h 2 (by decide)]; exact q2)
    refine ⟨IX, ?_, ((a0).trans a1).trans aX, cX⟩
    rw [bd_st ((v_49 S).trans eX), if_neg (by decide), q2]
    rfl
  obtain ⟨I2, e2, a2, c2⟩ := m_tkI (J := J) S W c1 sx1_2 (by rw [h 2 (by decide)]; exact q2)
  rw [bd_st ((v_49 S).trans e2), if_pos rfl]
  by_cases q3 : y = 3
  · obtain ⟨IX, eX, aX, cX⟩ := m_tkO (J := J) S W hp c2 sx1_3 (by rw [h 3 (by decide)]; exact q3)
    refine ⟨IX, ?_, (((a0).trans a1).trans a2).trans aX, cX⟩
    rw [bd_st ((v_49 S).trans eX), if_neg (by decide), q3]
    rfl
  obtain ⟨I3, e3, a3, c3⟩ := m_tkI (J := J) S W c2 sx1_3 (by rw [h 3 (by decide)]; exact q3)
  rw [bd_st ((v_49 S).trans e3), if_pos rfl]
  by_cases q4 : y = 4
  · obtain ⟨IX, eX, aX, cX⟩ := m_tkO (J := J) S W hp c3 sx1_4 (by rw [h 4 (by decide)]; exact q4)
    refine ⟨IX, ?_, ((((a0).trans a1).trans a2).trans a3).trans aX, cX⟩
    rw [bd_st ((v_49 S).trans eX), if_neg (by decide), q4]
    rfl
  obtain ⟨I4, e4, a4, c4⟩ := m_tkI (J := J) S W c3 sx1_4 (by rw [h 4 (by decide)]; exact q4)
  rw [bd_st ((v_49 S).trans e4), if_pos rfl]
  by_cases q5 : y = 5
  · obtain ⟨IX, eX, aX, cX⟩ := m_tkO (J := J) S W hp c4 sx1_5 (by rw [h 5 (by decide)]; exact q5)
    refine ⟨IX, ?_, (((((a0).trans a1).trans a2).trans a3).trans a4).trans aX, cX⟩
    rw [bd_st ((v_49 S).trans eX), if_neg (by decide), q5]
    rfl
  obtain ⟨I5, e5, a5, c5⟩ := m_tkI (J := J) S W c4 sx1_5 (by rw [h 5 (by decide)]; exact q5)
  rw [bd_st ((v_49 S).trans e5), if_pos rfl]
  by_cases q6 : y = 6
  · obtain ⟨IX, eX, aX, cX⟩ := m_tkO (J := J) S W hp c5 sx1_6 (by rw [h 6 (by decide)]; exact q6)
    refine ⟨IX, ?_, ((((((a0).trans a1).trans a2).trans a3).trans a4).trans a5).trans aX, cX⟩
    rw [bd_st ((v_49 S).trans eX), if_neg (by decide), q6]
    rfl
  obtain ⟨I6, e6, a6, c6⟩ := m_tkI (J := J) S W c5 sx1_6 (by rw [h 6 (by decide)]; exact q6)
  rw [bd_st ((v_49 S).trans e6), if_pos rfl]
  by_cases q7 : y = 7
  · obtain ⟨IX, eX, aX, cX⟩ := m_tkO (J := J) S W hp c6 sx1_7 (by rw [h 7 (by decide)]; exact q7)
    refine ⟨IX, ?_, (((((((a0).trans a1).trans a2).trans a3).trans a4).trans a5).trans a6).trans aX, cX⟩
    rw [bd_st ((v_49 S).trans eX), if_neg (by decide), q7]
    rfl
  omega
theorem m_knI (S : Sw w) (W : TxW b n) (C : MT b n p I) (h : ∀ i, i < 8 → ¬ wcM b (sk b n p) (wE b n (sk b n p)) = nn (cdL 1 0 wl1 i)) : ∃ I1, f_X12_knownHere 49 (st w I J) = some (.inl (-1), st w I1 J) ∧ MA I I1 ∧ MT b n p I1 := by
  obtain ⟨I0, e0, a0, c0⟩ := m_tkI (J := J) S W C sx1_0 (h 0 (by decide))
  obtain ⟨I1, e1, a1, c1⟩ := m_tkI (J := J) S W c0 sx1_1 (h 1 (by decide))
  obtain ⟨I2, e2, a2, c2⟩ := m_tkI (J := J) S W c1 sx1_2 (h 2 (by decide))
  obtain ⟨I3, e3, a3, c3⟩ := m_tkI (J := J) S W c2 sx1_3 (h 3 (by decide))
  obtain ⟨I4, e4, a4, c4⟩ := m_tkI (J := J) S W c3 sx1_4 (h 4 (by decide))
  obtain ⟨I5, e5, a5, c5⟩ := m_tkI (J := J) S W c4 sx1_5 (h 5 (by decide))
  obtain ⟨I6, e6, a6, c6⟩ := m_tkI (J := J) S W c5 sx1_6 (h 6 (by decide))
  obtain ⟨I7, e7, a7, c7⟩ := m_tkI (J := J) S W c6 sx1_7 (h 7 (by decide))
  refine ⟨I7, ?_, (((((((a0).trans a1).trans a2).trans a3).trans a4).trans a5).trans a6).trans a7, c7⟩
  rw [f_X12_knownHere, bd_st ((v_49 S).trans e0), if_pos rfl, bd_st ((v_49 S).trans e1), if_pos rfl, bd_st ((v_49 S).trans e2), if_pos rfl, bd_st ((v_49 S).trans e3), if_pos rfl, bd_st ((v_49 S).trans e4), if_pos rfl, bd_st ((v_49 S).trans e5), if_pos rfl, bd_st ((v_49 S).trans e6), if_pos rfl, bd_st ((v_49 S).trans e7), if_pos rfl]
  rfl
end MLAW
