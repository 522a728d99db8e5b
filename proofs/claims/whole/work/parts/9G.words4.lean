/-! PURE PART: a text opens, in both; words -/
theorem bd_er {α β : Type} {m : Mo α} {f : α → Mo β} {σ σ' : PS} {e : Nat × Nat} (h : m σ = some (.inr e, σ')) : bd m f σ = some (.inr e, σ') := by
  rw [bd_eq, h]
/-- a length that may be read -/
def lnP (t L : Nat) (x : Int32) : Prop := ∃ m, m ≤ t ∧ m ≤ L ∧ x = nn m
/-- the class's text, opened -/
def opI (I : Is) (m : Nat) : Is := up2 (up2 (up2 (up2 (up2 (up2 I 1 2 (nn m)) 1 1 0) 1 3 0) 1 4 0) 1 5 0) 1 6 (-1)
/-- the model's text, opened -/
def staI (I : Is) (b : Nat → Nat) (m : Nat) : Is := up2 (up2 (up2 (up2 (up2 (up2 (up2 (up2 I 49 1 0) 49 2 (nn m)) 49 4 0) 49 5 0) 49 6 (-1)) 49 7 0) 49 8 0) 49 4 (nn (sk b m 0))
section OPEN
variable {w : Wd} {I : Is} {J : Js} {b : Nat → Nat} {n k : Nat} {D : Dt}
theorem c_openOk (S : Sw w) {t L m : Nat} (ht : I 1 1 = nn t) (t6 : t ≤ 600) (hL : L ≤ 600) (h1 : m ≤ t) (h2 : m ≤ L) : f_X11_openText 0 (nn m) (nn L) (st w I J) = some (.inl (), st w (opI I m) J) := by
  have i1 := i_1_1 (I := I) (J := J) S
  rw [ht] at i1
  have op : f_X8_open 1 (nn m) (st w I J) = some (.inl (), st w (opI I m) J) := by
    have e : mn32 (nn m) (nn 600) = nn m := by rw [mn_nn (by omega) (by omega), Nat.min_eq_left (by omega)]
    rw [f_X8_open, bd_st (r_1_0 S), bd_st (ln_2 S), e, bd_st (w_1_2 S), bd_st (w_1_1 S), bd_st (w_1_3 S), bd_st (w_1_4 S), bd_st (w_1_5 S), bd_st (w_1_6 S)]
    rfl
  rw [f_X11_openText, if_neg (nn_nneg (by omega)), bd_st (r_0_0 S), bd_st i1, if_neg (by rw [nn_lt (by omega) (by omega)]; omega), if_neg (by rw [nn_lt (by omega) (by omega)]; omega), f_X11_openText_b26, bd_st ((v_0 S).trans n_argT), bd_st (r_0_0 S), bd_st ((v_1 S).trans op)]
  rfl
theorem c_openNo (S : Sw w) (hr : Rm w) {t L : Nat} {x : Int32} (ht : I 1 1 = nn t) (t6 : t ≤ 600) (hL : L ≤ 600) (h : ¬ lnP t L x) : f_X11_openText 0 x (nn L) (st w I J) = some (.inr (w.1, 14), st (tw w 14) (up2 I 0 17 (I 0 17 + 1)) J) := by
  have i1 := i_1_1 (I := I) (J := J) S
  rw [ht] at i1
  have fin : f_X11_openText_b25 0 x 0 (st w I J) = some (.inr (w.1, 14), st (tw w 14) (up2 I 0 17 (I 0 17 + 1)) J) := by
    rw [f_X11_openText_b25, f_X11_openText_b26, bd_er ((v_0 S).trans (n_argF S hr))]
  rw [f_X11_openText]
  by_cases h0 : x < 0
  · rw [if_pos h0]
    exact fin
  rw [if_neg h0, bd_st (r_0_0 S), bd_st i1]
  by_cases h1 : nn t < x
  · rw [if_pos h1]
    exact fin
  rw [if_neg h1]
  by_cases h2 : nn L < x
  · rw [if_pos h2]
    exact fin
  obtain ⟨m, hm, rfl⟩ := nn_of h0
  rw [nn_lt (by omega) hm] at h1 h2
  exact absurd ⟨m, by omega, by omega, rfl⟩ h
theorem op_T (H : TxC I b n) {m : Nat} (hm : m ≤ n) : TxC (opI I m) b m := by
  refine ⟨?_, fun c hc => ?_⟩
  · unfold opI
    simp (disch := decide) only [up2_k, up2_s]
  · unfold opI
    simp (disch := decide) only [up2_a]
    exact H.2 c (by omega)
theorem m_starts (S : Sw w) {m : Nat} (W : TxW b m) (T : ∀ c, c < m → I 50 c = nn (b c)) : f_X12_starts 49 (nn m) (st w I J) = some (.inl (), st w (staI I b m) J) := by
  have T' : TxM (up2 (up2 (up2 (up2 (up2 (up2 (up2 I 49 1 0) 49 2 (nn m)) 49 4 0) 49 5 0) 49 6 (-1)) 49 7 0) 49 8 0) b m := by
    refine ⟨?_, fun c hc => ?_⟩
    · simp (disch := decide) only [up2_k, up2_s]
    · simp (disch := decide) only [up2_a]
      exact T c hc
  have e := (v_49 S (F := f_X12_blanks 49)).trans (m_blanks (J := J) S W (Nat.zero_le m) T' (show _ = nn 0 by simp (disch := decide) only [up2_k, up2_s]; rfl))
  rw [f_X12_starts, bd_st (w_49_1 S), bd_st (w_49_2 S), bd_st (w_49_4 S), bd_st (w_49_5 S), bd_st (w_49_6 S), bd_st (w_49_7 S), bd_st (w_49_8 S), bd_st e]
  rfl
theorem st_T {m : Nat} (T : ∀ c, c < m → I 50 c = nn (b c)) : TxM (staI I b m) b m := by
  refine ⟨?_, fun c hc => ?_⟩
  · unfold staI
    simp (disch := decide) only [up2_k, up2_s]
  · unfold staI
    simp (disch := decide) only [up2_a]
    exact T c hc
theorem in_ok {t m : Nat} (ht : t ≤ 600) (h : m ≤ t) {σ : PS} : f_X12_in (nn m) 0 (nn t) σ = some (.inl 1, σ) := by
  rw [f_X12_in, if_neg (nn_nneg (by omega)), if_neg (by rw [nn_lt (by omega) (by omega)]; omega)]
  rfl
-- the words laid down
theorem m_layR (S : Sw w) {j : Nat} (hj : j < 8) (x : Int32) (k2 : Nat → Nat → Int32 → Int32 → Mo Unit) : f_X12_lays_b10 k2 NF 405 396 x (nn j) 0 (st w I J) = k2 405 396 x (nn (j + 1)) (st w (up2 (up2 I (397 + j) 0 (I (406 + j) 0)) (397 + j) 1 (I (406 + j) 1)) J) := by
  obtain ⟨M, hM⟩ : ∃ M, NF = M + 3 := ⟨9997, rfl⟩
  have l1 := l_406_1 (I := up2 I (397 + j) 0 (I (406 + j) 0)) (J := J) (p := j) S hj
  rw [up2_a (by omega)] at l1
  rw [hM, show M + 3 = M + 2 + 1 from rfl, f_X12_lays_b10, bd_st (g_396 S hj), bd_st (ln_397 S hj), if_neg (by decide), bd_st (g_396 S hj), bd_st (g_405 S hj), bd_st (l_406_0 S hj), bd_st (s_397_0 S hj), show (0 : Int32) + 1 = 1 from rfl, show M + 2 = M + 1 + 1 from rfl, f_X12_lays_b10, bd_st (g_396 S hj), bd_st (ln_397 S hj), if_neg (by decide), bd_st (g_396 S hj), bd_st (g_405 S hj), bd_st l1, bd_st (s_397_1 S hj), show (1 : Int32) + 1 = 2 from rfl, f_X12_lays_b10, bd_st (g_396 S hj), bd_st (ln_397 S hj), if_pos (by decide), nn_succ]
def KL : List Nat := [397, 398, 399, 400, 401, 402, 403, 404]
theorem KL_in {j : Nat} (h : j < 8) : 397 + j ∈ KL := by
  unfold KL
  simp
  omega
theorem m_lays2 (S : Sw w) {m : Nat} (hm : m ≤ 8) : ∃ I1, f_X12_lays 405 396 (nn m) (st w I J) = some (.inl (), st w I1 J) ∧ Ag KL I I1 ∧ ∀ j, j < m → I1 (397 + j) 0 = I (406 + j) 0 ∧ I1 (397 + j) 1 = I (406 + j) 1 := by
  unfold f_X12_lays
  refine loopQ (fun N i (I1 : Is) => f_X12_lays_b2 N 405 396 (nn m) (nn i) (st w I1 J)) m (fun i I1 => Ag KL I I1 ∧ ∀ j, j < i → I1 (397 + j) 0 = I (406 + j) 0 ∧ I1 (397 + j) 1 = I (406 + j) 1) (fun z => ∃ I1, z = some (.inl (), st w I1 J) ∧ Ag KL I I1 ∧ ∀ j, j < m → I1 (397 + j) 0 = I (406 + j) 0 ∧ I1 (397 + j) 1 = I (406 + j) 1) ?_ ?_ m 0 I NF (by omega) (NF_gt (by omega)) ⟨Ag.refl _ _, fun j hj => by omega⟩
  · intro N i I1 hi ⟨a1, b1⟩
    left
    refine ⟨up2 (up2 I1 (397 + i) 0 (I1 (406 + i) 0)) (397 + i) 1 (I1 (406 + i) 1), ?_, (a1.up (KL_in (by omega))).up (KL_in (by omega)), fun j hj => ?_⟩
    · show f_X12_lays_b2 (N + 1) 405 396 (nn m) (nn i) (st w I1 J) = _
      rw [f_X12_lays_b2, if_neg (by rw [nn_le (by omega) (by omega)]; omega), m_layR S (by omega)]
    · by_cases e : j = i
      · rw [e, up2_k (by decide), up2_s, up2_s, a1 (406 + i) (by simp [KL]; omega)]
        exact ⟨rfl, rfl⟩
      · rw [up2_a (by omega), up2_a (by omega), up2_a (by omega), up2_a (by omega)]
        exact b1 j (by omega)
  · intro N I1 ⟨a1, b1⟩
    refine ⟨I1, ?_, a1, b1⟩
    show f_X12_lays_b2 (N + 1) 405 396 (nn m) (nn m) (st w I1 J) = _
    rw [f_X12_lays_b2, if_pos (by rw [nn_le (by omega) (by omega)]; omega)]
    rfl
theorem m_b169 (S : Sw w) {V : Wo} {F : Fo} (WF : FoW F) (WV : WoW F V) (h5 : I 49 5 = 0) (hr : ∀ j, j < V.1 → I (406 + j) 0 = nn (V.2.1 j) ∧ I (406 + j) 1 = nn (V.2.2 j)) : ∃ I1, f_X12_words_b169 49 (nn V.1) (st w I J) = some (.inl (nn V.1), st w I1 J) ∧ Ag (49 :: KL) I I1 ∧ (∀ j, j ≠ 3 → j ≠ 31 → I1 49 j = I 49 j) ∧ I1 49 3 = -1 ∧ WoM I1 V := by
  have z8 := WF.1
  have v8 := WV.1
  have i5 := i_49_5 (I := I) (J := J) S
  rw [h5] at i5
  obtain ⟨I1, e1, a1, b1⟩ := m_lays2 (I := up2 (up2 I 49 3 (-1)) 49 31 (nn V.1)) (J := J) S (show V.1 ≤ 8 by omega)
  have x49 : I1 49 = up2 (up2 I 49 3 (-1)) 49 31 (nn V.1) 49 := a1 49 (by decide)
  refine ⟨I1, ?_, (((Ag.refl _ _).up (by decide)).up (by decide)).trans (a1.mono fun a ha => List.mem_cons_of_mem _ ha), fun j j3 j31 => ?_, ?_, ?_, fun j hj => ?_⟩
  · rw [f_X12_words_b169, bd_st i5, if_pos rfl, bd_st (w_49_3 S), bd_st (w_49_31 S), bd_st (r_49_22 S), bd_st (r_49_21 S), bd_st e1]
    rfl
  · rw [x49, up2_k j31, up2_k j3]
  · rw [x49, up2_k (by decide), up2_s]
  · rw [x49, up2_s]
  · rw [(b1 j hj).1, (b1 j hj).2, up2_a (by omega), up2_a (by omega), up2_a (by omega), up2_a (by omega)]
    exact hr j hj
end OPEN
