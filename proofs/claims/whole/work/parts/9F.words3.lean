/-! PURE PART: the model reads words -/
theorem bit_sh : ∀ v, v < 8 → ∀ q, q < 8 → (bit ((1 : Int32) <<< (nn v &&& 31)) q ↔ v = q) := by
  unfold bit
  decide
def KR : List Nat := [49, 406, 407, 408, 409, 410, 411, 412, 413]
theorem KR_in {j : Nat} (h : j < 8) : 406 + j ∈ KR := by
  unfold KR
  simp
  omega
section WORDS3
variable {w : Wd} {I : Is} {J : Js} {b : Nat → Nat} {n : Nat} {F : Fo} {V : Wo}
/-- a fault ends the words -/
theorem m_wF (S : Sw w) (W : TxW b n) {p : Nat} (hp : p ≤ n) (T : TxM I b n) (h4 : I 49 4 = nn p) (h5 : ¬ I 49 5 = 0) (N : Nat) (x y : Int32) : f_X12_words_b162 (f_X12_words_b48 (N + 1)) 49 x y (st w I J) = some (.inl (I 49 5 - 10), st w (up2 (up2 I 49 4 (nn (sk b n p))) 49 3 (I 49 6)) J) := by
  have e0 := (v_49 S (F := f_X12_blanks 49)).trans (m_blanks (J := J) S W hp T h4)
  have k5 : up2 I 49 4 (nn (sk b n p)) 49 5 = I 49 5 := up2_k (by decide)
  have i5 := i_49_5 (I := up2 I 49 4 (nn (sk b n p))) (J := J) S
  rw [k5] at i5
  have i6 := i_49_6 (I := up2 I 49 4 (nn (sk b n p))) (J := J) S
  rw [up2_k (by decide)] at i6
  have j5 := i_49_5 (I := up2 (up2 I 49 4 (nn (sk b n p))) 49 3 (I 49 6)) (J := J) S
  rw [up2_k (by decide), k5] at j5
  have en : f_X12_ends 49 (st w (up2 I 49 4 (nn (sk b n p))) J) = some (.inl (I 49 5 - 10), st w (up2 (up2 I 49 4 (nn (sk b n p))) 49 3 (I 49 6)) J) := by
    rw [f_X12_ends, bd_st i6, bd_st (w_49_3 S), bd_st j5]
    rfl
  rw [f_X12_words_b162, bd_st e0, f_X12_words_b48, bd_st i5, if_neg h5, f_X12_words_b169, bd_st i5, if_neg h5, bd_st ((v_49 S).trans en)]
  rfl
theorem m_wG (S : Sw w) (W : TxW b n) {p : Nat} (hp : p ≤ n) (T : TxM I b n) (h4 : I 49 4 = nn p) (h5 : ¬ I 49 5 = 0) (N : Nat) (x y z : Int32) : f_X12_words_b110 (f_X12_words_b48 (N + 1)) 49 x y z (st w I J) = some (.inl (I 49 5 - 10), st w (up2 (up2 I 49 4 (nn (sk b n p))) 49 3 (I 49 6)) J) := by
  rw [f_X12_words_b110, bd_st ((v_49 S).trans (m_numF S h5 0 6)), bd_st ((v_49 S).trans (m_signF S h5 59)), bd_st (i_49_5 S), if_neg h5]
  exact m_wF S W hp T h4 h5 N x y
/-- the model before a line -/
def WMl (I0 : Is) (b : Nat → Nat) (n : Nat) (F : Fo) (p : Nat) (V : Wo) (x : Int32) (I : Is) : Prop := Ag KR I0 I ∧ (∀ j, j ≠ 4 → j ≠ 5 → j ≠ 6 → I 49 j = I0 49 j) ∧ TxM I b n ∧ I 49 5 = 0 ∧ I 49 4 = nn (sk b n p) ∧ I 53 0 = nn (sz F) ∧ (∀ j, j < V.1 → I (406 + j) 0 = nn (V.2.1 j) ∧ I (406 + j) 1 = nn (V.2.2 j)) ∧ ∀ q, q < 8 → (bit x q ↔ tld V q)
def WMe (w : Wd) (J : Js) (I0 : Is) (z : Option ((Int32 ⊕ (Nat × Nat)) × PS)) : (Int32 × Nat) ⊕ Wo → Prop
  | .inl r => ∃ I1, z = some (.inl (r.1 - 10), st w I1 J) ∧ Ag KR I0 I1 ∧ (∀ j, j ≠ 3 → j ≠ 4 → j ≠ 5 → j ≠ 6 → I1 49 j = I0 49 j) ∧ I1 49 3 = nn r.2
  | .inr V => ∃ I1, z = f_X12_words_b169 49 (nn V.1) (st w I1 J) ∧ Ag KR I0 I1 ∧ (∀ j, j ≠ 4 → j ≠ 5 → j ≠ 6 → I1 49 j = I0 49 j) ∧ I1 49 5 = 0 ∧ ∀ j, j < V.1 → I1 (406 + j) 0 = nn (V.2.1 j) ∧ I1 (406 + j) 1 = nn (V.2.2 j)
theorem m_words (S : Sw w) (W : TxW b n) (WF : FoW F) {I0 : Is} {r : (Int32 × Nat) ⊕ Wo} : ∀ d p V x I N, WP b n (sz F) d p V r → WMl I0 b n F p V x I → p ≤ n → WoW F V → 9 - V.1 < N → WMe w J I0 (f_X12_words_b48 N 49 (nn V.1) x (st w I J)) r := by
  have hn := W.1
  have z8 := WF.1
  intro d
  induction d with
  | zero => intro p V x I N H; exact H.elim
  | succ d ih =>
    intro p V x I N H ⟨a, kj, T, h5, h4, hz, hr, hm⟩ hp WV hN
    have v8 := WV.1
    obtain ⟨N, rfl⟩ : ∃ M, N = M + 2 := ⟨N - 2, by omega⟩
    have g := sk_ge (b := b) hp
    have sid := sk_id (b := b) hp
    obtain ⟨s, hs⟩ : ∃ s, s = sk b n p := ⟨_, rfl⟩
    unfold WP at H
    rw [← hs] at H g sid h4
    have i5 := i_49_5 (I := I) (J := J) S
    rw [h5] at i5
    have i4 := i_49_4 (I := I) (J := J) S
    rw [h4] at i4
    have i2 := i_49_2 (I := I) (J := J) S
    rw [T.1] at i2
    have ql : (nn n ≤ nn s) = (n ≤ s) := nn_le (by omega) (by omega)
    rcases H with ⟨h1, rfl⟩ | H
    · refine ⟨I, ?_, a, kj, h5, hr⟩
      rw [f_X12_words_b48, bd_st i5, if_pos rfl, bd_st i4, bd_st i2, if_pos (by rw [ql]; omega)]
    have h1 : s < n := by
      rcases H with ⟨h1, -⟩ | ⟨h1, -⟩ | ⟨q, ⟨h1, -⟩, -⟩ <;> exact h1
    have lz := l_53_0 (I := I) (J := J) S
    rw [hz] at lz
    obtain ⟨n1, n2⟩ := m_num (J := J) (m := sz F) S W (show s ≤ n by omega) T h4 h5 (by omega)
    rw [sid] at n1 n2
    have ge := gE_ge (b := b) (show s ≤ n by omega)
    have hd : ∀ v I2, f_X12_number 49 0 (nn (sz F) - 1) (st w I J) = some (.inl v, st w I2 J) → f_X12_words_b48 (N + 2) 49 (nn V.1) x (st w I J) = (if (I2 49 5 = 0 : Prop) then (bd (f_X12_has x v) fun v19 => if (v19 = 0 : Prop) then (f_X12_words_b110 (f_X12_words_b48 (N + 1)) 49 (nn V.1) x v) else bd (cv 12 49 (f_X12_wrong 49 2 (nn s))) fun _ => f_X12_words_b110 (f_X12_words_b48 (N + 1)) 49 (nn V.1) x v) else f_X12_words_b110 (f_X12_words_b48 (N + 1)) 49 (nn V.1) x v) (st w I2 J) := fun v I2 e => by
      rw [show N + 2 = (N + 1) + 1 from rfl, f_X12_words_b48, bd_st i5, if_pos rfl, bd_st i4, bd_st i2, if_neg (by rw [ql]; omega), bd_st i4, bd_st (r_49_12 S), bd_st lz, bd_st ((v_49 S).trans e), bd_st (i_49_5 S)]
    -- a fault: the end of it
    have fin : ∀ (I2 : Is) (u : Nat) (k : Int32) (p' : Nat), Ag KR I0 I2 → (∀ j, j ≠ 4 → j ≠ 5 → j ≠ 6 → I2 49 j = I0 49 j) → I2 49 5 = k → I2 49 6 = nn u → WMe w J I0 (some (.inl (I2 49 5 - 10), st w (up2 (up2 I2 49 4 (nn (sk b n p'))) 49 3 (I2 49 6)) J)) (.inl (k, u)) := fun I2 u k p' a2 k2 f5 f6 => by
      refine ⟨_, by rw [f5], (a2.up (by decide)).up (by decide), fun j j3 j4 j5 j6 => ?_, ?_⟩
      · rw [up2_k j3, up2_k j4]
        exact k2 j j4 j5 j6
      · rw [up2_s]
        exact f6
    rcases H with ⟨-, h2, rfl⟩ | ⟨-, h2, ht, rfl⟩ | ⟨q, ⟨-, h2, ht, hq⟩, H⟩
    · obtain ⟨I2, hI2⟩ : ∃ I2, I2 = up2 (up2 (up2 I 49 4 (nn (gE b n s))) 49 5 (if s < gE b n s then 2 else 1)) 49 6 (nn s) := ⟨_, rfl⟩
      have e2 := n2 h2
      rw [← hI2] at e2
      have f5 : I2 49 5 = if s < gE b n s then 2 else 1 := by rw [hI2, up2_k (by decide), up2_s]
      have f50 : ¬ I2 49 5 = 0 := by rw [f5]; split <;> decide
      rw [hd _ _ e2, if_neg f50, m_wG S W (p := gE b n s) (by omega) (by rw [hI2]; exact ((T.up ⟨by decide, Or.inr (by decide)⟩).up ⟨by decide, Or.inr (by decide)⟩).up ⟨by decide, Or.inr (by decide)⟩) (by rw [hI2]; simp (disch := decide) only [up2_k, up2_s]) f50]
      refine fin I2 s _ _ (by rw [hI2]; exact ((a.up (by decide)).up (by decide)).up (by decide)) (fun j j4 j5 j6 => ?_) f5 (by rw [hI2, up2_s])
      rw [hI2, up2_k j6, up2_k j5, up2_k j4]
      exact kj j j4 j5 j6
    all_goals
      have hv : nuV b n s < 8 := by omega
      have a2 : Ag KR I0 (up2 I 49 4 (nn (gE b n s))) := a.up (by decide)
      have T2 : TxM (up2 I 49 4 (nn (gE b n s))) b n := T.up ⟨by decide, Or.inr (by decide)⟩
      have f5 : up2 I 49 4 (nn (gE b n s)) 49 5 = 0 := by rw [up2_k (by decide)]; exact h5
      have k2 : ∀ j, j ≠ 4 → j ≠ 5 → j ≠ 6 → up2 I 49 4 (nn (gE b n s)) 49 j = I0 49 j := fun j j4 j5 j6 => by rw [up2_k j4]; exact kj j j4 j5 j6
      have e2 := hd _ _ (n1 h2)
      rw [if_pos f5] at e2
    · have hh : f_X12_has x (nn (nuV b n s)) (st w (up2 I 49 4 (nn (gE b n s))) J) = some (.inl 1, st w (up2 I 49 4 (nn (gE b n s))) J) := by
        rw [f_X12_has, if_pos ((hm _ hv).2 ht)]
        rfl
      have f52 : ¬ up2 (up2 (up2 I 49 4 (nn (gE b n s))) 49 5 2) 49 6 (nn s) 49 5 = 0 := by rw [up2_k (by decide), up2_s]; decide
      rw [e2, bd_st hh, if_neg (by decide), bd_st ((v_49 S).trans (m_wrong S f5 2 (nn s))), m_wG S W (p := gE b n s) (by omega) ((T2.up ⟨by decide, Or.inr (by decide)⟩).up ⟨by decide, Or.inr (by decide)⟩) (by simp (disch := decide) only [up2_k, up2_s]) f52]
      refine fin _ s _ _ ((a2.up (by decide)).up (by decide)) (fun j j4 j5 j6 => ?_) (by rw [up2_k (by decide), up2_s]) up2_s
      rw [up2_k j6, up2_k j5]
      exact k2 j j4 j5 j6
    · have hh : f_X12_has x (nn (nuV b n s)) (st w (up2 I 49 4 (nn (gE b n s))) J) = some (.inl 0, st w (up2 I 49 4 (nn (gE b n s))) J) := by
        rw [f_X12_has, if_neg (fun y => ht ((hm _ hv).1 y))]
        rfl
      rw [bd_st hh, if_pos rfl] at e2
      have q4 : up2 I 49 4 (nn (gE b n s)) 49 4 = nn q := by rw [up2_s, hq]
      have qz : ∀ j, j < V.1 → up2 I 49 4 (nn (gE b n s)) (406 + j) 0 = nn (V.2.1 j) ∧ up2 I 49 4 (nn (gE b n s)) (406 + j) 1 = nn (V.2.2 j) := fun j hj => by
        rw [up2_a (by omega), up2_a (by omega)]
        exact hr j hj
      have q53 : up2 I 49 4 (nn (gE b n s)) 53 0 = nn (sz F) := by rw [up2_a (by decide)]; exact hz
      obtain ⟨I2, hI2⟩ : ∃ I2, I2 = up2 I 49 4 (nn (gE b n s)) := ⟨_, rfl⟩
      rw [← hI2] at a2 T2 f5 k2 e2 q4 qz q53
      obtain ⟨v, hvv⟩ : ∃ v, v = nuV b n s := ⟨_, rfl⟩
      rw [← hvv] at hv ht e2 H
      have gq := sk_ge (b := b) (show q ≤ n by omega)
      obtain ⟨m1, m2⟩ := m_num (J := J) (m := 7) S W (show q ≤ n by omega) T2 q4 f5 (by omega)
      rw [show nn 7 - 1 = (6 : Int32) from by decide] at m1 m2
      obtain ⟨u, hu⟩ : ∃ u, u = sk b n q := ⟨_, rfl⟩
      rw [← hu] at m1 m2 H gq
      have gt := gE_ge (b := b) (show u ≤ n by omega)
      rw [e2, f_X12_words_b110]
      rcases H with ⟨h6, rfl⟩ | ⟨t, h6, ht', H⟩
      · obtain ⟨I3, hI3⟩ : ∃ I3, I3 = up2 (up2 (up2 I2 49 4 (nn (gE b n u))) 49 5 (if u < gE b n u then 2 else 1)) 49 6 (nn u) := ⟨_, rfl⟩
        have e3 := m2 h6
        rw [← hI3] at e3
        have g5 : I3 49 5 = if u < gE b n u then 2 else 1 := by rw [hI3, up2_k (by decide), up2_s]
        have g50 : ¬ I3 49 5 = 0 := by rw [g5]; split <;> decide
        rw [bd_st ((v_49 S).trans e3), bd_st ((v_49 S).trans (m_signF S g50 59)), bd_st (i_49_5 S), if_neg g50, m_wF S W (p := gE b n u) (by omega) (by rw [hI3]; exact ((T2.up ⟨by decide, Or.inr (by decide)⟩).up ⟨by decide, Or.inr (by decide)⟩).up ⟨by decide, Or.inr (by decide)⟩) (by rw [hI3]; simp (disch := decide) only [up2_k, up2_s]) g50]
        refine fin I3 u _ _ (by rw [hI3]; exact ((a2.up (by decide)).up (by decide)).up (by decide)) (fun j j4 j5 j6 => ?_) g5 (by rw [hI3, up2_s])
        rw [hI3, up2_k j6, up2_k j5, up2_k j4]
        exact k2 j j4 j5 j6
      · have T3 : TxM (up2 I2 49 4 (nn (gE b n u))) b n := T2.up ⟨by decide, Or.inr (by decide)⟩
        have r5 : up2 I2 49 4 (nn (gE b n u)) 49 5 = 0 := by rw [up2_k (by decide)]; exact f5
        have r4 : up2 I2 49 4 (nn (gE b n u)) 49 4 = nn t := by rw [up2_s, ht']
        have e3 := m1 h6
        have gt' := sk_ge (b := b) (show t ≤ n by omega)
        rcases H with ⟨h7, rfl⟩ | ⟨h7, H⟩
        · have e4 : f_X12_sign 49 59 _ = _ := m_signNo (J := J) (x := 59) S W (show t ≤ n by omega) (by decide) T3 r4 r5 h7
          obtain ⟨I4, hI4⟩ : ∃ I4, I4 = up2 (up2 (up2 (up2 I2 49 4 (nn (gE b n u))) 49 4 (nn (sk b n t))) 49 5 1) 49 6 (nn (sk b n t)) := ⟨_, rfl⟩
          rw [← hI4] at e4
          have g5 : I4 49 5 = 1 := by rw [hI4, up2_k (by decide), up2_s]
          have g50 : ¬ I4 49 5 = 0 := by rw [g5]; decide
          rw [bd_st ((v_49 S).trans e3), bd_st ((v_49 S).trans e4), bd_st (i_49_5 S), if_neg g50, m_wF S W (p := sk b n t) (by omega) (by rw [hI4]; exact ((T3.up ⟨by decide, Or.inr (by decide)⟩).up ⟨by decide, Or.inr (by decide)⟩).up ⟨by decide, Or.inr (by decide)⟩) (by rw [hI4]; simp (disch := decide) only [up2_k, up2_s]) g50]
          refine fin I4 (sk b n t) _ _ (by rw [hI4]; exact (((a2.up (by decide)).up (by decide)).up (by decide)).up (by decide)) (fun j j4 j5 j6 => ?_) g5 (by rw [hI4, up2_s])
          rw [hI4, up2_k j6, up2_k j5, up2_k j4, up2_k j4]
          exact k2 j j4 j5 j6
        · have e4 : f_X12_sign 49 59 _ = _ := m_signOk (J := J) (x := 59) S W (show t ≤ n by omega) (by decide) T3 r4 r5 h7
          rw [up2_2] at e4
          have WV' := wAdd_W WV (show v < sz F by omega) (show nuV b n u ≤ 6 by omega) ht
          have hV8 : V.1 < 8 := by
            have h := WV'.1
            have h' : (wAdd V v (nuV b n u)).1 = V.1 + 1 := rfl
            omega
          obtain ⟨I4, hI4⟩ : ∃ I4, I4 = up2 I2 49 4 (nn (sk b n t + 1)) := ⟨_, rfl⟩
          rw [← hI4] at e4
          have g5 : I4 49 5 = 0 := by rw [hI4, up2_k (by decide)]; exact f5
          have i5 := i_49_5 (I := I4) (J := J) S
          rw [g5] at i5
          obtain ⟨I5, hI5⟩ : ∃ I5, I5 = up2 (up2 I4 (406 + V.1) 0 (nn v)) (406 + V.1) 1 (nn (nuV b n u)) := ⟨_, rfl⟩
          have n49 : 406 + V.1 ≠ 49 := by omega
          have n50 : 406 + V.1 ≠ 50 := by omega
          have T5 : TxM I5 b n := by rw [hI5, hI4]; exact ((T2.up ⟨by decide, Or.inr (by decide)⟩).up ⟨n50, Or.inl n49⟩).up ⟨n50, Or.inl n49⟩
          have l4 : I5 49 4 = nn (sk b n t + 1) := by rw [hI5, up2_a n49.symm, up2_a n49.symm, hI4, up2_s]
          have e5 := (v_49 S (F := f_X12_blanks 49)).trans (m_blanks (J := J) S W (show sk b n t + 1 ≤ n by omega) T5 l4)
          have k5 : ∀ j, j ≠ 4 → I5 49 j = I2 49 j := fun j j4 => by rw [hI5, up2_a n49.symm, up2_a n49.symm, hI4, up2_k j4]
          have row : ∀ j, j < V.1 + 1 → I5 (406 + j) 0 = nn ((wAdd V v (nuV b n u)).2.1 j) ∧ I5 (406 + j) 1 = nn ((wAdd V v (nuV b n u)).2.2 j) := fun j hj => by
            show _ = nn (if j = V.1 then v else V.2.1 j) ∧ _ = nn (if j = V.1 then nuV b n u else V.2.2 j)
            rw [hI5]
            by_cases e : j = V.1
            · rw [if_pos e, if_pos e, e, up2_k (by decide), up2_s, up2_s]
              exact ⟨rfl, rfl⟩
            · rw [if_neg e, if_neg e, up2_a (by omega), up2_a (by omega), up2_a (by omega), up2_a (by omega), hI4, up2_a (by omega), up2_a (by omega)]
              exact qz j (by omega)
          have a5 : Ag KR I0 I5 := by rw [hI5, hI4]; exact ((a2.up (by decide)).up (KR_in hV8)).up (KR_in hV8)
          have go : (bd (cv 12 49 (f_X12_number 49 0 6)) fun v5 => bd (cv 12 49 (f_X12_sign 49 59)) fun _ => bd (gI 12 5 49) fun v6 => if (v6 = 0 : Prop) then (bd (gR 12 22 49) fun r7 => bd (aR 3 r7 (nn V.1)) fun r8 => bd (as_ r8 0 (nn v)) fun _ => bd (gR 12 22 49) fun r9 => bd (aR 3 r9 (nn V.1)) fun r10 => bd (as_ r10 1 v5) fun _ => f_X12_words_b162 (f_X12_words_b48 (N + 1)) 49 (nn V.1 + 1) (x ||| ((1 : Int32) <<< (nn v &&& 31)))) else f_X12_words_b162 (f_X12_words_b48 (N + 1)) 49 (nn V.1) x) (st w I2 J) = f_X12_words_b48 (N + 1) 49 (nn (V.1 + 1)) (x ||| ((1 : Int32) <<< (nn v &&& 31))) (st w (up2 I5 49 4 (nn (sk b n (sk b n t + 1)))) J) := by
            rw [bd_st ((v_49 S).trans e3), bd_st ((v_49 S).trans e4), bd_st i5, if_pos rfl, bd_st (r_49_22 S), bd_st (g_405 S hV8), bd_st (s_406_0 S hV8), bd_st (r_49_22 S), bd_st (g_405 S hV8), bd_st (s_406_1 S hV8), ← hI5, f_X12_words_b162, bd_st e5, nn_succ]
          rw [go]
          refine ih _ (wAdd V v (nuV b n u)) _ _ _ H ⟨a5.up (by decide), fun j j4 j5 j6 => ?_, T5.up ⟨by decide, Or.inr (by decide)⟩, ?_, up2_s, ?_, fun j hj => ?_, fun y hy => ?_⟩ (by omega) WV' ?_
          · rw [up2_k j4, k5 j j4]; exact k2 j j4 j5 j6
          · rw [up2_k (by decide), k5 5 (by decide)]; exact f5
          · rw [up2_a (by decide), hI5, up2_a (by omega), up2_a (by omega), hI4, up2_a (by decide)]; exact q53
          · rw [up2_a (by omega), up2_a (by omega)]
            exact row j hj
          · rw [bit_or _ _ (by omega), hm y hy, bit_sh v hv y hy]
            constructor
            · rintro (k | k)
              · intro z
                refine k fun j hj e => z j (Nat.lt_succ_of_lt hj) ?_
                show (if j = V.1 then v else V.2.1 j) = y
                rw [if_neg (by omega)]; exact e
              · intro z
                refine z V.1 (Nat.lt_succ_self _) ?_
                show (if V.1 = V.1 then v else V.2.1 V.1) = y
                rw [if_pos rfl]; exact k
            · intro k
              by_cases e : v = y
              · exact Or.inr e
              · refine Or.inl fun z => k fun j hj => ?_
                show ¬ (if j = V.1 then v else V.2.1 j) = y
                have hj' : j < V.1 + 1 := hj
                by_cases ej : j = V.1
                · rw [if_pos ej]; exact e
                · rw [if_neg ej]; exact z j (by omega)
          · show 9 - (V.1 + 1) < N + 1
            omega
end WORDS3
