/-! PURE PART: the model reads a law -/
section MLAW2
variable {w : Wd} {I : Is} {J : Js} {b : Nat → Nat} {n p o : Nat} {L : Lw}
theorem m_tsO (S : Sw w) (W : TxW b n) (C : MT b n p I) {x : Nat} (hx : x < 128) (h : sgP b n x p) : ∃ I1, f_X12_takesSign 49 (nn x) (st w I J) = some (.inl 1, st w I1 J) ∧ MA I I1 ∧ MT b n (sk b n p + 1) I1 := by
  have hn := W.1
  obtain ⟨I1, e1, a1, c1, p1⟩ := m_blR (J := J) S W C
  have i5 := i_49_5 (I := I) (J := J) S
  rw [C.2.1] at i5
  have i4 := i_49_4 (I := I1) (J := J) S
  rw [p1] at i4
  have hs := h.1
  have by0 := (v_49 S (F := f_X12_byteAt 49 (nn (sk b n p)))).trans (m_byte (J := J) S c1.1 hn (show sk b n p < 100000 by omega))
  refine ⟨up2 I1 49 4 (nn (sk b n p + 1)), ?_, a1.up (Or.inl rfl), c1.1.up ⟨by decide, Or.inr (by decide)⟩, by rw [up2_k (by decide)]; exact c1.2.1, sk b n p + 1, hs, up2_s, rfl⟩
  rw [f_X12_takesSign, bd_st i5, if_pos rfl, bd_st ((v_49 S).trans e1), bd_st i4, bd_st by0, if_pos (by rw [byM_eq W hx]; exact h), f_X12_takesSign_b30, if_neg (by decide), bd_st i4, nn_succ, bd_st (w_49_4 S)]
  exact rz1
theorem m_tsI (S : Sw w) (W : TxW b n) (C : MT b n p I) {x : Nat} (hx : x < 128) (h : ¬ sgP b n x p) : ∃ I1, f_X12_takesSign 49 (nn x) (st w I J) = some (.inl 0, st w I1 J) ∧ MA I I1 ∧ MT b n p I1 := by
  have hn := W.1
  obtain ⟨I1, e1, a1, c1, p1⟩ := m_blR (J := J) S W C
  have i5 := i_49_5 (I := I) (J := J) S
  rw [C.2.1] at i5
  have i4 := i_49_4 (I := I1) (J := J) S
  rw [p1] at i4
  obtain ⟨-, -, q, hq, -, eq⟩ := C
  have g := sk_ge (b := b) hq
  rw [eq] at g
  have by0 := (v_49 S (F := f_X12_byteAt 49 (nn (sk b n p)))).trans (m_byte (J := J) S c1.1 hn (show sk b n p < 100000 by omega))
  refine ⟨I1, ?_, a1, c1⟩
  rw [f_X12_takesSign, bd_st i5, if_pos rfl, bd_st ((v_49 S).trans e1), bd_st i4, bd_st by0, if_neg (by rw [byM_eq W hx]; exact h), f_X12_takesSign_b30, if_pos rfl]
  exact rz0
theorem mr_shut (S : Sw w) {u : Nat × Lw} (C : QM b n (o + 1) u I) : MR w J b n LF I ((bd (gI 12 8 49) fun v7 => bd (pf 12 8 49 (.int (v7 - (1 : Int32)))) fun _ => pu ()) (st w I J)) (.inr u : LR) (QM b n o) := by
  obtain ⟨h1, h2, h3, h4⟩ := C
  have i8 := i_49_8 (I := I) (J := J) S
  rw [h2] at i8
  refine ⟨up2 I 49 8 (nn o), ?_, (LF.refl I).u8, h1.u8, up2_s, ⟨?_, fun k hk => ?_⟩, h4⟩
  · rw [bd_st i8, nn_pred (by omega), Nat.add_sub_cancel, bd_st (w_49_8 S)]
    rfl
  · rw [up2_k (by decide)]; exact h3.1
  · rw [up2_a (by omega), up2_a (by omega)]; exact h3.2 k hk
theorem QM.up8 (C : QM b n o (p, L) I) {o' : Nat} : QM b n o' (p, L) (up2 I 49 8 (nn o')) := by
  obtain ⟨h1, h2, h3, h4⟩ := C
  refine ⟨h1.u8, up2_s, ⟨?_, fun k hk => ?_⟩, h4⟩
  · rw [up2_k (by decide)]; exact h3.1
  · rw [up2_a (by omega), up2_a (by omega)]; exact h3.2 k hk
def RcM (w : Wd) (J : Js) (b : Nat → Nat) (n : Nat) (rec : Nat → Mo Unit) (rc : Nat → Nat → Lw → LR) (o : Nat) : Prop := ∀ p L I, p ≤ n → L.1 ≤ p → QM b n o (p, L) I → MR w J b n LF I (rec 49 (st w I J)) (rc o p L) (QM b n o)
theorem mcv (S : Sw w) {R : Is → Is → Prop} {α : Type} {x : Er ⊕ α} {Q : α → Is → Prop} {M : Mo Unit} (H : MR w J b n R I (M (st w I J)) x Q) : MR w J b n R I (cv 12 49 M (st w I J)) x Q := by
  rw [v_49 S]
  exact H
section MREC
variable {rec : Nat → Mo Unit} {rc : Nat → Nat → Lw → LR}
theorem m_brack (S : Sw w) (W : TxW b n) (hk : SKP w J b n LF (rec 49)) (hr : o < 6 → RcM w J b n rec rc (o + 1)) (hE : o < 6 → ∀ p L u, p ≤ n → rc (o + 1) p L = .inr u → EX (3 * (6 - (o + 1)) + 3) n p L u) (ho : o ≤ 6) (hp : p ≤ n) (hL : L.1 ≤ p) (C : QM b n o (p, L) I) (h4 : I 49 4 = nn (sk b n p)) (h : sgP b n 40 p) : MR w J b n LF I (f_X12_one_b56 rec 49 (-1) (st w I J)) (brR rc b n o p L) (QM b n o) := by
  have hn := W.1
  have g := sk_ge (b := b) hp
  have i4 := i_49_4 (I := I) (J := J) S
  rw [h4] at i4
  have by0 := (v_49 S (F := f_X12_byteAt 49 (nn (sk b n p)))).trans (m_byte (J := J) S C.1.1 hn (show sk b n p < 100000 by omega))
  have e40 : byM b n (sk b n p) = 40 := by
    rw [show (40 : Int32) = nn 40 from rfl, byM_eq W (by decide)]
    exact h
  rw [f_X12_one_b56, if_pos rfl, bd_st i4, bd_st by0, if_pos e40]
  have O := m_open (J := J) S C.1 h4 C.2.1 ho
  unfold brR
  by_cases q : 6 ≤ o
  · rw [if_pos q] at O
    obtain ⟨I1, e1, a1, c1⟩ := O
    rw [if_pos q]
    refine ⟨I1, ?_, a1.lf, c1⟩
    rw [bd_st ((v_49 S).trans e1), if_pos rfl]
    rfl
  · rw [if_neg q] at O
    rw [if_neg q]
    have C1 : QM b n (o + 1) (p, L) (up2 I 49 8 (nn (o + 1))) := C.up8
    have j4 := i_49_4 (I := up2 I 49 8 (nn (o + 1))) (J := J) S
    rw [up2_k (by decide), h4] at j4
    have hs := h.1
    obtain ⟨I2, hI2⟩ : ∃ I2, I2 = up2 (up2 I 49 8 (nn (o + 1))) 49 4 (nn (sk b n p + 1)) := ⟨_, rfl⟩
    have a2 : MA (up2 I 49 8 (nn (o + 1))) I2 := by rw [hI2]; exact (MA.refl _).up (Or.inl rfl)
    have C2 : QM b n (o + 1) (sk b n p + 1, L) I2 := C1.ma a2 (by
      rw [hI2]
      refine ⟨C1.1.1.up ⟨by decide, Or.inr (by decide)⟩, ?_, sk b n p + 1, hs, up2_s, rfl⟩
      rw [up2_k (by decide)]; exact C1.1.2.1)
    rw [bd_st ((v_49 S).trans O), if_neg (by decide), bd_st j4, nn_succ, bd_st (w_49_4 S), ← hI2]
    refine MR.pre LF.trans (((LF.refl I).u8).trans a2.lf) ?_
    refine MR.bd LF.trans (mcv S (hr (by omega) (sk b n p + 1) L I2 (by omega) (by omega) C2)) (SKP.bd LF.trans (k_sign S 41) (k_shut S)) fun u I3 eu a3 Q3 => ?_
    exact MR.bd LF.trans (mr_sign (x := 41) S W Q3 (by decide)) (k_shut S) fun t I4 et a4 Q4 => mr_shut S Q4
theorem m_pairR (S : Sw w) (W : TxW b n) (h150 : n ≤ 150) (hk : SKP w J b n LF (rec 49)) (hr : o < 6 → RcM w J b n rec rc (o + 1)) (hE : o < 6 → ∀ p L u, p ≤ n → rc (o + 1) p L = .inr u → EX (3 * (6 - (o + 1)) + 3) n p L u) (ho : o ≤ 6) {y : Nat} (hy : y < 9) (hp : p ≤ n) (hL : L.1 < wE b n (sk b n p)) (C : QM b n o (p, L) I) (h4 : I 49 4 = nn (sk b n p)) : MR w J b n LF I (f_X12_one_b56 rec 49 (nn y) (st w I J)) (paR rc b n o (sk b n p) y (wE b n (sk b n p)) L) (QM b n o) := by
  have g := sk_ge (b := b) hp
  have g' := wE_ge (b := b) g.2
  rw [f_X12_one_b56, if_neg (nn_ne_neg (by omega))]
  have O := m_open (J := J) S C.1 h4 C.2.1 ho
  unfold paR
  by_cases q : 6 ≤ o
  · rw [if_pos q] at O
    obtain ⟨I1, e1, a1, c1⟩ := O
    rw [if_pos q]
    refine ⟨I1, ?_, a1.lf, c1⟩
    rw [bd_st ((v_49 S).trans e1), if_pos rfl]
    rfl
  · rw [if_neg q] at O
    rw [if_neg q]
    have C1 : QM b n (o + 1) (p, L) (up2 I 49 8 (nn (o + 1))) := C.up8
    obtain ⟨I2, e2, a2, c2⟩ := m_skW (J := J) S W C1.1 (by rw [up2_k (by decide)]; exact h4) hp
    have C2 : QM b n (o + 1) (wE b n (sk b n p), L) I2 := C1.ma a2 c2
    rw [bd_st ((v_49 S).trans O), if_neg (by decide), bd_st ((v_49 S).trans e2)]
    refine MR.pre LF.trans (((LF.refl I).u8).trans a2.lf) ?_
    have K6 : SKP w J b n LF (bd (cv 12 49 (f_X12_notes 49 (nn y) 0)) fun _ => bd (gI 12 8 49) fun v9 => bd (pf 12 8 49 (.int (v9 - (1 : Int32)))) fun _ => pu ()) := SKP.bd LF.trans (k_notes S _ _) (k_shut S)
    have K5 := SKP.bd (R := LF) LF.trans (k_sign (J := J) (b := b) (n := n) S 93) K6
    have K4 := SKP.bd (R := LF) LF.trans (k_cv S hk) K5
    have K3 := SKP.bd (R := LF) LF.trans (k_sign (J := J) (b := b) (n := n) S 44) K4
    have K2 := SKP.bd (R := LF) LF.trans (k_cv S hk) K3
    refine MR.bd LF.trans (mr_sign (x := 91) S W C2 (by decide)) K2 fun t I3 et a3 Q3 => ?_
    obtain ⟨s1, s2⟩ := sgR_q g'.2 et
    refine MR.bd LF.trans (mcv S (hr (by omega) t L I3 s2 (by omega) Q3)) K3 fun u I4 eu a4 Q4 => ?_
    obtain ⟨y1, y2, y3, y4, -⟩ := hE (by omega) _ _ _ s2 eu
    refine MR.bd LF.trans (mr_sign (x := 44) S W Q4 (by decide)) K4 fun t2 I5 et2 a5 Q5 => ?_
    obtain ⟨s3, s4⟩ := sgR_q y2 et2
    refine MR.bd LF.trans (mcv S (hr (by omega) t2 u.2 I5 s4 (by omega) Q5)) K5 fun v I6 ev a6 Q6 => ?_
    obtain ⟨z1, z2, z3, z4, -⟩ := hE (by omega) _ _ _ s4 ev
    refine MR.bd LF.trans (mr_sign (x := 93) S W Q6 (by decide)) K6 fun t3 I7 et3 a7 Q7 => ?_
    obtain ⟨s5, s6⟩ := sgR_q z2 et3
    exact MR.bd (x := .inr (t3, lwA v.2 (y, 0))) (f := fun u => .inr u) LF.trans (mr_notes (x := y) (y := 0) S Q7 (by omega)) (k_shut S) fun u2 I8 eu2 a8 Q8 => mr_shut S Q8
theorem gE_0 {s : Nat} (hs : s ≤ n) (h : ¬ (s < n ∧ 48 ≤ b s ∧ b s ≤ 57)) : gE b n s = s := by
  have g := gE_ge (b := b) hs
  refine Nat.le_antisymm (Nat.le_of_not_lt fun z => h ⟨by omega, ?_⟩) g.1
  have := sc_in (f := isD b) (Nat.le_refl s) z
  unfold isD at this
  simpa using this
theorem m_one (S : Sw w) (W : TxW b n) (h150 : n ≤ 150) (hk : SKP w J b n LF (rec 49)) (hr : o < 6 → RcM w J b n rec rc (o + 1)) (hE : o < 6 → ∀ p L u, p ≤ n → rc (o + 1) p L = .inr u → EX (3 * (6 - (o + 1)) + 3) n p L u) (ho : o ≤ 6) (hp : p ≤ n) (hL : L.1 ≤ p) (C : QM b n o (p, L) I) : MR w J b n LF I (f_X12_one rec 49 (st w I J)) (unR rc b n o p L) (QM b n o) := by
  have hn := W.1
  have g := sk_ge (b := b) hp
  have i5 := i_49_5 (I := I) (J := J) S
  rw [C.1.2.1] at i5
  obtain ⟨I1, e1, a1, c1, p1⟩ := m_blR (J := J) S W C.1
  obtain ⟨I2, e2, a2, c2, p2⟩ := m_isWR (J := J) S W c1 sx1_8
  obtain ⟨I3, e3, a3, c3, p3⟩ := m_isWR (J := J) S W c2 sx1_9
  have C2 : QM b n o (p, L) I2 := C.ma (a1.trans a2) c2
  have C3 : QM b n o (p, L) I3 := C.ma ((a1.trans a2).trans a3) c3
  rw [f_X12_one, bd_st i5, if_pos rfl, bd_st ((v_49 S).trans e1), bd_st ((v_49 S).trans e2)]
  -- no pair
  have no : (∀ i, 8 ≤ i → i < 10 → ¬ wcM b (sk b n p) (wE b n (sk b n p)) = nn (cdL 1 0 wl1 i)) → ∀ {x : LR}, MR w J b n LF I3 (f_X12_one_b56 rec 49 (-1) (st w I3 J)) x (QM b n o) → MR w J b n LF I ((if (bI (wcM b (sk b n p) (wE b n (sk b n p)) = nn (cdL 1 0 wl1 8)) = 0 : Prop) then (bd (cv 12 49 (f_X12_isWord 49 13 15 19 20 0 0)) fun v12 => if (v12 = 0 : Prop) then (f_X12_one_b56 rec 49 (-1)) else f_X12_one_b56 rec 49 8) else f_X12_one_b56 rec 49 7) (st w I2 J)) x (QM b n o) := fun hh {x} H => by
    rw [bI_f (hh 8 (by decide) (by decide)), if_pos rfl, bd_st ((v_49 S).trans e3), bI_f (hh 9 (by decide) (by decide)), if_pos rfl]
    exact MR.pre LF.trans ((a1.trans a2).trans a3).lf H
  have i4 := i_49_4 (I := I3) (J := J) S
  rw [p3] at i4
  have by0 := (v_49 S (F := f_X12_byteAt 49 (nn (sk b n p)))).trans (m_byte (J := J) S c3.1 hn (show sk b n p < 100000 by omega))
  -- no bracket
  have nb : ¬ sgP b n 40 p → f_X12_one_b56 rec 49 (-1) (st w I3 J) = (bd (cv 12 49 (f_X12_knownHere 49)) fun v3 => if (v3 = (-1) : Prop) then (bd (cv 12 49 (f_X12_number 49 0 999)) fun v4 => bd (cv 12 49 (f_X12_notes 49 0 v4)) fun _ => pu ()) else bd (cv 12 49 (f_X12_notes 49 1 v3)) fun _ => pu ()) (st w I3 J) := fun hh => by
    rw [f_X12_one_b56, if_pos rfl, bd_st i4, bd_st by0, if_neg (by rw [show (40 : Int32) = nn 40 from rfl, byM_eq W (by decide)]; exact hh)]
  -- a number, or none
  have num : ¬ sgP b n 40 p → (∀ i, i < 10 → ¬ wcM b (sk b n p) (wE b n (sk b n p)) = nn (cdL 1 0 wl1 i)) → MR w J b n LF I3 (f_X12_one_b56 rec 49 (-1) (st w I3 J)) (rb (nuR b n 1000 p) fun v => .inr (v.2, lwA L (0, v.1))) (QM b n o) := fun hh hw => by
    obtain ⟨I4, e4, a4, c4⟩ := m_knI (J := J) S W c3 (fun i hi => hw i (by omega))
    have C4 : QM b n o (p, L) I4 := C3.ma a4 c4
    have q999 : (999 : Int32) = nn 1000 - 1 := by decide
    rw [nb hh, bd_st ((v_49 S).trans e4), if_pos rfl]
    refine MR.pre LF.trans a4.lf ?_
    cases h : nuR b n 1000 p with
    | inl r =>
      obtain ⟨I5, e5, a5, c5⟩ := m_nuI (J := J) S W c4 (by decide) h
      rw [← q999] at e5
      obtain ⟨I6, e6, a6, c6⟩ := k_notes (J := J) S 0 0 r I5 c5
      refine ⟨I6, ?_, a5.lf.trans a6, c6⟩
      rw [bd_st ((v_49 S).trans e5), bd_st e6]
      rfl
    | inr v =>
      obtain ⟨I5, e5, a5, c5, b5⟩ := m_nuO (J := J) S W c4 (by decide) h
      rw [← q999] at e5
      have v1 := nuR_q hp h
      have v2 := nuR_b hp h
      obtain ⟨I6, e6, a6, c6⟩ := mr_notes (J := J) (x := 0) (y := v.1) S (C4.ma a5 c5) (by omega)
      have e6 : cv 12 49 (f_X12_notes 49 0 (nn v.1)) (st w I5 J) = _ := e6
      refine ⟨I6, ?_, a5.lf.trans a6, c6⟩
      rw [bd_st ((v_49 S).trans e5), bd_st e6]
      rfl
  unfold unR
  by_cases qd : dgP b n p
  · rw [if_pos qd]
    have hw := wd_0 (b := b) (k := 1) (l := wl1) hp (fun i hi => (cd_1 i hi).1) (fun z => by have := qd.2; omega)
    exact no (fun i _ h2 => by rw [hw i h2]; exact id) (num (fun z => by have := qd.2; have := z.2; omega) (fun i hi => by rw [hw i hi]; exact id))
  rw [if_neg qd]
  by_cases qb : sgP b n 40 p
  · rw [if_pos qb]
    have hw := wd_0 (b := b) (k := 1) (l := wl1) hp (fun i hi => (cd_1 i hi).1) (fun z => by have := qb.2; omega)
    exact no (fun i _ h2 => by rw [hw i h2]; exact id) (m_brack S W hk hr hE ho hp hL C3 p3 qb)
  rw [if_neg qb]
  cases h : wdR b n 1 wl1 p with
  | inl r =>
    obtain ⟨hr0, hw⟩ := wd_n (b := b) (n := n) (p := p) (l := wl1) sg_1 h
    have N := num qb (fun i hi => by rw [hw i hi]; exact id)
    have e0 : nuR b n 1000 p = .inl (1, sk b n p) := by
      unfold nuR
      rw [gE_0 g.2 qd, if_neg (by omega), if_neg (by omega)]
    rw [e0] at N
    rw [hr0]
    exact no (fun i _ h2 => by rw [hw i h2]; exact id) N
  | inr v =>
    obtain ⟨w1, w2, w3, w5⟩ := wd_c (b := b) (n := n) (p := p) (l := wl1) sg_1 cd_1 h
    have v10 : v.1 < 10 := w1
    have w4 := wdR_n hp h
    show MR w J b n LF I _ (if v.1 < 8 then .inr (v.2, lwA L (1, v.1)) else paR rc b n o (sk b n p) (v.1 - 1) v.2 L) (QM b n o)
    by_cases h8 : v.1 < 8
    · rw [if_pos h8]
      refine no (fun i h1 h2 => by rw [w5 i h2]; omega) ?_
      obtain ⟨I4, e4, a4, c4⟩ := m_knO (J := J) S W hp c3 h8 w5
      rw [← w2] at c4
      rw [nb qb, bd_st ((v_49 S).trans e4), if_neg (nn_ne_neg (by omega))]
      obtain ⟨I6, e6, a6, c6⟩ := mr_notes (J := J) (x := 1) (y := v.1) S (C3.ma a4 c4) (by omega)
      have e6 : cv 12 49 (f_X12_notes 49 1 (nn v.1)) (st w I4 J) = _ := e6
      refine ⟨I6, ?_, a4.lf.trans a6, c6⟩
      rw [bd_st e6]
      rfl
    · rw [if_neg h8, w2]
      by_cases h9 : v.1 = 8
      · have t8 : wcM b (sk b n p) (wE b n (sk b n p)) = nn (cdL 1 0 wl1 8) := by rw [w5 8 (by decide)]; exact h9
        rw [bI_t t8, if_neg (by decide), h9]
        exact MR.pre LF.trans (a1.trans a2).lf (m_pairR (y := 7) S W h150 hk hr hE ho (by decide) hp (by omega) C2 p2)
      · have h9 : v.1 = 9 := by omega
        have t8 : ¬ wcM b (sk b n p) (wE b n (sk b n p)) = nn (cdL 1 0 wl1 8) := by rw [w5 8 (by decide)]; omega
        have t9 : wcM b (sk b n p) (wE b n (sk b n p)) = nn (cdL 1 0 wl1 9) := by rw [w5 9 (by decide)]; exact h9
        rw [bI_f t8, if_pos rfl, bd_st ((v_49 S).trans e3), bI_t t9, if_neg (by decide), h9]
        exact MR.pre LF.trans ((a1.trans a2).trans a3).lf (m_pairR (y := 8) S W h150 hk hr hE ho (by decide) hp (by omega) C3 p3)
end MREC
section MREC2
variable {rec : Nat → Mo Unit} {sub : Nat → Lw → LR}
theorem m_proL (S : Sw w) (W : TxW b n) (h150 : n ≤ 150) {m2 : Nat} (hU : ∀ p L I, p ≤ n → L.1 ≤ p → QM b n o (p, L) I → MR w J b n LF I (f_X12_one rec 49 (st w I J)) (sub p L) (QM b n o)) (hX : ∀ p L u, p ≤ n → sub p L = .inr u → EX m2 n p L u) : ∀ d p L I N, n < d + p → d + 1 < N → p ≤ n → L.1 ≤ p → QM b n o (p, L) I → MR w J b n LF I (f_X12_product_b4 rec N 49 (st w I J)) (loR b n sub (jpR b n) d p L) (QM b n o) := by
  intro d
  induction d with
  | zero => intro p L I N h1 h2 h3; omega
  | succ d ih =>
    intro p L I N hd hN hp hL C
    obtain ⟨N, rfl⟩ : ∃ M, N = M + 2 := ⟨N - 2, by omega⟩
    have g := sk_ge (b := b) hp
    have i5 := i_49_5 (I := I) (J := J) S
    rw [C.1.2.1] at i5
    -- a join j
    have step : ∀ (j : Nat) (I1 : Is), 2 ≤ j → j ≤ 8 → sk b n p < n → MA I I1 → MT b n (sk b n p + 1) I1 → MR w J b n LF I (f_X12_product_b52 rec (f_X12_product_b4 rec (N + 1)) 49 (nn j) (st w I1 J)) (rb (sub (sk b n p + 1) L) fun u => loR b n sub (jpR b n) d u.1 (lwA u.2 (j, 0))) (QM b n o) := fun j I1 j2 j8 hs a1 c1 => by
      refine MR.pre LF.trans a1.lf ?_
      rw [f_X12_product_b52, if_neg (nn_ne_neg (by omega))]
      refine MR.bd LF.trans (mcv S (hU (sk b n p + 1) L I1 (by omega) (by omega) (C.ma a1 c1))) (SKP.bd LF.trans (k_notes S _ _) (k_pro4 S _ (by omega))) fun u I2 eu a2 Q2 => ?_
      obtain ⟨y1, y2, y3, y4, -⟩ := hX _ _ _ (by omega) eu
      refine MR.bd (x := .inr (u.1, lwA u.2 (j, 0))) (f := fun v => loR b n sub (jpR b n) d v.1 v.2) LF.trans (mr_notes (x := j) (y := 0) S Q2 (by omega)) (k_pro4 S _ (by omega)) fun v I3 ev a3 Q3 => ?_
      cases ev
      exact ih u.1 (lwA u.2 (j, 0)) I3 (N + 1) (by omega) (by omega) y2 (by show u.2.1 + 1 ≤ u.1; omega) Q3
    rw [show N + 2 = N + 1 + 1 from rfl, f_X12_product_b4, bd_st i5, if_pos rfl]
    by_cases q1 : sgP b n 42 p
    · obtain ⟨IX, eX, aX, cX⟩ := m_tsO (J := J) (x := 42) S W C.1 (by decide) q1
      have eX : f_X12_takesSign 49 42 (st w I J) = _ := eX
      rw [lo_s (show jpR b n p = some 4 from by unfold jpR; rw [if_pos q1]), bd_st ((v_49 S).trans eX), if_neg (by decide)]
      exact step 4 IX (by decide) (by decide) q1.1 (aX) cX
    obtain ⟨I1, e1, a1, c1⟩ := m_tsI (J := J) (x := 42) S W C.1 (by decide) q1
    have e1 : f_X12_takesSign 49 42 (st w I J) = _ := e1
    rw [bd_st ((v_49 S).trans e1), if_pos rfl]
    by_cases q2 : sgP b n 47 p
    · obtain ⟨IX, eX, aX, cX⟩ := m_tsO (J := J) (x := 47) S W c1 (by decide) q2
      have eX : f_X12_takesSign 49 47 (st w I1 J) = _ := eX
      rw [lo_s (show jpR b n p = some 5 from by unfold jpR; rw [if_neg q1, if_pos q2]), bd_st ((v_49 S).trans eX), if_neg (by decide)]
      exact step 5 IX (by decide) (by decide) q2.1 (a1.trans aX) cX
    obtain ⟨I2, e2, a2, c2⟩ := m_tsI (J := J) (x := 47) S W c1 (by decide) q2
    have e2 : f_X12_takesSign 49 47 (st w I1 J) = _ := e2
    rw [bd_st ((v_49 S).trans e2), if_pos rfl]
    by_cases q3 : sgP b n 37 p
    · obtain ⟨IX, eX, aX, cX⟩ := m_tsO (J := J) (x := 37) S W c2 (by decide) q3
      have eX : f_X12_takesSign 49 37 (st w I2 J) = _ := eX
      rw [lo_s (show jpR b n p = some 6 from by unfold jpR; rw [if_neg q1, if_neg q2, if_pos q3]), bd_st ((v_49 S).trans eX), if_neg (by decide)]
      exact step 6 IX (by decide) (by decide) q3.1 ((a1.trans a2).trans aX) cX
    obtain ⟨I3, e3, a3, c3⟩ := m_tsI (J := J) (x := 37) S W c2 (by decide) q3
    have e3 : f_X12_takesSign 49 37 (st w I2 J) = _ := e3
    rw [bd_st ((v_49 S).trans e3), if_pos rfl]
    rw [lo_n (show jpR b n p = none from by unfold jpR; rw [if_neg q1, if_neg q2, if_neg q3])]
    refine ⟨I3, ?_, ((a1.trans a2).trans a3).lf, C.ma ((a1.trans a2).trans a3) c3⟩
    rw [f_X12_product_b52, if_pos rfl]
    rfl
theorem m_sumL (S : Sw w) (W : TxW b n) (h150 : n ≤ 150) {m2 : Nat} (hU : ∀ p L I, p ≤ n → L.1 ≤ p → QM b n o (p, L) I → MR w J b n LF I (f_X12_product rec 49 (st w I J)) (sub p L) (QM b n o)) (hX : ∀ p L u, p ≤ n → sub p L = .inr u → EX m2 n p L u) : ∀ d p L I N, n < d + p → d + 1 < N → p ≤ n → L.1 ≤ p → QM b n o (p, L) I → MR w J b n LF I (f_X12_sum_b4 rec N 49 (st w I J)) (loR b n sub (jsR b n) d p L) (QM b n o) := by
  intro d
  induction d with
  | zero => intro p L I N h1 h2 h3; omega
  | succ d ih =>
    intro p L I N hd hN hp hL C
    obtain ⟨N, rfl⟩ : ∃ M, N = M + 2 := ⟨N - 2, by omega⟩
    have g := sk_ge (b := b) hp
    have i5 := i_49_5 (I := I) (J := J) S
    rw [C.1.2.1] at i5
    -- a join j
    have step : ∀ (j : Nat) (I1 : Is), 2 ≤ j → j ≤ 8 → sk b n p < n → MA I I1 → MT b n (sk b n p + 1) I1 → MR w J b n LF I (f_X12_sum_b38 rec (f_X12_sum_b4 rec (N + 1)) 49 (nn j) (st w I1 J)) (rb (sub (sk b n p + 1) L) fun u => loR b n sub (jsR b n) d u.1 (lwA u.2 (j, 0))) (QM b n o) := fun j I1 j2 j8 hs a1 c1 => by
      refine MR.pre LF.trans a1.lf ?_
      rw [f_X12_sum_b38, if_neg (nn_ne_neg (by omega))]
      refine MR.bd LF.trans (mcv S (hU (sk b n p + 1) L I1 (by omega) (by omega) (C.ma a1 c1))) (SKP.bd LF.trans (k_notes S _ _) (k_sum4 S _ (by omega))) fun u I2 eu a2 Q2 => ?_
      obtain ⟨y1, y2, y3, y4, -⟩ := hX _ _ _ (by omega) eu
      refine MR.bd (x := .inr (u.1, lwA u.2 (j, 0))) (f := fun v => loR b n sub (jsR b n) d v.1 v.2) LF.trans (mr_notes (x := j) (y := 0) S Q2 (by omega)) (k_sum4 S _ (by omega)) fun v I3 ev a3 Q3 => ?_
      cases ev
      exact ih u.1 (lwA u.2 (j, 0)) I3 (N + 1) (by omega) (by omega) y2 (by show u.2.1 + 1 ≤ u.1; omega) Q3
    rw [show N + 2 = N + 1 + 1 from rfl, f_X12_sum_b4, bd_st i5, if_pos rfl]
    by_cases q1 : sgP b n 43 p
    · obtain ⟨IX, eX, aX, cX⟩ := m_tsO (J := J) (x := 43) S W C.1 (by decide) q1
      have eX : f_X12_takesSign 49 43 (st w I J) = _ := eX
      rw [lo_s (show jsR b n p = some 2 from by unfold jsR; rw [if_pos q1]), bd_st ((v_49 S).trans eX), if_neg (by decide)]
      exact step 2 IX (by decide) (by decide) q1.1 (aX) cX
    obtain ⟨I1, e1, a1, c1⟩ := m_tsI (J := J) (x := 43) S W C.1 (by decide) q1
    have e1 : f_X12_takesSign 49 43 (st w I J) = _ := e1
    rw [bd_st ((v_49 S).trans e1), if_pos rfl]
    by_cases q2 : sgP b n 45 p
    · obtain ⟨IX, eX, aX, cX⟩ := m_tsO (J := J) (x := 45) S W c1 (by decide) q2
      have eX : f_X12_takesSign 49 45 (st w I1 J) = _ := eX
      rw [lo_s (show jsR b n p = some 3 from by unfold jsR; rw [if_neg q1, if_pos q2]), bd_st ((v_49 S).trans eX), if_neg (by decide)]
      exact step 3 IX (by decide) (by decide) q2.1 (a1.trans aX) cX
    obtain ⟨I2, e2, a2, c2⟩ := m_tsI (J := J) (x := 45) S W c1 (by decide) q2
    have e2 : f_X12_takesSign 49 45 (st w I1 J) = _ := e2
    rw [bd_st ((v_49 S).trans e2), if_pos rfl]
    rw [lo_n (show jsR b n p = none from by unfold jsR; rw [if_neg q1, if_neg q2])]
    refine ⟨I2, ?_, (a1.trans a2).lf, C.ma (a1.trans a2) c2⟩
    rw [f_X12_sum_b38, if_pos rfl]
    rfl
end MREC2
theorem m_sumR (S : Sw w) (W : TxW b n) (h150 : n ≤ 150) : ∀ D o, o ≤ 6 → 8 ≤ D + o → RcM w J b n (F_X12_sum D) (suR b n D) o
  | 0, o, h1, h2 => by omega
  | D + 1, o, ho, hD => by
    have hr : o < 6 → RcM w J b n (F_X12_sum D) (suR b n D) (o + 1) := fun h => m_sumR S W h150 D (o + 1) (by omega) (by omega)
    have hE : o < 6 → ∀ p L u, p ≤ n → suR b n D (o + 1) p L = .inr u → EX (3 * (6 - (o + 1)) + 3) n p L u := fun h => su_EX D (o + 1) (by omega)
    have uX := uu_EX (b := b) (n := n) (D := D) ho
    have pX := pr_EX (b := b) (n := n) (D := D) ho
    have hU : ∀ p L I, p ≤ n → L.1 ≤ p → QM b n o (p, L) I → MR w J b n LF I (f_X12_one (F_X12_sum D) 49 (st w I J)) (unR (suR b n D) b n o p L) (QM b n o) := fun p L I hp hL C => by
      exact m_one S W h150 (k_sumD S D (by omega)) hr hE ho hp hL C
    have hP : ∀ p L I, p ≤ n → L.1 ≤ p → QM b n o (p, L) I → MR w J b n LF I (f_X12_product (F_X12_sum D) 49 (st w I J)) (cmR b n (unR (suR b n D) b n o) (jpR b n) p L) (QM b n o) := fun p L I hp hL C => by
      rw [f_X12_product]
      refine MR.bd LF.trans (mcv S (hU p L I hp hL C)) (k_pro4 S _ (by decide)) fun u I1 hu a1 Q1 => ?_
      obtain ⟨y1, y2, y3, y4, -⟩ := uX p L u hp hu
      exact m_proL S W h150 hU uX 150 u.1 u.2 I1 NF (by omega) (by decide) y2 (by omega) Q1
    intro p L I hp hL C
    show MR w J b n LF I (f_X12_sum (F_X12_sum D) 49 (st w I J)) (cmR b n (cmR b n (unR (suR b n D) b n o) (jpR b n)) (jsR b n) p L) (QM b n o)
    rw [f_X12_sum]
    refine MR.bd LF.trans (mcv S (hP p L I hp hL C)) (k_sum4 S _ (by decide)) fun u I1 hu a1 Q1 => ?_
    obtain ⟨y1, y2, y3, y4, -⟩ := pX p L u hp hu
    exact m_sumL S W h150 hP pX 150 u.1 u.2 I1 NF (by omega) (by decide) y2 (by omega) Q1
end MLAW2
