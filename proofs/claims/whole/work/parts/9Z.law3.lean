/-! PURE PART: the class reads sums and products -/
section CSUM
variable {w : Wd} {I : Is} {J : Js} {b : Nat → Nat} {n p : Nat} {L : Lw}
/-- a reader of the class as an answer -/
theorem CR.ans {K : List Nat} {α : Type} {x : Er ⊕ α} {Q : α → Is → Prop} {z : Option ((Int32 ⊕ (Nat × Nat)) × PS)} (H : CR w J K I z x Q) : ∃ v I1, z = some (.inl v, st w I1 J) ∧ Ag K I I1 ∧ ((v = 0 ∧ ∃ r, x = .inl r ∧ CF r I1) ∨ (v = 1 ∧ ∃ u, x = .inr u ∧ Q u I1)) := by
  cases x with
  | inl r =>
    obtain ⟨I1, e, a, c⟩ := H
    exact ⟨0, I1, e, a, Or.inl ⟨rfl, r, rfl, c⟩⟩
  | inr u =>
    obtain ⟨I1, e, a, c⟩ := H
    exact ⟨1, I1, e, a, Or.inr ⟨rfl, u, rfl, c⟩⟩
section REC2
variable {rec : Nat → Nat → Int32 → Mo Int32} {sub : Nat → Lw → LR} {o : Nat}
theorem c_proL (S : Sw w) (W : TxW b n) (hn : n ≤ 150) {m2 : Nat} (hU : ∀ p L I, p ≤ n → L.1 ≤ p → QC b n (p, L) I → CR w J KU I (f_X4_readUnit rec 16 1 (nn o) (st w I J)) (sub p L) (QC b n)) (hX : ∀ p L u, p ≤ n → sub p L = .inr u → EX m2 n p L u) : ∀ d p L I i N, i + d = 150 → d < N → p ≤ n → L.1 ≤ p → QC b n (p, L) I → CR w J KU I (f_X4_readProduct_b10 rec N 16 1 (nn o) 1 (nn i) (st w I J)) (loR b n (sub) (jpR b n) d p L) (QC b n) := by
  intro d
  induction d with
  | zero =>
    intro p L I i N hi hN hp hL C
    obtain ⟨N, rfl⟩ : ∃ M, N = M + 1 := ⟨N - 1, by omega⟩
    have hi : i = 150 := by omega
    subst hi
    refine ⟨I, ?_, Ag.refl _ _, C⟩
    rw [f_X4_readProduct_b10, if_neg (by decide), if_pos (by decide)]
    exact rz1
  | succ d ih =>
    intro p L I i N hi hN hp hL C
    obtain ⟨N, rfl⟩ : ∃ M, N = M + 2 := ⟨N - 2, by omega⟩
    have g := sk_ge (b := b) hp
    have qi : ¬ (150 : Int32) ≤ nn i := by rw [show (150 : Int32) = nn 150 from rfl, nn_le (by omega) (by omega)]; omega
    obtain ⟨C0, HL⟩ := C
    -- a join j with its code
    have step : ∀ (j : Nat) (I1 : Is), 2 ≤ j → j ≤ 8 → sk b n p < n → Ag [1] I I1 → CL b n (sk b n p + 1) I1 → CR w J KU I (f_X4_readProduct_b68 rec (f_X4_readProduct_b10 rec (N + 1)) 16 1 (nn o) (nn i) (nn (1998 + j)) (st w I1 J)) (rb (sub (sk b n p + 1) L) fun u => loR b n (sub) (jpR b n) d u.1 (lwA u.2 (j, 0))) (QC b n) := fun j I1 j2 j8 hs a1 c1 => by
      refine CR.pre (a1.mono (by decide)) ?_
      rw [f_X4_readProduct_b68, if_neg (nn_ne_neg (by omega))]
      obtain ⟨v, I2, e2, a2, h2⟩ := CR.ans (cv16 S (hU (sk b n p + 1) L I1 (by omega) (by omega) ⟨c1, HL.ag a1⟩))
      rw [bd_st e2]
      rcases h2 with ⟨hv, r, hr, c2⟩ | ⟨hv, u, hu, q2⟩
      · subst hv
        rw [if_pos rfl, hr, f_X4_readProduct_b100, f_X4_readProduct_b101]
        refine ⟨I2, ?_, a2, c2⟩
        rw [f_X4_readProduct_b10, if_pos rfl]
        exact rz0
      · subst hv
        obtain ⟨y1, y2, y3, y4, -⟩ := hX _ _ _ (by omega) hu
        obtain ⟨I3, e3, a3, c3⟩ := c_put16 (J := J) (x := 1998 + j) (q := (j, 0)) S q2 (by omega) (by rw [if_neg (show ¬ j = 0 by omega), if_neg (show ¬ j = 1 by omega)])
        rw [if_neg (by decide), hu, bd_st ((v_16 S).trans e3), if_neg (by decide), f_X4_readProduct_b101, nn_succ]
        exact CR.pre (a2.trans a3) (ih u.1 (lwA u.2 (j, 0)) I3 (i + 1) (N + 1) (by omega) (by omega) y2 (by show u.2.1 + 1 ≤ u.1; omega) c3)
    rw [show N + 2 = N + 1 + 1 from rfl, f_X4_readProduct_b10, if_neg (by decide), if_neg qi]
    by_cases q1 : sgP b n 42 p
    · obtain ⟨IX, eX, aX, cX⟩ := cl_acO (J := J) (x := 42) S W C0 (by decide) q1
      have eX : f_X8_accept 1 42 (st w I J) = _ := eX
      rw [lo_s (show jpR b n p = some 4 from by unfold jpR; rw [if_pos q1]), bd_st ((v_1 S).trans eX), if_neg (by decide)]
      exact step 4 IX (by decide) (by decide) q1.1 (aX) cX
    obtain ⟨I1, e1, a1, c1⟩ := cl_acI (J := J) (x := 42) S W C0 (by decide) q1
    have e1 : f_X8_accept 1 42 (st w I J) = _ := e1
    rw [bd_st ((v_1 S).trans e1), if_pos rfl]
    by_cases q2 : sgP b n 47 p
    · obtain ⟨IX, eX, aX, cX⟩ := cl_acO (J := J) (x := 47) S W c1 (by decide) q2
      have eX : f_X8_accept 1 47 (st w I1 J) = _ := eX
      rw [lo_s (show jpR b n p = some 5 from by unfold jpR; rw [if_neg q1, if_pos q2]), bd_st ((v_1 S).trans eX), if_neg (by decide)]
      exact step 5 IX (by decide) (by decide) q2.1 (a1.trans aX) cX
    obtain ⟨I2, e2, a2, c2⟩ := cl_acI (J := J) (x := 47) S W c1 (by decide) q2
    have e2 : f_X8_accept 1 47 (st w I1 J) = _ := e2
    rw [bd_st ((v_1 S).trans e2), if_pos rfl]
    by_cases q3 : sgP b n 37 p
    · obtain ⟨IX, eX, aX, cX⟩ := cl_acO (J := J) (x := 37) S W c2 (by decide) q3
      have eX : f_X8_accept 1 37 (st w I2 J) = _ := eX
      rw [lo_s (show jpR b n p = some 6 from by unfold jpR; rw [if_neg q1, if_neg q2, if_pos q3]), bd_st ((v_1 S).trans eX), if_neg (by decide)]
      exact step 6 IX (by decide) (by decide) q3.1 ((a1.trans a2).trans aX) cX
    obtain ⟨I3, e3, a3, c3⟩ := cl_acI (J := J) (x := 37) S W c2 (by decide) q3
    have e3 : f_X8_accept 1 37 (st w I2 J) = _ := e3
    rw [bd_st ((v_1 S).trans e3), if_pos rfl]
    rw [lo_n (show jpR b n p = none from by unfold jpR; rw [if_neg q1, if_neg q2, if_neg q3])]
    refine ⟨I3, ?_, ((a1.trans a2).trans a3).mono (by decide), c3, HL.ag ((a1.trans a2).trans a3)⟩
    rw [f_X4_readProduct_b68, if_pos rfl]
    rfl
theorem c_sumL (S : Sw w) (W : TxW b n) (hn : n ≤ 150) {m2 : Nat} (hU : ∀ p L I, p ≤ n → L.1 ≤ p → QC b n (p, L) I → CR w J KU I (f_X4_readProduct rec 16 1 (nn o) (st w I J)) (sub p L) (QC b n)) (hX : ∀ p L u, p ≤ n → sub p L = .inr u → EX m2 n p L u) : ∀ d p L I i N, i + d = 150 → d < N → p ≤ n → L.1 ≤ p → QC b n (p, L) I → CR w J KU I (f_X4_readSum_b10 rec N 16 1 (nn o) 1 (nn i) (st w I J)) (loR b n (sub) (jsR b n) d p L) (QC b n) := by
  intro d
  induction d with
  | zero =>
    intro p L I i N hi hN hp hL C
    obtain ⟨N, rfl⟩ : ∃ M, N = M + 1 := ⟨N - 1, by omega⟩
    have hi : i = 150 := by omega
    subst hi
    refine ⟨I, ?_, Ag.refl _ _, C⟩
    rw [f_X4_readSum_b10, if_neg (by decide), if_pos (by decide)]
    exact rz1
  | succ d ih =>
    intro p L I i N hi hN hp hL C
    obtain ⟨N, rfl⟩ : ∃ M, N = M + 2 := ⟨N - 2, by omega⟩
    have g := sk_ge (b := b) hp
    have qi : ¬ (150 : Int32) ≤ nn i := by rw [show (150 : Int32) = nn 150 from rfl, nn_le (by omega) (by omega)]; omega
    obtain ⟨C0, HL⟩ := C
    -- a join j with its code
    have step : ∀ (j : Nat) (I1 : Is), 2 ≤ j → j ≤ 8 → sk b n p < n → Ag [1] I I1 → CL b n (sk b n p + 1) I1 → CR w J KU I (f_X4_readSum_b53 rec (f_X4_readSum_b10 rec (N + 1)) 16 1 (nn o) (nn i) (nn (1998 + j)) (st w I1 J)) (rb (sub (sk b n p + 1) L) fun u => loR b n (sub) (jsR b n) d u.1 (lwA u.2 (j, 0))) (QC b n) := fun j I1 j2 j8 hs a1 c1 => by
      refine CR.pre (a1.mono (by decide)) ?_
      rw [f_X4_readSum_b53, if_neg (nn_ne_neg (by omega))]
      obtain ⟨v, I2, e2, a2, h2⟩ := CR.ans (cv16 S (hU (sk b n p + 1) L I1 (by omega) (by omega) ⟨c1, HL.ag a1⟩))
      rw [bd_st e2]
      rcases h2 with ⟨hv, r, hr, c2⟩ | ⟨hv, u, hu, q2⟩
      · subst hv
        rw [if_pos rfl, hr, f_X4_readSum_b85, f_X4_readSum_b86]
        refine ⟨I2, ?_, a2, c2⟩
        rw [f_X4_readSum_b10, if_pos rfl]
        exact rz0
      · subst hv
        obtain ⟨y1, y2, y3, y4, -⟩ := hX _ _ _ (by omega) hu
        obtain ⟨I3, e3, a3, c3⟩ := c_put16 (J := J) (x := 1998 + j) (q := (j, 0)) S q2 (by omega) (by rw [if_neg (show ¬ j = 0 by omega), if_neg (show ¬ j = 1 by omega)])
        rw [if_neg (by decide), hu, bd_st ((v_16 S).trans e3), if_neg (by decide), f_X4_readSum_b86, nn_succ]
        exact CR.pre (a2.trans a3) (ih u.1 (lwA u.2 (j, 0)) I3 (i + 1) (N + 1) (by omega) (by omega) y2 (by show u.2.1 + 1 ≤ u.1; omega) c3)
    rw [show N + 2 = N + 1 + 1 from rfl, f_X4_readSum_b10, if_neg (by decide), if_neg qi]
    by_cases q1 : sgP b n 43 p
    · obtain ⟨IX, eX, aX, cX⟩ := cl_acO (J := J) (x := 43) S W C0 (by decide) q1
      have eX : f_X8_accept 1 43 (st w I J) = _ := eX
      rw [lo_s (show jsR b n p = some 2 from by unfold jsR; rw [if_pos q1]), bd_st ((v_1 S).trans eX), if_neg (by decide)]
      exact step 2 IX (by decide) (by decide) q1.1 (aX) cX
    obtain ⟨I1, e1, a1, c1⟩ := cl_acI (J := J) (x := 43) S W C0 (by decide) q1
    have e1 : f_X8_accept 1 43 (st w I J) = _ := e1
    rw [bd_st ((v_1 S).trans e1), if_pos rfl]
    by_cases q2 : sgP b n 45 p
    · obtain ⟨IX, eX, aX, cX⟩ := cl_acO (J := J) (x := 45) S W c1 (by decide) q2
      have eX : f_X8_accept 1 45 (st w I1 J) = _ := eX
      rw [lo_s (show jsR b n p = some 3 from by unfold jsR; rw [if_neg q1, if_pos q2]), bd_st ((v_1 S).trans eX), if_neg (by decide)]
      exact step 3 IX (by decide) (by decide) q2.1 (a1.trans aX) cX
    obtain ⟨I2, e2, a2, c2⟩ := cl_acI (J := J) (x := 45) S W c1 (by decide) q2
    have e2 : f_X8_accept 1 45 (st w I1 J) = _ := e2
    rw [bd_st ((v_1 S).trans e2), if_pos rfl]
    rw [lo_n (show jsR b n p = none from by unfold jsR; rw [if_neg q1, if_neg q2])]
    refine ⟨I2, ?_, (a1.trans a2).mono (by decide), c2, HL.ag (a1.trans a2)⟩
    rw [f_X4_readSum_b53, if_pos rfl]
    rfl
end REC2
/-- the loop behind the first one -/
theorem c_comb {M : Mo Int32} {B : Int32 → Mo Int32} {sub : Nat → Lw → LR} {js : Nat → Option Nat} (hM : CR w J KU I (M (st w I J)) (sub p L) (QC b n)) (h0 : ∀ I1, B 0 (st w I1 J) = some (.inl 0, st w I1 J)) (h1 : ∀ u I1, sub p L = .inr u → QC b n u I1 → CR w J KU I1 (B 1 (st w I1 J)) (loR b n sub js 150 u.1 u.2) (QC b n)) : CR w J KU I ((bd M B) (st w I J)) (cmR b n sub js p L) (QC b n) := by
  unfold cmR
  obtain ⟨v, I2, e2, a2, h2⟩ := CR.ans hM
  rw [bd_st e2]
  rcases h2 with ⟨hv, r, hr, c2⟩ | ⟨hv, u, hu, q2⟩
  · subst hv
    rw [hr]
    exact ⟨I2, h0 I2, a2, c2⟩
  · subst hv
    have := h1 u I2 hu q2
    rw [hu]
    exact CR.pre a2 this
theorem c_sumR (S : Sw w) (W : TxW b n) (hn : n ≤ 150) : ∀ D o, o ≤ 6 → 7 ≤ D + o → RcC w J b n (F_X4_readSum D) (suR b n D) o
  | 0, o, h1, h2 => by omega
  | D + 1, o, ho, hD => by
    have hr : o < 6 → RcC w J b n (F_X4_readSum D) (suR b n D) (o + 1) := fun h => c_sumR S W hn D (o + 1) (by omega) (by omega)
    have hE : o < 6 → ∀ p L u, p ≤ n → suR b n D (o + 1) p L = .inr u → EX (3 * (6 - (o + 1)) + 3) n p L u := fun h => su_EX D (o + 1) (by omega)
    have hU : ∀ p L I, p ≤ n → L.1 ≤ p → QC b n (p, L) I → CR w J KU I (f_X4_readUnit (F_X4_readSum D) 16 1 (nn o) (st w I J)) (unR (suR b n D) b n o p L) (QC b n) := fun p L I hp hL C => c_unit S W hn hr hE ho hp hL C
    have uX := uu_EX (b := b) (n := n) (D := D) ho
    have pX := pr_EX (b := b) (n := n) (D := D) ho
    have hP : ∀ p L I, p ≤ n → L.1 ≤ p → QC b n (p, L) I → CR w J KU I (f_X4_readProduct (F_X4_readSum D) 16 1 (nn o) (st w I J)) (cmR b n (unR (suR b n D) b n o) (jpR b n) p L) (QC b n) := fun p L I hp hL C => by
      rw [f_X4_readProduct]
      refine c_comb (cv16 S (hU p L I hp hL C)) (fun I1 => ?_) (fun u I1 hu Q1 => ?_)
      · obtain ⟨M, hM⟩ := NF_s
        rw [show f_X4_readProduct_b10 (F_X4_readSum D) NF = f_X4_readProduct_b10 (F_X4_readSum D) (M + 1) by rw [hM], f_X4_readProduct_b10, if_pos rfl]
        exact rz0
      · obtain ⟨y1, y2, y3, y4, -⟩ := uX p L u hp hu
        exact c_proL S W hn hU uX 150 u.1 u.2 I1 0 NF rfl (NF_gt (by decide)) y2 (by omega) Q1
    intro p L I hp hL C
    show CR w J KU I (f_X4_readSum (F_X4_readSum D) 16 1 (nn o) (st w I J)) (cmR b n (cmR b n (unR (suR b n D) b n o) (jpR b n)) (jsR b n) p L) (QC b n)
    rw [f_X4_readSum]
    refine c_comb (cv16 S (hP p L I hp hL C)) (fun I1 => ?_) (fun u I1 hu Q1 => ?_)
    · obtain ⟨M, hM⟩ := NF_s
      rw [show f_X4_readSum_b10 (F_X4_readSum D) NF = f_X4_readSum_b10 (F_X4_readSum D) (M + 1) by rw [hM], f_X4_readSum_b10, if_pos rfl]
      exact rz0
    · obtain ⟨y1, y2, y3, y4, -⟩ := pX p L u hp hu
      exact c_sumL S W hn hP pX 150 u.1 u.2 I1 0 NF rfl (NF_gt (by decide)) y2 (by omega) Q1
/-- the account of a whole law -/
def lwT (b : Nat → Nat) (n : Nat) : Er ⊕ Lw := rb (suR b n 12 0 0 (0, fun _ => (0, 0))) fun u => if sk b n u.1 < n then .inl (1, sk b n u.1) else .inr u.2
theorem c_readL (S : Sw w) (W : TxW b n) (hn : n ≤ 150) (C : CT b n 0 I) : CR w J KU I (f_X4_read 16 1 (st w I J)) (lwT b n) (fun L I1 => I1 1 1 = 0 ∧ I1 1 6 = -1 ∧ LC I1 L) := by
  have a0 : Ag [16] I (up2 I 16 2 0) := (Ag.refl _ _).up (by decide)
  have H := c_sumR (J := J) S W hn 12 0 (by decide) (by decide) 0 (0, fun _ => (0, 0)) (up2 I 16 2 0) (Nat.zero_le _) (Nat.zero_le _) ⟨(C.ag a0 (by decide) (by decide)).cl, up2_s, fun k hk => absurd hk (Nat.not_lt_zero _)⟩
  refine CR.pre (a0.mono (by decide)) ?_
  rw [f_X4_read, bd_st (w_16_2 S)]
  refine CR.bd (cv16 S H) fun u I1 hu a1 Q1 => ?_
  obtain ⟨y1, y2, -⟩ := su_EX 12 0 (by decide) _ _ _ (Nat.zero_le _) hu
  obtain ⟨q, ct, eq⟩ := Q1.1.ct
  have e0 := (v_1 S (F := f_X8_atEnd 1)).trans (c_atEnd (J := J) S W ct.2.2.2.2 ct.1 ct.2.2.2.1)
  rw [eq] at e0
  have a2 : Ag [1] I1 (up2 I1 1 3 (nn (sk b n u.1))) := (Ag.refl _ _).up (by decide)
  refine CR.pre (a2.mono (by decide)) ?_
  rw [bd_st e0]
  by_cases h : sk b n u.1 < n
  · rw [if_pos h, bI_f (fun z => z h), if_pos rfl]
    have i3 := i_1_3 (I := up2 I1 1 3 (nn (sk b n u.1))) (J := J) S
    rw [up2_s] at i3
    obtain ⟨I3, e3, a3, c3⟩ := c_failR (I := up2 I1 1 3 (nn (sk b n u.1))) (J := J) S (by rw [up2_k (by decide)]; exact ct.2.1) 1 (sk b n u.1)
    refine ⟨I3, ?_, a3.mono (by decide), c3⟩
    rw [bd_st i3, bd_st ((v_1 S).trans e3), if_pos rfl]
    rfl
  · rw [if_neg h, bI_t h, if_neg (by decide)]
    refine ⟨_, rfl, Ag.refl _ _, ?_, ?_, Q1.2.ag a2⟩
    · rw [up2_k (by decide)]; exact ct.2.1
    · rw [up2_k (by decide)]; exact ct.2.2.1
end CSUM
