/-! PURE PART: the class reads a law -/
/-- the class stands at p, blanks aside -/
def CL (b : Nat → Nat) (n p : Nat) (I : Is) : Prop := TxC I b n ∧ I 1 1 = 0 ∧ I 1 6 = -1 ∧ ∃ q, q ≤ n ∧ I 1 3 = nn q ∧ sk b n q = sk b n p
theorem CT.cl {b : Nat → Nat} {n p : Nat} {I : Is} (C : CT b n p I) : CL b n p I := ⟨C.1, C.2.1, C.2.2.1, p, C.2.2.2.2, C.2.2.2.1, rfl⟩
theorem CL.ct {b : Nat → Nat} {n p : Nat} {I : Is} (C : CL b n p I) : ∃ q, CT b n q I ∧ sk b n q = sk b n p := by
  obtain ⟨h1, h2, h3, q, h4, h5, h6⟩ := C
  exact ⟨q, ⟨h1, h2, h3, h5, h4⟩, h6⟩
theorem CL.ag {b : Nat → Nat} {n p : Nat} {I I' : Is} {K : List Nat} (C : CL b n p I) (h : Ag K I I') (h1 : 1 ∉ K) (h2 : 2 ∉ K) : CL b n p I' := by
  obtain ⟨q, C, e⟩ := C.ct
  have := C.ag h h1 h2
  exact ⟨this.1, this.2.1, this.2.2.1, q, this.2.2.2.2, this.2.2.2.1, e⟩
theorem nuR_s {b : Nat → Nat} {n m p q : Nat} (h : sk b n q = sk b n p) : nuR b n m q = nuR b n m p := by
  unfold nuR
  rw [h]
theorem sgR_s {b : Nat → Nat} {n x p q : Nat} (h : sk b n q = sk b n p) : sgR b n x q = sgR b n x p := by
  unfold sgR
  rw [h]
theorem wdR_s {b : Nat → Nat} {n k p q : Nat} {l : List Nat} (h : sk b n q = sk b n p) : wdR b n k l q = wdR b n k l p := by
  unfold wdR
  rw [h]
/-- what a reader of the class does -/
def CR (w : Wd) (J : Js) (K : List Nat) (I : Is) (z : Option ((Int32 ⊕ (Nat × Nat)) × PS)) {α : Type} (x : Er ⊕ α) (Q : α → Is → Prop) : Prop := match x with
  | .inl r => ∃ I1, z = some (.inl 0, st w I1 J) ∧ Ag K I I1 ∧ CF r I1
  | .inr u => ∃ I1, z = some (.inl 1, st w I1 J) ∧ Ag K I I1 ∧ Q u I1
section CRS
variable {w : Wd} {J : Js} {K : List Nat} {I I0 : Is} {α β : Type} {x : Er ⊕ α} {Q : α → Is → Prop} {Q' : β → Is → Prop} {f : α → Er ⊕ β} {M F : Mo Int32} {z : Option ((Int32 ⊕ (Nat × Nat)) × PS)}
theorem CR.pre (h : Ag K I0 I) (H : CR w J K I z x Q) : CR w J K I0 z x Q := by
  cases x with
  | inl r =>
    obtain ⟨I1, e, a, c⟩ := H
    exact ⟨I1, e, h.trans a, c⟩
  | inr u =>
    obtain ⟨I1, e, a, c⟩ := H
    exact ⟨I1, e, h.trans a, c⟩
theorem CR.rz (H : CR w J K I (M (st w I J)) x Q) : CR w J K I ((bd M fun v => rz v) (st w I J)) x Q := by
  cases x with
  | inl r =>
    obtain ⟨I1, e, a, c⟩ := H
    exact ⟨I1, by rw [bd_st e]; exact rz0, a, c⟩
  | inr u =>
    obtain ⟨I1, e, a, c⟩ := H
    exact ⟨I1, by rw [bd_st e]; exact rz1, a, c⟩
theorem CR.bd (H : CR w J K I (M (st w I J)) x Q) (h : ∀ u I1, x = .inr u → Ag K I I1 → Q u I1 → CR w J K I1 (F (st w I1 J)) (f u) Q') : CR w J K I ((bd M fun v => if (v = 0 : Prop) then (pu 0) else F) (st w I J)) (rb x f) Q' := by
  cases x with
  | inl r =>
    obtain ⟨I1, e, a, c⟩ := H
    refine ⟨I1, ?_, a, c⟩
    rw [bd_st e, if_pos rfl]
    rfl
  | inr u =>
    obtain ⟨I1, e, a, c⟩ := H
    rw [bd_st e, if_neg (by decide)]
    exact (h u I1 rfl a c).pre a
end CRS
def LC (I : Is) (L : Lw) : Prop := I 16 2 = nn L.1 ∧ ∀ k, k < L.1 → I 17 k = nn (lwC L k)
def KU : List Nat := [1, 16, 17]
def QC (b : Nat → Nat) (n : Nat) (u : Nat × Lw) (I : Is) : Prop := CL b n u.1 I ∧ LC I u.2
theorem LC.ag {I I' : Is} {L : Lw} (H : LC I L) (h : Ag [1] I I') : LC I' L := by
  unfold LC at *
  rw [h 16 (by decide), h 17 (by decide)]
  exact H
section CLAW
variable {w : Wd} {I : Is} {J : Js} {b : Nat → Nat} {n p : Nat} {L : Lw} {r : Er}
theorem cl_is (S : Sw w) (W : TxW b n) (C : CL b n p I) {x : Nat} (hx : x < 128) : ∃ I1, f_X8_nextIs 1 (nn x) (st w I J) = some (.inl (bI (sgP b n x p)), st w I1 J) ∧ Ag [1] I I1 ∧ CL b n p I1 ∧ I1 1 3 = nn (sk b n p) := by
  have hn := W.1
  obtain ⟨q, ⟨T, c1, c6, c3, hq⟩, eq⟩ := C.ct
  have g := sk_ge (b := b) hq
  have gi := sk_id (b := b) hq
  have e0 := (v_1 S (F := f_X8_skipBlanks 1)).trans (c_skipB (J := J) S W hq T c3)
  rw [eq] at e0 g gi
  have i3 := i_1_3 (I := up2 I 1 3 (nn (sk b n p))) (J := J) S
  rw [up2_s] at i3
  have i2 := i_1_2 (I := up2 I 1 3 (nn (sk b n p))) (J := J) S
  rw [up2_k (by decide), T.1] at i2
  refine ⟨up2 I 1 3 (nn (sk b n p)), ?_, (Ag.refl _ _).up (by decide), ⟨T.up ⟨by decide, Or.inr (by decide)⟩, by rw [up2_k (by decide)]; exact c1, by rw [up2_k (by decide)]; exact c6, sk b n p, g.2, up2_s, gi⟩, up2_s⟩
  rw [f_X8_nextIs, bd_st e0, bd_st i3, bd_st i2]
  by_cases h : sk b n p < n
  · have l := l_2 (I := up2 I 1 3 (nn (sk b n p))) (J := J) (k := sk b n p) S (by omega)
    rw [up2_a (by decide), T.2 _ h] at l
    have qb : (sx (b (sk b n p)) = nn x) = (b (sk b n p) = x) := sx_eq _ (W.2 _ h) x hx
    rw [if_neg (by rw [nn_le (by omega) (by omega)]; omega), bd_st (r_1_0 S), bd_st i3, bd_st l]
    by_cases h' : b (sk b n p) = x
    · rw [if_pos (by rw [qb]; exact h'), bI_t ⟨h, h'⟩]
      rfl
    · rw [if_neg (by rw [qb]; exact h'), bI_f (fun z => h' z.2)]
      rfl
  · rw [if_pos (by rw [nn_le (by omega) (by omega)]; omega), bI_f (fun z => h z.1)]
    rfl
theorem cl_dig (S : Sw w) (W : TxW b n) (C : CL b n p I) : ∃ I1, f_X8_nextIsDigit 1 (st w I J) = some (.inl (bI (dgP b n p)), st w I1 J) ∧ Ag [1] I I1 ∧ CL b n p I1 := by
  have hn := W.1
  obtain ⟨q, ⟨T, c1, c6, c3, hq⟩, eq⟩ := C.ct
  have g := sk_ge (b := b) hq
  have gi := sk_id (b := b) hq
  have e0 := (v_1 S (F := f_X8_skipBlanks 1)).trans (c_skipB (J := J) S W hq T c3)
  rw [eq] at e0 g gi
  have i3 := i_1_3 (I := up2 I 1 3 (nn (sk b n p))) (J := J) S
  rw [up2_s] at i3
  have i2 := i_1_2 (I := up2 I 1 3 (nn (sk b n p))) (J := J) S
  rw [up2_k (by decide), T.1] at i2
  refine ⟨up2 I 1 3 (nn (sk b n p)), ?_, (Ag.refl _ _).up (by decide), ⟨T.up ⟨by decide, Or.inr (by decide)⟩, by rw [up2_k (by decide)]; exact c1, by rw [up2_k (by decide)]; exact c6, sk b n p, g.2, up2_s, gi⟩⟩
  rw [f_X8_nextIsDigit, bd_st e0, bd_st i3, bd_st i2]
  by_cases h : sk b n p < n
  · have l := l_2 (I := up2 I 1 3 (nn (sk b n p))) (J := J) (k := sk b n p) S (by omega)
    rw [up2_a (by decide), T.2 _ h] at l
    rw [if_neg (by rw [nn_le (by omega) (by omega)]; omega), bd_st (r_1_0 S), bd_st i3, bd_st l, bd_st (c_isD (W.2 _ h))]
    by_cases h' : 48 ≤ b (sk b n p) ∧ b (sk b n p) ≤ 57
    · rw [bI_t h', if_neg (by decide), bI_t ⟨h, h'⟩]
      rfl
    · rw [bI_f h', if_pos rfl, bI_f (fun z => h' z.2)]
      rfl
  · rw [if_pos (by rw [nn_le (by omega) (by omega)]; omega), bI_f (fun z => h z.1)]
    rfl
theorem cl_acO (S : Sw w) (W : TxW b n) (C : CL b n p I) {x : Nat} (hx : x < 128) (h : sgP b n x p) : ∃ I1, f_X8_accept 1 (nn x) (st w I J) = some (.inl 1, st w I1 J) ∧ Ag [1] I I1 ∧ CL b n (sk b n p + 1) I1 := by
  obtain ⟨I1, e1, a1, c1, p1⟩ := cl_is (J := J) S W C hx
  rw [bI_t h] at e1
  have i3 := i_1_3 (I := I1) (J := J) S
  rw [p1] at i3
  refine ⟨up2 I1 1 3 (nn (sk b n p + 1)), ?_, a1.up (by decide), c1.1.up ⟨by decide, Or.inr (by decide)⟩, by rw [up2_k (by decide)]; exact c1.2.1, by rw [up2_k (by decide)]; exact c1.2.2.1, sk b n p + 1, h.1, up2_s, rfl⟩
  rw [f_X8_accept, bd_st ((v_1 S).trans e1), if_neg (by decide), bd_st i3, nn_succ, bd_st (w_1_3 S)]
  exact rz1
theorem cl_acI (S : Sw w) (W : TxW b n) (C : CL b n p I) {x : Nat} (hx : x < 128) (h : ¬ sgP b n x p) : ∃ I1, f_X8_accept 1 (nn x) (st w I J) = some (.inl 0, st w I1 J) ∧ Ag [1] I I1 ∧ CL b n p I1 := by
  obtain ⟨I1, e1, a1, c1, p1⟩ := cl_is (J := J) S W C hx
  rw [bI_f h] at e1
  refine ⟨I1, ?_, a1, c1⟩
  rw [f_X8_accept, bd_st ((v_1 S).trans e1), if_pos rfl]
  exact rz0
/-- a sign that must stand there -/
theorem cl_need (S : Sw w) (W : TxW b n) (C : QC b n (p, L) I) {x : Nat} (hx : x < 128) : CR w J KU I (cv 8 1 (f_X8_need 1 (nn x)) (st w I J)) (sgR b n x p) (fun t => QC b n (t, L)) := by
  obtain ⟨C, HL⟩ := C
  obtain ⟨q, C, eq⟩ := C.ct
  rw [v_1 S, ← sgR_s eq]
  cases h : sgR b n x q with
  | inl r =>
    obtain ⟨I1, e1, a1, c1⟩ := c_sgI (J := J) S W C hx h
    exact ⟨I1, e1, a1.mono (by decide), c1⟩
  | inr t =>
    obtain ⟨I1, e1, a1, c1⟩ := c_sgO (J := J) S W C hx h
    exact ⟨I1, e1, a1.mono (by decide), c1.cl, HL.ag a1⟩
theorem c_put16 (S : Sw w) {x : Nat} {q : Nat × Nat} (C : QC b n (p, L) I) (hk : L.1 < 150) (hx : x = if q.1 = 0 then q.2 else if q.1 = 1 then 1000 + q.2 else 1998 + q.1) : ∃ I1, f_X4_put 16 (nn x) (st w I J) = some (.inl 1, st w I1 J) ∧ Ag KU I I1 ∧ QC b n (p, lwA L q) I1 := by
  obtain ⟨C, H1, H2⟩ := C
  have H1 : I 16 2 = nn L.1 := H1
  have H2 : ∀ k, k < L.1 → I 17 k = nn (lwC L k) := H2
  have i2 := i_16_2 (I := I) (J := J) S
  rw [H1] at i2
  have j2 := i_16_2 (I := up2 I 17 L.1 (nn x)) (J := J) S
  rw [up2_a (by decide), H1] at j2
  have aa : Ag [16, 17] I (up2 (up2 I 17 L.1 (nn x)) 16 2 (nn (L.1 + 1))) := ((Ag.refl _ _).up (by decide)).up (by decide)
  refine ⟨_, ?_, aa.mono (by decide), C.ag aa (by decide) (by decide), up2_s, fun k hk => ?_⟩
  · rw [f_X4_put, bd_st i2, bd_st (r_16_0 S), bd_st (ln_17 S), if_pos (by rw [nn_lt (by omega) (by omega)]; exact hk), bd_st (r_16_0 S), bd_st i2, bd_st (s_17 S hk), bd_st j2, nn_succ, bd_st (w_16_2 S)]
    rfl
  · have hk : k < L.1 + 1 := hk
    rw [up2_a (by decide)]
    by_cases e : k = L.1
    · rw [e, up2_s, hx]
      congr 1
      show _ = (if ((lwA L q).2 L.1).1 = 0 then ((lwA L q).2 L.1).2 else if ((lwA L q).2 L.1).1 = 1 then 1000 + ((lwA L q).2 L.1).2 else 1998 + ((lwA L q).2 L.1).1)
      rw [lwA_e]
    · rw [up2_k e, H2 k (by omega)]
      congr 1
      show (if (L.2 k).1 = 0 then (L.2 k).2 else if (L.2 k).1 = 1 then 1000 + (L.2 k).2 else 1998 + (L.2 k).1) = (if ((lwA L q).2 k).1 = 0 then ((lwA L q).2 k).2 else if ((lwA L q).2 k).1 = 1 then 1000 + ((lwA L q).2 k).2 else 1998 + ((lwA L q).2 k).1)
      rw [lwA_k (by omega)]
theorem cl_put (S : Sw w) {x : Nat} {q : Nat × Nat} (C : QC b n (p, L) I) (hk : L.1 < 150) (hx : x = if q.1 = 0 then q.2 else if q.1 = 1 then 1000 + q.2 else 1998 + q.1) : CR w J KU I (cv 4 16 (f_X4_put 16 (nn x)) (st w I J)) (.inr (p, lwA L q)) (QC b n) := by
  rw [v_16 S]
  exact c_put16 S C hk hx
theorem cl_1 (C : QC b n (p, L) I) : CR w J KU I (pu 1 (st w I J)) (.inr (p, L)) (QC b n) := ⟨I, rfl, Ag.refl _ _, C⟩
/-- the class fails here -/
theorem cl_fail (S : Sw w) (h1 : I 1 1 = 0) (x : Int32) (y : Nat) : CR w J KU I ((bd (cv 8 1 (f_X8_fail 1 x (nn y))) fun v => rz v) (st w I J)) (.inl (x, y) : LR) (QC b n) := by
  obtain ⟨I1, e1, a1, c1⟩ := c_failR (J := J) S h1 x y
  refine CR.rz ⟨I1, ?_, a1.mono (by decide), c1⟩
  rw [v_1 S]
  exact e1
/-- what the class's sums do, one bracket in -/
def RcC (w : Wd) (J : Js) (b : Nat → Nat) (n : Nat) (rec : Nat → Nat → Int32 → Mo Int32) (rc : Nat → Nat → Lw → LR) (o : Nat) : Prop := ∀ p L I, p ≤ n → L.1 ≤ p → QC b n (p, L) I → CR w J KU I (rec 16 1 (nn o) (st w I J)) (rc o p L) (QC b n)
theorem cv16 (S : Sw w) {K : List Nat} {α : Type} {x : Er ⊕ α} {Q : α → Is → Prop} {M : Mo Int32} (H : CR w J K I (M (st w I J)) x Q) : CR w J K I (cv 4 16 M (st w I J)) x Q := by
  rw [v_16 S]
  exact H
section REC
variable {rec : Nat → Nat → Int32 → Mo Int32} {rc : Nat → Nat → Lw → LR} {o : Nat}
theorem c_brack (S : Sw w) (W : TxW b n) (hr : o < 6 → RcC w J b n rec rc (o + 1)) (hE : o < 6 → ∀ p L u, p ≤ n → rc (o + 1) p L = .inr u → EX (3 * (6 - (o + 1)) + 3) n p L u) (ho : o ≤ 6) (hp : p ≤ n) (hL : L.1 ≤ p) (C : QC b n (p, L) I) (h3 : I 1 3 = nn (sk b n p)) (h : sgP b n 40 p) : CR w J KU I (f_X4_readBracket rec 16 1 (nn o) (st w I J)) (brR rc b n o p L) (QC b n) := by
  have g := sk_ge (b := b) hp
  have h6 : (nn o < (6 : Int32)) = (o < 6) := nn_lt (b := 6) (by omega) (by decide)
  unfold f_X4_readBracket brR
  by_cases q : o < 6
  · rw [if_pos (by rw [h6]; exact q), if_neg (by omega)]
    have e0 : sgR b n 40 p = .inr (sk b n p + 1) := if_pos h
    have H0 := cl_need (J := J) (x := 40) S W C (by decide)
    rw [e0] at H0
    refine CR.bd (x := .inr (sk b n p + 1)) (f := fun t => rb (rc (o + 1) t L) fun u => rb (sgR b n 41 u.1) fun t => .inr (t, u.2)) H0 fun t I1 et a1 Q1 => ?_
    cases et
    rw [nn_succ]
    have hs := h.1
    refine CR.bd (cv16 S (hr q (sk b n p + 1) L I1 (by omega) (by omega) Q1)) fun u I2 eu a2 Q2 => ?_
    obtain ⟨y1, y2, -⟩ := hE q _ _ _ (by omega) eu
    exact CR.bd (cl_need (x := 41) S W Q2 (by decide)) fun t I3 et a3 Q3 => cl_1 Q3
  · rw [if_neg (by rw [h6]; exact q), if_pos (by omega)]
    have i3 := i_1_3 (I := I) (J := J) S
    rw [h3] at i3
    rw [bd_st i3]
    exact cl_fail S C.1.2.1 3 _
theorem c_pair (S : Sw w) (W : TxW b n) (hn : n ≤ 150) (hr : o < 6 → RcC w J b n rec rc (o + 1)) (hE : o < 6 → ∀ p L u, p ≤ n → rc (o + 1) p L = .inr u → EX (3 * (6 - (o + 1)) + 3) n p L u) (ho : o ≤ 6) {s y : Nat} (hy : 7 ≤ y) (hp : p ≤ n) (hL : L.1 < p) (C : QC b n (p, L) I) (h4 : I 1 4 = nn s) : CR w J KU I (f_X4_readPair rec 16 1 (nn o) (nn (1998 + y)) (st w I J)) (paR rc b n o s y p L) (QC b n) := by
  have h6 : (nn o < (6 : Int32)) = (o < 6) := nn_lt (b := 6) (by omega) (by decide)
  unfold f_X4_readPair paR
  by_cases q : o < 6
  · rw [if_pos (by rw [h6]; exact q), if_neg (by omega), nn_succ]
    refine CR.bd (cl_need (x := 91) S W C (by decide)) fun t I1 et a1 Q1 => ?_
    obtain ⟨s1, s2⟩ := sgR_q hp et
    refine CR.bd (cv16 S (hr q t L I1 s2 (by omega) Q1)) fun u I2 eu a2 Q2 => ?_
    obtain ⟨y1, y2, y3, y4, -⟩ := hE q _ _ _ s2 eu
    refine CR.bd (cl_need (x := 44) S W Q2 (by decide)) fun t2 I3 et2 a3 Q3 => ?_
    obtain ⟨s3, s4⟩ := sgR_q y2 et2
    refine CR.bd (cv16 S (hr q t2 u.2 I3 s4 (by omega) Q3)) fun v I4 ev a4 Q4 => ?_
    obtain ⟨z1, z2, z3, z4, -⟩ := hE q _ _ _ s4 ev
    refine CR.bd (cl_need (x := 93) S W Q4 (by decide)) fun t3 I5 et3 a5 Q5 => ?_
    obtain ⟨s5, s6⟩ := sgR_q z2 et3
    have H := cl_put (J := J) (q := (y, 0)) (x := 1998 + y) S Q5 (by omega) (by rw [if_neg (show ¬ y = 0 by omega), if_neg (show ¬ y = 1 by omega)])
    exact CR.bd (x := .inr (t3, lwA v.2 (y, 0))) (f := fun u => .inr u) H fun u I6 eu a6 Q6 => cl_1 Q6
  · rw [if_neg (by rw [h6]; exact q), if_pos (by omega)]
    have i4 := i_1_4 (I := I) (J := J) S
    rw [h4] at i4
    rw [bd_st i4]
    exact cl_fail S C.1.2.1 3 _
theorem c_unit (S : Sw w) (W : TxW b n) (hn : n ≤ 150) (hr : o < 6 → RcC w J b n rec rc (o + 1)) (hE : o < 6 → ∀ p L u, p ≤ n → rc (o + 1) p L = .inr u → EX (3 * (6 - (o + 1)) + 3) n p L u) (ho : o ≤ 6) (hp : p ≤ n) (hL : L.1 ≤ p) (C : QC b n (p, L) I) : CR w J KU I (f_X4_readUnit rec 16 1 (nn o) (st w I J)) (unR rc b n o p L) (QC b n) := by
  have g := sk_ge (b := b) hp
  obtain ⟨C0, HL⟩ := C
  obtain ⟨I1, e1, a1, c1⟩ := cl_dig (J := J) S W C0
  unfold unR
  rw [f_X4_readUnit, bd_st ((v_1 S).trans e1)]
  by_cases qd : dgP b n p
  · rw [if_pos qd, bI_t qd, if_neg (by decide)]
    refine CR.pre (a1.mono (by decide)) ?_
    obtain ⟨q, ct, eq⟩ := c1.ct
    have q999 : (999 : Int32) = nn 1000 - 1 := by decide
    rw [← nuR_s eq]
    cases h : nuR b n 1000 q with
    | inl r =>
      obtain ⟨I2, e2, a2, c2⟩ := c_nuI (J := J) S W ct (by decide) h
      rw [← q999] at e2
      refine ⟨I2, ?_, a2.mono (by decide), c2⟩
      rw [bd_st ((v_1 S).trans e2), if_pos rfl]
      rfl
    | inr v =>
      obtain ⟨I2, e2, a2, c2, b2⟩ := c_nuO (J := J) S W ct (by decide) h
      rw [← q999] at e2
      rw [nuR_s eq] at h
      have v1 := nuR_q hp h
      have v2 := nuR_b hp h
      rw [bd_st ((v_1 S).trans e2), if_neg (nn_ne_neg (by omega))]
      refine CR.pre (a2.mono (by decide)) ?_
      exact CR.bd (x := .inr (v.2, lwA L (0, v.1))) (f := fun u => .inr u) (cl_put (q := (0, v.1)) S ⟨c2.cl, (HL.ag a1).ag a2⟩ (by omega) (by rw [if_pos rfl])) fun u I6 eu a6 Q6 => cl_1 Q6
  rw [if_neg qd, bI_f qd, if_pos rfl]
  obtain ⟨I2, e2, a2, c2, p2⟩ := cl_is (J := J) (x := 40) S W c1 (by decide)
  have e2 : f_X8_nextIs 1 40 (st w I1 J) = _ := e2
  rw [bd_st ((v_1 S).trans e2)]
  by_cases qb : sgP b n 40 p
  · rw [if_pos qb, bI_t qb, if_neg (by decide)]
    refine CR.pre ((a1.trans a2).mono (by decide)) ?_
    exact CR.rz (cv16 S (c_brack S W hr hE ho hp hL ⟨c2, (HL.ag a1).ag a2⟩ p2 qb))
  rw [if_neg qb, bI_f qb, if_pos rfl]
  obtain ⟨q, ct, eq⟩ := c2.ct
  have hw : wdR b n 1 wl1 q = wdR b n 1 wl1 p := wdR_s eq
  refine CR.pre ((a1.trans a2).mono (by decide)) ?_
  rw [← hw]
  cases h : wdR b n 1 wl1 q with
  | inl r =>
    obtain ⟨I3, e3, a3, c3⟩ := c_wdI (J := J) S W ct (by decide) sg_1 h
    refine ⟨I3, ?_, a3.mono (by decide), c3⟩
    rw [bd_st ((v_1 S).trans e3), if_pos rfl]
    rfl
  | inr v =>
    obtain ⟨I3, e3, a3, c3, p3⟩ := c_wdO (J := J) S W ct (by decide) sg_1 h
    rw [hw] at h
    rw [eq] at p3
    obtain ⟨w1, w2, w3, -⟩ := wd_c (b := b) (n := n) (p := p) sg_1 cd_1 h
    have w4 := wdR_n hp h
    have v10 : v.1 < 10 := w1
    have Q3 : QC b n (v.2, L) I3 := ⟨c3.cl, ((HL.ag a1).ag a2).ag a3⟩
    refine CR.pre (a3.mono (by decide)) ?_
    show CR w J KU I3 _ (if v.1 < 8 then .inr (v.2, lwA L (1, v.1)) else paR rc b n o (sk b n p) (v.1 - 1) v.2 L) (QC b n)
    rw [bd_st ((v_1 S).trans e3), if_neg (nn_ne_neg (by omega))]
    have q8 : ((8 : Int32) ≤ nn v.1) = (8 ≤ v.1) := nn_le (a := 8) (by decide) (by omega)
    have q8' : (nn v.1 = (8 : Int32)) = (v.1 = 8) := nn_eq (b := 8) (by omega) (by decide)
    by_cases h8 : v.1 < 8
    · rw [if_neg (by rw [q8]; omega), if_pos h8]
      refine CR.rz ?_
      rw [show (1000 : Int32) + nn v.1 = nn (1000 + v.1) from nn_add 1000 v.1]
      exact cl_put S Q3 (by omega) (by rw [if_neg (show ¬ (1 : Nat) = 0 by decide), if_pos rfl])
    · rw [if_pos (by rw [q8]; omega), if_neg h8]
      by_cases h9 : v.1 = 8
      · rw [if_pos (by rw [q8']; exact h9), f_X4_readUnit_b100, h9]
        exact CR.rz (cv16 S (c_pair (y := 7) S W hn hr hE ho (by decide) w4 (by omega) Q3 p3))
      · have h9 : v.1 = 9 := by omega
        rw [if_neg (by rw [q8']; omega), f_X4_readUnit_b100, h9]
        exact CR.rz (cv16 S (c_pair (y := 8) S W hn hr hE ho (by decide) w4 (by omega) Q3 p3))
end REC
end CLAW
