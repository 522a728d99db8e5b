/-! PURE PART: the class reads a work -/
def RkC (I : Is) (k : Nat) (q : Rc) : Prop := I 20 k = nn (rK q) ∧ (rK q < 2 ∨ rK q = 4 → I 21 k = nn (rA q)) ∧ (rK q < 2 → I 22 k = nn (rB q)) ∧ (rK q = 0 → I 23 k = nn (rH q)) ∧ (rK q = 2 → I 21 k = nn (rH q)) ∧ (rK q = 4 → I 22 k = nn (rE q))
def sm4 (I I' : Is) (k : Nat) : Prop := I' 20 k = I 20 k ∧ I' 21 k = I 21 k ∧ I' 22 k = I 22 k ∧ I' 23 k = I 23 k
theorem sm4.tr {I I' I'' : Is} {k : Nat} (h : sm4 I I' k) (h' : sm4 I' I'' k) : sm4 I I'' k := ⟨h'.1.trans h.1, h'.2.1.trans h.2.1, h'.2.2.1.trans h.2.2.1, h'.2.2.2.trans h.2.2.2⟩
theorem RkC.sm {I I' : Is} {k : Nat} {q : Rc} (H : RkC I k q) (h : sm4 I I' k) : RkC I' k q := by
  obtain ⟨h1, h2, h3, h4⟩ := h
  unfold RkC at *
  rw [h1, h2, h3, h4]
  exact H
def KV : List Nat := [1, 19, 20, 21, 22, 23]
def PW (b : Nat → Nat) (n c : Nat) (I : Is) (u : WU) (I1 : Is) : Prop := CL b n u.1 I1 ∧ I1 19 4 = nn u.2.1 ∧ (∀ k, k < c → sm4 I I1 k) ∧ (∀ k, c ≤ k → k < u.2.1 → RkC I1 k (u.2.2 k)) ∧ ∀ j, j ≠ 4 → I1 19 j = I 19 j
section CWORK
variable {w : Wd} {I : Is} {J : Js} {b : Nat → Nat} {n p z c : Nat} {f : Nat → Rc}
theorem ag1_sm {I I' : Is} (h : Ag [1] I I') (k : Nat) : sm4 I I' k := by
  refine ⟨?_, ?_, ?_, ?_⟩
  · rw [h 20 (by decide)]
  · rw [h 21 (by decide)]
  · rw [h 22 (by decide)]
  · rw [h 23 (by decide)]
/-- a number of the class, blanks aside -/
theorem cl_nu (S : Sw w) (W : TxW b n) (C : CL b n p I) {m : Nat} (hm : m ≤ 1000) : (∃ r I1, nuR b n m p = .inl r ∧ f_X8_number 1 (nn m - 1) (st w I J) = some (.inl (-1), st w I1 J) ∧ Ag [1] I I1 ∧ CF r I1) ∨ (∃ v I1, nuR b n m p = .inr v ∧ f_X8_number 1 (nn m - 1) (st w I J) = some (.inl (nn v.1), st w I1 J) ∧ Ag [1] I I1 ∧ CL b n v.2 I1 ∧ v.1 < m) := by
  obtain ⟨q, ct, eq⟩ := C.ct
  rw [← nuR_s (m := m) eq]
  cases h : nuR b n m q with
  | inl r =>
    obtain ⟨I1, e1, a1, c1⟩ := c_nuI (J := J) S W ct hm h
    exact Or.inl ⟨r, I1, rfl, e1, a1, c1⟩
  | inr v =>
    obtain ⟨I1, e1, a1, c1, b1⟩ := c_nuO (J := J) S W ct hm h
    exact Or.inr ⟨v, I1, rfl, e1, a1, c1.cl, b1⟩
/-- only the numbers of step c -/
def FrC (c : Nat) (I I' : Is) : Prop := Ag [1, 21, 22, 23] I I' ∧ ∀ k, k ≠ c → I' 21 k = I 21 k ∧ I' 22 k = I 22 k ∧ I' 23 k = I 23 k
theorem FrC.refl (c : Nat) (I : Is) : FrC c I I := ⟨Ag.refl _ _, fun _ _ => ⟨rfl, rfl, rfl⟩⟩
theorem FrC.trans {c : Nat} {I I' I'' : Is} (h : FrC c I I') (h' : FrC c I' I'') : FrC c I I'' := ⟨h.1.trans h'.1, fun k hk => ⟨(h'.2 k hk).1.trans (h.2 k hk).1, (h'.2 k hk).2.1.trans (h.2 k hk).2.1, (h'.2 k hk).2.2.trans (h.2 k hk).2.2⟩⟩
theorem FrC.a1 {c : Nat} {I I' : Is} (h : Ag [1] I I') : FrC c I I' := ⟨h.mono (by decide), fun k _ => ⟨by rw [h 21 (by decide)], by rw [h 22 (by decide)], by rw [h 23 (by decide)]⟩⟩
theorem FrC.up {c x : Nat} {I I' : Is} {v : Int32} (h : FrC c I I') (hx : x ∈ [21, 22, 23]) : FrC c I (up2 I' x c v) := by
  refine ⟨h.1.up ?_, fun k hk => ?_⟩
  · have : ∀ x ∈ [21, 22, 23], x ∈ [1, 21, 22, 23] := by decide
    exact this x hx
  · obtain ⟨q1, q2, q3⟩ := h.2 k hk
    refine ⟨?_, ?_, ?_⟩
    · rw [up2_k hk]; exact q1
    · rw [up2_k hk]; exact q2
    · rw [up2_k hk]; exact q3
theorem CL.fr {x y : Nat} {v : Int32} (C : CL b n p I) (hx : x ≠ 1 ∧ x ≠ 2) : CL b n p (up2 I x y v) := C.ag (K := [x]) ((Ag.refl _ _).up (by simp)) (by simp; exact fun e => hx.1 e.symm) (by simp; exact fun e => hx.2 e.symm)
def NQ (b : Nat → Nat) (n c y : Nat) (I : Is) (v : Nat × Nat × Nat × Nat) (I1 : Is) : Prop := CL b n v.1 I1 ∧ FrC c I I1 ∧ (y < 2 → I1 21 c = nn v.2.1 ∧ I1 22 c = nn v.2.2.1) ∧ (y = 0 → I1 23 c = nn v.2.2.2) ∧ (y = 2 → I1 21 c = nn v.2.2.2)
theorem c_numR (S : Sw w) (W : TxW b n) (hz : z ≤ 8) (hc : c < 30) {y : Nat} (hy : y < 4) (C : CL b n p I) (hk : I 20 c = nn y) : CR w J KV I (f_X9_readNumbers 19 1 (nn z) (nn c) (st w I J)) (nmR b n z y p) (NQ b n c y I) := by
  have l20 := l_20 (I := I) (J := J) (k := c) S hc
  rw [hk] at l20
  have k4 : ∀ {I1 : Is}, FrC c I I1 → Ag KV I I1 := fun h => h.1.mono (by decide)
  have rd1 : ∀ {I1 : Is} {v : Int32}, al 0 21 (nn c) (st w (up2 I1 21 c v) J) = some (.inl v, st w (up2 I1 21 c v) J) := fun {I1 v} => by
    have := l_21 (I := up2 I1 21 c v) (J := J) (k := c) S hc
    rw [up2_s] at this
    exact this
  have rd2 : ∀ {I1 : Is} {v : Int32}, al 0 22 (nn c) (st w (up2 I1 22 c v) J) = some (.inl v, st w (up2 I1 22 c v) J) := fun {I1 v} => by
    have := l_22 (I := up2 I1 22 c v) (J := J) (k := c) S hc
    rw [up2_s] at this
    exact this
  have rd3 : ∀ {I1 : Is} {v : Int32}, al 0 23 (nn c) (st w (up2 I1 23 c v) J) = some (.inl v, st w (up2 I1 23 c v) J) := fun {I1 v} => by
    have := l_23 (I := up2 I1 23 c v) (J := J) (k := c) S hc
    rw [up2_s] at this
    exact this
  have q5 : (5 : Int32) = nn 6 - 1 := by decide
  have q9 : (9 : Int32) = nn 10 - 1 := by decide
  -- the ends
  have e96 : ∀ (I1 : Is) (v : Int32), f_X9_readNumbers_b96 19 (nn c) v (nn c) 23 (st w I1 J) = (if (v = -1 : Prop) then pu 0 else pu 1 : Mo Int32) (st w (up2 I1 23 c v) J) := fun I1 v => by
    rw [f_X9_readNumbers_b96, bd_st (s_23 S hc), bd_st (r_19_3 S), bd_st rd3]
  have e151 : ∀ (I1 : Is) (v : Int32), f_X9_readNumbers_b151 19 (nn c) v (nn c) 22 (st w I1 J) = (if (v = -1 : Prop) then pu 0 else pu 1 : Mo Int32) (st w (up2 I1 22 c v) J) := fun I1 v => by
    rw [f_X9_readNumbers_b151, bd_st (s_22 S hc), bd_st (r_19_2 S), bd_st rd2]
  unfold nmR
  rcases (show y = 0 ∨ y = 1 ∨ y = 2 ∨ y = 3 by omega) with h | h | h | h <;> subst h
  · -- take
    rw [if_pos rfl, f_X9_readNumbers, bd_st (r_19_0 S), bd_st l20, sw_at 0 (by decide)]
    show CR w J KV I ((bd (gR 9 1 19) _) (st w I J)) _ _
    rw [bd_st (r_19_1 S)]
    have e71 : ∀ (I1 : Is), f_X9_readNumbers_b71 19 1 (nn c) (-1) (nn c) 22 (st w I1 J) = some (.inl 0, st w (up2 (up2 I1 22 c (-1)) 23 c (-1)) J) := fun I1 => by
      rw [f_X9_readNumbers_b71, bd_st (s_22 S hc), bd_st (r_19_3 S), bd_st (r_19_2 S), bd_st rd2, if_pos rfl, e96, if_pos rfl]
      rfl
    rcases cl_nu (J := J) (m := z) S W C (by omega) with ⟨r, I1, hn, e1, a1, c1⟩ | ⟨v, I1, hn, e1, a1, c1, b1⟩
    · rw [hn]
      have fr : FrC c I (up2 (up2 (up2 I1 21 c (-1)) 22 c (-1)) 23 c (-1)) := (((FrC.a1 a1).up (by decide)).up (by decide)).up (by decide)
      refine ⟨_, ?_, k4 fr, c1.ag (K := [21, 22, 23]) ((((Ag.refl _ _).up (by decide)).up (by decide)).up (by decide)) (by decide)⟩
      rw [bd_st ((v_1 S).trans e1), bd_st (s_21 S hc), bd_st (r_19_2 S), bd_st (r_19_1 S), bd_st rd1, if_pos rfl, e71]
    rw [hn]
    have C1 : CL b n v.2 (up2 I1 21 c (nn v.1)) := c1.fr ⟨by decide, by decide⟩
    have F1 : FrC c I (up2 I1 21 c (nn v.1)) := (FrC.a1 a1).up (by decide)
    have h1 : ¬ nn v.1 = -1 := nn_ne_neg (by omega)
    show CR w J KV I _ (rb (nuR b n z v.2) fun u => rb (nuR b n 6 u.2) fun t => .inr (t.2, v.1, u.1, t.1)) _
    rcases cl_nu (J := J) (m := z) S W C1 (by omega) with ⟨r, I2, hn2, e2, a2, c2⟩ | ⟨u, I2, hn2, e2, a2, c2, b2⟩
    · rw [hn2]
      have fr : FrC c I (up2 (up2 I2 22 c (-1)) 23 c (-1)) := ((F1.trans (FrC.a1 a2)).up (by decide)).up (by decide)
      refine ⟨_, ?_, k4 fr, c2.ag (K := [22, 23]) (((Ag.refl _ _).up (by decide)).up (by decide)) (by decide)⟩
      rw [bd_st ((v_1 S).trans e1), bd_st (s_21 S hc), bd_st (r_19_2 S), bd_st (r_19_1 S), bd_st rd1, if_neg h1, bd_st ((v_1 S).trans e2), e71]
    rw [hn2]
    have C2 : CL b n u.2 (up2 I2 22 c (nn u.1)) := c2.fr ⟨by decide, by decide⟩
    have F2 : FrC c I (up2 I2 22 c (nn u.1)) := (F1.trans (FrC.a1 a2)).up (by decide)
    have h2 : ¬ nn u.1 = -1 := nn_ne_neg (by omega)
    show CR w J KV I _ (rb (nuR b n 6 u.2) fun t => .inr (t.2, v.1, u.1, t.1)) _
    rcases cl_nu (J := J) (m := 6) S W C2 (by omega) with ⟨r, I3, hn3, e3, a3, c3⟩ | ⟨t, I3, hn3, e3, a3, c3, b3⟩
    · rw [← q5] at e3
      rw [hn3]
      have fr : FrC c I (up2 I3 23 c (-1)) := (F2.trans (FrC.a1 a3)).up (by decide)
      refine ⟨_, ?_, k4 fr, c3.ag (K := [23]) ((Ag.refl _ _).up (by decide)) (by decide)⟩
      rw [bd_st ((v_1 S).trans e1), bd_st (s_21 S hc), bd_st (r_19_2 S), bd_st (r_19_1 S), bd_st rd1, if_neg h1, bd_st ((v_1 S).trans e2), f_X9_readNumbers_b71, bd_st (s_22 S hc), bd_st (r_19_3 S), bd_st (r_19_2 S), bd_st rd2, if_neg h2, bd_st ((v_1 S).trans e3), e96, if_pos rfl]
      rfl
    · rw [← q5] at e3
      rw [hn3]
      have h3 : ¬ nn t.1 = -1 := nn_ne_neg (by omega)
      have fr : FrC c I (up2 I3 23 c (nn t.1)) := (F2.trans (FrC.a1 a3)).up (by decide)
      refine ⟨_, ?_, k4 fr, c3.fr ⟨by decide, by decide⟩, fr, fun _ => ⟨?_, ?_⟩, fun _ => up2_s, fun q => absurd q (by decide)⟩
      · rw [bd_st ((v_1 S).trans e1), bd_st (s_21 S hc), bd_st (r_19_2 S), bd_st (r_19_1 S), bd_st rd1, if_neg h1, bd_st ((v_1 S).trans e2), f_X9_readNumbers_b71, bd_st (s_22 S hc), bd_st (r_19_3 S), bd_st (r_19_2 S), bd_st rd2, if_neg h2, bd_st ((v_1 S).trans e3), e96, if_neg h3]
        rfl
      · rw [up2_a (by decide), a3 21 (by decide), up2_a (by decide), a2 21 (by decide), up2_s]
      · rw [up2_a (by decide), a3 22 (by decide), up2_s]
  · -- mood
    rw [if_neg (by decide), if_pos rfl, f_X9_readNumbers, bd_st (r_19_0 S), bd_st l20, sw_at 1 (by decide)]
    show CR w J KV I ((bd (gR 9 1 19) _) (st w I J)) _ _
    rw [bd_st (r_19_1 S)]
    rcases cl_nu (J := J) (m := z) S W C (by omega) with ⟨r, I1, hn, e1, a1, c1⟩ | ⟨v, I1, hn, e1, a1, c1, b1⟩
    · rw [hn]
      have fr : FrC c I (up2 (up2 I1 21 c (-1)) 22 c (-1)) := ((FrC.a1 a1).up (by decide)).up (by decide)
      refine ⟨_, ?_, k4 fr, c1.ag (K := [21, 22]) (((Ag.refl _ _).up (by decide)).up (by decide)) (by decide)⟩
      rw [bd_st ((v_1 S).trans e1), bd_st (s_21 S hc), bd_st (r_19_2 S), bd_st (r_19_1 S), bd_st rd1, if_pos rfl, e151, if_pos rfl]
      rfl
    rw [hn]
    have C1 : CL b n v.2 (up2 I1 21 c (nn v.1)) := c1.fr ⟨by decide, by decide⟩
    have F1 : FrC c I (up2 I1 21 c (nn v.1)) := (FrC.a1 a1).up (by decide)
    have h1 : ¬ nn v.1 = -1 := nn_ne_neg (by omega)
    show CR w J KV I _ (rb (nuR b n 10 v.2) fun u => .inr (u.2, v.1, u.1, 0)) _
    rcases cl_nu (J := J) (m := 10) S W C1 (by omega) with ⟨r, I2, hn2, e2, a2, c2⟩ | ⟨u, I2, hn2, e2, a2, c2, b2⟩
    · rw [← q9] at e2
      rw [hn2]
      have fr : FrC c I (up2 I2 22 c (-1)) := (F1.trans (FrC.a1 a2)).up (by decide)
      refine ⟨_, ?_, k4 fr, c2.ag (K := [22]) ((Ag.refl _ _).up (by decide)) (by decide)⟩
      rw [bd_st ((v_1 S).trans e1), bd_st (s_21 S hc), bd_st (r_19_2 S), bd_st (r_19_1 S), bd_st rd1, if_neg h1, bd_st ((v_1 S).trans e2), e151, if_pos rfl]
      rfl
    · rw [← q9] at e2
      rw [hn2]
      have h2 : ¬ nn u.1 = -1 := nn_ne_neg (by omega)
      have fr : FrC c I (up2 I2 22 c (nn u.1)) := (F1.trans (FrC.a1 a2)).up (by decide)
      refine ⟨_, ?_, k4 fr, c2.fr ⟨by decide, by decide⟩, fr, fun _ => ⟨?_, up2_s⟩, fun q => absurd q (by decide), fun q => absurd q (by decide)⟩
      · rw [bd_st ((v_1 S).trans e1), bd_st (s_21 S hc), bd_st (r_19_2 S), bd_st (r_19_1 S), bd_st rd1, if_neg h1, bd_st ((v_1 S).trans e2), e151, if_neg h2]
        rfl
      · rw [up2_a (by decide), a2 21 (by decide), up2_s]
  · -- burn
    rw [if_neg (by decide), if_neg (by decide), if_pos rfl, f_X9_readNumbers, bd_st (r_19_0 S), bd_st l20, sw_at 2 (by decide)]
    show CR w J KV I ((bd (gR 9 1 19) _) (st w I J)) _ _
    rw [bd_st (r_19_1 S)]
    rcases cl_nu (J := J) (m := 6) S W C (by omega) with ⟨r, I1, hn, e1, a1, c1⟩ | ⟨v, I1, hn, e1, a1, c1, b1⟩
    · rw [← q5] at e1
      rw [hn]
      have fr : FrC c I (up2 I1 21 c (-1)) := (FrC.a1 a1).up (by decide)
      refine ⟨_, ?_, k4 fr, c1.ag (K := [21]) ((Ag.refl _ _).up (by decide)) (by decide)⟩
      rw [bd_st ((v_1 S).trans e1), bd_st (s_21 S hc), bd_st (r_19_1 S), bd_st rd1, if_pos rfl]
      rfl
    · rw [← q5] at e1
      rw [hn]
      have h1 : ¬ nn v.1 = -1 := nn_ne_neg (by omega)
      have fr : FrC c I (up2 I1 21 c (nn v.1)) := (FrC.a1 a1).up (by decide)
      refine ⟨_, ?_, k4 fr, c1.fr ⟨by decide, by decide⟩, fr, fun q => absurd q (by decide), fun q => absurd q (by decide), fun _ => up2_s⟩
      rw [bd_st ((v_1 S).trans e1), bd_st (s_21 S hc), bd_st (r_19_1 S), bd_st rd1, if_neg h1]
      rfl
  · -- year
    rw [if_neg (by decide), if_neg (by decide), if_neg (by decide), f_X9_readNumbers, bd_st (r_19_0 S), bd_st l20, sw_at 3 (by decide)]
    exact ⟨I, rfl, Ag.refl _ _, C, FrC.refl _ _, fun q => absurd q (by decide), fun q => absurd q (by decide), fun q => absurd q (by decide)⟩
/-- the end of a step -/
theorem cl_end (S : Sw w) (W : TxW b n) {Q : WU → Is → Prop} {u : WU} (C : CL b n u.1 I) (hQ : ∀ t I1, Ag [1] I I1 → CL b n t I1 → Q (t, u.2) I1) : CR w J KV I ((bd (cv 8 1 (f_X8_need 1 59)) fun v1 => if (v1 = 0 : Prop) then (pu 0) else pu 1) (st w I J)) (enR b n u) Q := by
  obtain ⟨q, ct, eq⟩ := C.ct
  unfold enR
  rw [← sgR_s (x := 59) eq]
  cases h : sgR b n 59 q with
  | inl r =>
    obtain ⟨I1, e1, a1, c1⟩ := c_sgI (J := J) S W ct (by decide) h
    have e1 : f_X8_need 1 59 (st w I J) = _ := e1
    refine ⟨I1, ?_, a1.mono (by decide), c1⟩
    rw [bd_st ((v_1 S).trans e1), if_pos rfl]
    rfl
  | inr t =>
    obtain ⟨I1, e1, a1, c1⟩ := c_sgO (J := J) S W ct (by decide) h
    have e1 : f_X8_need 1 59 (st w I J) = _ := e1
    refine ⟨I1, ?_, a1.mono (by decide), hQ t I1 a1 c1.cl⟩
    rw [bd_st ((v_1 S).trans e1), if_neg (by decide)]
    rfl
def RwC (w : Wd) (J : Js) (b : Nat → Nat) (n z : Nat) (rec : Nat → Nat → Int32 → Int32 → Mo Int32) (rc : Nat → Nat → Nat → (Nat → Rc) → WR) (o : Nat) : Prop := ∀ p c f I, p ≤ n → 5 * c ≤ p → CL b n p I → I 19 4 = nn c → CR w J KV I (rec 19 1 (nn z) (nn o) (st w I J)) (rc o p c f) (PW b n c I)
theorem cv19 (S : Sw w) {K : List Nat} {α : Type} {x : Er ⊕ α} {Q : α → Is → Prop} {M : Mo Int32} (H : CR w J K I (M (st w I J)) x Q) : CR w J K I (cv 9 19 M (st w I J)) x Q := by
  rw [v_19 S]
  exact H
section CWREC
variable {rec : Nat → Nat → Int32 → Int32 → Mo Int32} {rc : Nat → Nat → Nat → (Nat → Rc) → WR} {o : Nat}
/-- an again: its own cells c, its steps behind it -/
theorem c_again (S : Sw w) (W : TxW b n) (hn : n ≤ 150) (hr : RwC w J b n z rec rc (o + 1)) (hX : ∀ p c f u, p ≤ n → rc (o + 1) p c f = .inr u → WX 0 n p c f u) (hp : p ≤ n) (hc : 5 * (c + 1) ≤ p + 1) (hc30 : c < 30) (C : CL b n p I) (h4 : I 19 4 = nn (c + 1)) (h20 : I 20 c = nn 4) : CR w J KV I (f_X9_readAgain rec 19 1 (nn z) (nn o) (nn c) (st w I J)) (agR rc b n o p c f) (PW b n c I) := by
  have q30 : (30 : Int32) = nn 31 - 1 := by decide
  have rd1 : ∀ {I1 : Is} {v : Int32}, al 0 21 (nn c) (st w (up2 I1 21 c v) J) = some (.inl v, st w (up2 I1 21 c v) J) := fun {I1 v} => by
    have := l_21 (I := up2 I1 21 c v) (J := J) (k := c) S hc30
    rw [up2_s] at this
    exact this
  have e59 : ∀ (I1 : Is) (x : Int32), x = 0 ∨ x = 1 → f_X9_readAgain_b59 rec 19 (nn c) x (st w I1 J) = some (.inl x, st w (up2 I1 22 c (I1 19 4)) J) := fun I1 x hx => by
    rw [f_X9_readAgain_b59, bd_st (r_19_2 S), bd_st (i_19_4 S), bd_st (s_22 S hc30)]
    rcases hx with rfl | rfl
    · exact rz0
    · exact rz1
  -- a fault behind the number
  have flt : ∀ (r : Er) (I1 : Is), Ag KV I I1 → CF r I1 → ∀ z', f_X9_readAgain_b58 rec 19 (nn c) (st w I1 J) = z' → CR w J KV I z' (.inl r : WR) (PW b n c I) := fun r I1 a1 c1 z' hz => by
    rw [← hz, f_X9_readAgain_b58, e59 I1 0 (Or.inl rfl)]
    exact ⟨_, rfl, a1.up (by decide), c1.ag (K := [22]) ((Ag.refl _ _).up (by decide)) (by decide)⟩
  unfold agR
  rw [f_X9_readAgain, bd_st (r_19_1 S)]
  rcases cl_nu (J := J) (m := 31) S W C (by omega) with ⟨r, I1, hn1, e1, a1, c1⟩ | ⟨v, I1, hn1, e1, a1, c1, b1⟩
  · rw [← q30] at e1
    rw [hn1, bd_st ((v_1 S).trans e1), bd_st (s_21 S hc30), bd_st (r_19_1 S), bd_st rd1, if_pos rfl]
    exact flt r _ ((a1.mono (by decide)).up (by decide)) (c1.ag (K := [21]) ((Ag.refl _ _).up (by decide)) (by decide)) _ rfl
  rw [← q30] at e1
  have w1 := nuR_b hp hn1
  have w2 := nuR_q hp hn1
  have C1 : CL b n v.2 (up2 I1 21 c (nn v.1)) := c1.fr ⟨by decide, by decide⟩
  rw [hn1, bd_st ((v_1 S).trans e1), bd_st (s_21 S hc30), bd_st (r_19_1 S), bd_st rd1, if_neg (nn_ne_neg (by omega))]
  show CR w J KV I _ (rb (sgR b n 91 v.2) fun t => rb (rc (o + 1) t (c + 1) f) fun u => rb (sgR b n 93 u.1) fun t => .inr (t, u.2.1, upF u.2.2 c (4, v.1, 0, 0, u.2.1))) _
  obtain ⟨I2, hI2⟩ : ∃ I2, I2 = up2 I1 21 c (nn v.1) := ⟨_, rfl⟩
  rw [← hI2] at C1 ⊢
  have A2 : Ag KV I I2 := by rw [hI2]; exact (a1.mono (by decide)).up (by decide)
  have s19 : I2 19 = I 19 := by rw [hI2, up2_ra (by decide), a1 19 (by decide)]
  have sm2 : ∀ k, k ≠ c → sm4 I I2 k := fun k hk => by
    refine (ag1_sm a1 k).tr ⟨?_, ?_, ?_, ?_⟩
    · rw [hI2, up2_a (by decide)]
    · rw [hI2, up2_k hk]
    · rw [hI2, up2_a (by decide)]
    · rw [hI2, up2_a (by decide)]
  obtain ⟨q, ct, eq⟩ := C1.ct
  rw [← sgR_s (x := 91) eq]
  cases h : sgR b n 91 q with
  | inl r =>
    obtain ⟨I3, e3, a3, c3⟩ := c_sgI (J := J) S W ct (by decide) h
    have e3 : f_X8_need 1 91 (st w I2 J) = _ := e3
    rw [bd_st ((v_1 S).trans e3), if_pos rfl]
    exact flt r _ (A2.trans (a3.mono (by decide))) c3 _ rfl
  | inr t =>
    obtain ⟨I3, e3, a3, c3⟩ := c_sgO (J := J) S W ct (by decide) h
    have e3 : f_X8_need 1 91 (st w I2 J) = _ := e3
    rw [sgR_s eq] at h
    obtain ⟨t1, t2⟩ := sgR_q w1.2 h
    have A3 : Ag KV I I3 := A2.trans (a3.mono (by decide))
    have n3 : I3 19 4 = nn (c + 1) := by rw [a3 19 (by decide), s19]; exact h4
    have R := hr t (c + 1) f I3 t2 (by omega) c3.cl n3
    rw [bd_st ((v_1 S).trans e3), if_neg (by decide), nn_succ]
    show CR w J KV I _ (rb (rc (o + 1) t (c + 1) f) fun u => rb (sgR b n 93 u.1) fun t => .inr (t, u.2.1, upF u.2.2 c (4, v.1, 0, 0, u.2.1))) _
    cases hR : rc (o + 1) t (c + 1) f with
    | inl r =>
      rw [hR] at R
      obtain ⟨I4, e4, a4, c4⟩ := R
      rw [bd_st ((v_19 S).trans e4), if_pos rfl]
      exact flt r _ (A3.trans a4) c4 _ rfl
    | inr u =>
      rw [hR] at R
      obtain ⟨I4, e4, a4, c4, n4, k4, r4, f4⟩ := R
      obtain ⟨y1, y2, y3, y4, y5⟩ := hX t (c + 1) f u t2 hR
      have A4 : Ag KV I I4 := A3.trans a4
      rw [bd_st ((v_19 S).trans e4), if_neg (by decide)]
      show CR w J KV I _ (rb (sgR b n 93 u.1) fun t => .inr (t, u.2.1, upF u.2.2 c (4, v.1, 0, 0, u.2.1))) _
      obtain ⟨q, ct, eq⟩ := c4.ct
      rw [← sgR_s (x := 93) eq]
      cases h : sgR b n 93 q with
      | inl r =>
        obtain ⟨I5, e5, a5, c5⟩ := c_sgI (J := J) S W ct (by decide) h
        have e5 : f_X8_need 1 93 (st w I4 J) = _ := e5
        rw [bd_st ((v_1 S).trans e5), if_pos rfl]
        exact flt r _ (A4.trans (a5.mono (by decide))) c5 _ rfl
      | inr t3 =>
        obtain ⟨I5, e5, a5, c5⟩ := c_sgO (J := J) S W ct (by decide) h
        have e5 : f_X8_need 1 93 (st w I4 J) = _ := e5
        have n5 : I5 19 4 = nn u.2.1 := by rw [a5 19 (by decide)]; exact n4
        have e6 := e59 I5 1 (Or.inr rfl)
        rw [n5] at e6
        have s5 : sm4 I2 I5 c := (ag1_sm a3 c).tr ((k4 c (Nat.lt_succ_self _)).tr (ag1_sm a5 c))
        have f19 : ∀ j, j ≠ 4 → I5 19 j = I 19 j := fun j hj => by rw [a5 19 (by decide), f4 j hj, a3 19 (by decide), s19]
        refine ⟨up2 I5 22 c (nn u.2.1), ?_, (A4.trans (a5.mono (by decide))).up (by decide), c5.cl.fr ⟨by decide, by decide⟩, ?_, fun k hk => ?_, fun k k1 k2 => ?_, fun j hj => ?_⟩
        · rw [bd_st ((v_1 S).trans e5), if_neg (by decide), e6]
        · rw [up2_a (by decide)]; exact n5
        · have t := (((sm2 k (by omega)).tr (ag1_sm a3 k)).tr (k4 k (by omega))).tr (ag1_sm a5 k)
          refine t.tr ⟨?_, ?_, ?_, ?_⟩
          · rw [up2_a (by decide)]
          · rw [up2_a (by decide)]
          · rw [up2_k (by omega)]
          · rw [up2_a (by decide)]
        · have k2 : k < u.2.1 := k2
          show RkC _ k (upF u.2.2 c (4, v.1, 0, 0, u.2.1) k)
          by_cases e : k = c
          · subst e
            rw [upF_s]
            have s20 : I2 20 k = nn 4 := by rw [hI2, up2_a (by decide), a1 20 (by decide)]; exact h20
            have s21 : I2 21 k = nn v.1 := by rw [hI2, up2_s]
            refine ⟨?_, fun _ => ?_, fun x => absurd x (by simp [rK]), fun x => absurd x (by simp [rK]), fun x => absurd x (by simp [rK]), fun _ => up2_s⟩
            · rw [up2_a (by decide), s5.1]; exact s20
            · rw [up2_a (by decide), s5.2.1]; exact s21
          · rw [upF_n e]
            refine ((r4 k (by omega) k2).sm (ag1_sm a5 k)).sm ⟨?_, ?_, ?_, ?_⟩
            · rw [up2_a (by decide)]
            · rw [up2_a (by decide)]
            · rw [up2_k e]
            · rw [up2_a (by decide)]
        · rw [up2_a (by decide)]
          exact f19 j hj
theorem c_stepR (S : Sw w) (W : TxW b n) (hn : n ≤ 150) (hz : z ≤ 8) (hr : o < 6 → RwC w J b n z rec rc (o + 1)) (hX : o < 6 → ∀ p c f u, p ≤ n → rc (o + 1) p c f = .inr u → WX 0 n p c f u) (ho : o ≤ 6) (hp : p ≤ n) (hc : 5 * c ≤ p) (C : CL b n p I) (h4 : I 19 4 = nn c) : CR w J KV I (f_X9_readStep rec 19 1 (nn z) (nn o) (st w I J)) (spR rc b n z o p c f) (PW b n c I) := by
  have g := sk_ge (b := b) hp
  have h6 : (nn o < (6 : Int32)) = (o < 6) := nn_lt (b := 6) (by omega) (by decide)
  unfold spR
  obtain ⟨q, ct, eq⟩ := C.ct
  have hw : wdR b n 2 wl2 q = wdR b n 2 wl2 p := wdR_s eq
  rw [f_X9_readStep, ← hw]
  cases h : wdR b n 2 wl2 q with
  | inl r =>
    obtain ⟨I1, e1, a1, c1⟩ := c_wdI (J := J) S W ct (by decide) sg_2 h
    refine ⟨I1, ?_, a1.mono (by decide), c1⟩
    rw [bd_st ((v_1 S).trans e1), if_pos rfl]
    rfl
  | inr v =>
    obtain ⟨I1, e1, a1, c1, p1⟩ := c_wdO (J := J) S W ct (by decide) sg_2 h
    rw [hw] at h
    rw [eq] at p1
    obtain ⟨w4, v5⟩ := wd_4 h
    have wn := wdR_n hp h
    have q4 : (nn v.1 = (4 : Int32)) = (v.1 = 4) := nn_eq (b := 4) (by omega) (by decide)
    rw [bd_st ((v_1 S).trans e1), if_neg (nn_ne_neg (by omega))]
    show CR w J KV I _ (if v.1 = 4 then (if 6 ≤ o then .inl (3, sk b n p) else rb (agR rc b n o v.2 c f) (enR b n)) else rb (smR b n z v.1 v.2 c f) (enR b n)) (PW b n c I)
    have hc30 : c < 30 := by omega
    -- the step is begun
    have n1 : I1 19 4 = nn c := by rw [a1 19 (by decide)]; exact h4
    have j4 := i_19_4 (I := I1) (J := J) S
    rw [n1] at j4
    have j4' := i_19_4 (I := up2 I1 20 c (nn v.1)) (J := J) S
    rw [up2_a (by decide), n1] at j4'
    obtain ⟨I2, hI2⟩ : ∃ I2, I2 = up2 (up2 I1 20 c (nn v.1)) 19 4 (nn (c + 1)) := ⟨_, rfl⟩
    have A2 : Ag KV I I2 := by rw [hI2]; exact ((a1.mono (by decide)).up (by decide)).up (by decide)
    have C2 : CL b n v.2 I2 := by rw [hI2]; exact (c1.cl.fr ⟨by decide, by decide⟩).fr ⟨by decide, by decide⟩
    have n2 : I2 19 4 = nn (c + 1) := by rw [hI2, up2_s]
    have k2 : I2 20 c = nn v.1 := by rw [hI2, up2_a (by decide), up2_s]
    have sm2 : ∀ k, k ≠ c → sm4 I I2 k := fun k hk => by
      refine (ag1_sm a1 k).tr ⟨?_, ?_, ?_, ?_⟩
      · rw [hI2, up2_a (by decide), up2_k hk]
      · rw [hI2, up2_a (by decide), up2_a (by decide)]
      · rw [hI2, up2_a (by decide), up2_a (by decide)]
      · rw [hI2, up2_a (by decide), up2_a (by decide)]
    have f2 : ∀ j, j ≠ 4 → I2 19 j = I 19 j := fun j hj => by rw [hI2, up2_k hj, up2_a (by decide), a1 19 (by decide)]
    have e38 : f_X9_readStep_b38 rec 19 1 (nn z) (nn o) (nn v.1) (st w I1 J) = (if (nn v.1 = 4 : Prop) then (bd (cv 9 19 (f_X9_readAgain rec 19 1 (nn z) (nn o) (nn c))) fun v7 => f_X9_readStep_b108 rec 1 v7) else bd (cv 9 19 (f_X9_readNumbers 19 1 (nn z) (nn c))) fun v6 => f_X9_readStep_b108 rec 1 v6) (st w I2 J) := by
      rw [f_X9_readStep_b38, bd_st j4, if_pos (by rw [show (30 : Int32) = nn 30 from rfl, nn_lt (by omega) (by omega)]; exact hc30), bd_st j4, bd_st (r_19_0 S), bd_st (s_20 S hc30), bd_st j4', nn_succ, bd_st (w_19_4 S), ← hI2]
    by_cases h5 : v.1 = 4
    · rw [if_pos (by rw [q4]; exact h5), if_pos h5]
      by_cases h7 : o < 6
      · rw [if_pos (by rw [h6]; exact h7), if_neg (by omega), e38, if_pos (by rw [q4]; exact h5)]
        refine CR.pre A2 ?_
        have R := c_again (J := J) (f := f) S W hn (hr h7) (hX h7) wn (by omega) hc30 C2 n2 (by rw [k2, h5])
        refine CR.bd (M := cv 9 19 (f_X9_readAgain rec 19 1 (nn z) (nn o) (nn c))) (F := bd (cv 8 1 (f_X8_need 1 59)) fun v1 => if (v1 = 0 : Prop) then (pu 0) else pu 1) (cv19 S R) fun u I3 eu a3 Q3 => ?_
        obtain ⟨x1, x2, x3, x4, x5⟩ := Q3
        refine cl_end S W x1 fun t I4 a4 c4 => ⟨c4, by rw [a4 19 (by decide)]; exact x2, fun k hk => ?_, fun k k1 k2 => (x4 k k1 k2).sm (ag1_sm a4 k), fun j hj => ?_⟩
        · exact ((sm2 k (by omega)).tr (x3 k hk)).tr (ag1_sm a4 k)
        · rw [a4 19 (by decide), x5 j hj, f2 j hj]
      · rw [if_neg (by rw [h6]; exact h7), if_pos (by omega)]
        have i4 := i_1_4 (I := I1) (J := J) S
        rw [p1] at i4
        obtain ⟨I3, e3, a3, c3⟩ := c_failR (I := I1) (J := J) S c1.2.1 3 (sk b n p)
        refine ⟨I3, ?_, (a1.trans a3).mono (by decide), c3⟩
        rw [bd_st i4, bd_st ((v_1 S).trans e3)]
        exact rz0
    · rw [if_neg (by rw [q4]; exact h5), if_neg h5, e38, if_neg (by rw [q4]; exact h5)]
      refine CR.pre A2 ?_
      have R := c_numR (J := J) (z := z) (y := v.1) S W hz hc30 (by omega) C2 k2
      have R2 : CR w J KV I2 (cv 9 19 (f_X9_readNumbers 19 1 (nn z) (nn c)) (st w I2 J)) (smR b n z v.1 v.2 c f) (PW b n c I) := by
        rw [v_19 S]
        unfold smR
        cases hN : nmR b n z v.1 v.2 with
        | inl r =>
          rw [hN] at R
          exact R
        | inr x =>
          rw [hN] at R
          obtain ⟨I3, e3, a3, c3, fr, m1, m2, m3⟩ := R
          refine ⟨I3, e3, a3, c3, ?_, fun k hk => ?_, fun k k1 k2' => ?_, fun j hj => ?_⟩
          · rw [fr.1 19 (by decide)]; exact n2
          · obtain ⟨y1, y2, y3⟩ := fr.2 k (by omega)
            exact (sm2 k (by omega)).tr ⟨by rw [fr.1 20 (by decide)], y1, y2, y3⟩
          · have k2' : k < c + 1 := k2'
            have : k = c := by omega
            subst this
            show RkC I3 k (upF f k (v.1, x.2.1, x.2.2.1, x.2.2.2, k + 1) k)
            rw [upF_s]
            refine ⟨?_, fun y => (m1 ?_).1, fun y => (m1 y).2, fun y => m2 y, fun y => m3 y, fun y => absurd y h5⟩
            · rw [fr.1 20 (by decide)]; exact k2
            · rcases y with y | y
              · exact y
              · exact absurd y h5
          · rw [fr.1 19 (by decide)]; exact f2 j hj
      refine CR.bd (M := cv 9 19 (f_X9_readNumbers 19 1 (nn z) (nn c))) (F := bd (cv 8 1 (f_X8_need 1 59)) fun v1 => if (v1 = 0 : Prop) then (pu 0) else pu 1) R2 fun u I3 eu a3 Q3 => ?_
      obtain ⟨x1, x2, x3, x4, x5⟩ := Q3
      refine cl_end S W x1 fun t I4 a4 c4 => ⟨c4, by rw [a4 19 (by decide)]; exact x2, fun k hk => (x3 k hk).tr (ag1_sm a4 k), fun k k1 k2 => (x4 k k1 k2).sm (ag1_sm a4 k), fun j hj => ?_⟩
      rw [a4 19 (by decide), x5 j hj]
theorem c_stepsL (S : Sw w) (W : TxW b n) (hn : n ≤ 150) (ho : o ≤ 6) (hs : ∀ p c f I, p ≤ n → 5 * c ≤ p → CL b n p I → I 19 4 = nn c → CR w J KV I (f_X9_readStep rec 19 1 (nn z) (nn o) (st w I J)) (spR rc b n z o p c f) (PW b n c I)) (hX : ∀ p c f u, p ≤ n → spR rc b n z o p c f = .inr u → WX 5 n p c f u) (hY : ∀ d p c f u, p ≤ n → ssR rc b n z o d p c f = .inr u → WX 0 n p c f u) : ∀ d p c f I i N, i + d = 31 → d < N → n < 5 * d + p → p ≤ n → 5 * c ≤ p → CL b n p I → I 19 4 = nn c → CR w J KV I (f_X9_readSteps_b3 rec N 19 1 (nn z) (nn o) (nn i) (st w I J)) (ssR rc b n z o d p c f) (PW b n c I) := by
  intro d
  induction d with
  | zero => intro p c f I i N h1 h2 h3 h4; omega
  | succ d ih =>
    intro p c f I i N hi hN hd hp hc C h4
    obtain ⟨N, rfl⟩ : ∃ M, N = M + 1 := ⟨N - 1, by omega⟩
    have q30 : ¬ (30 : Int32) < nn i := by rw [show (30 : Int32) = nn 30 from rfl, nn_lt (by omega) (by omega)]; omega
    have qo : (nn o ≤ (0 : Int32)) = (o ≤ 0) := nn_le (b := 0) (by omega) (by decide)
    -- one step, and on
    have go : ∀ I1, Ag [1] I I1 → CL b n p I1 → CR w J KV I (f_X9_readSteps_b35 rec (f_X9_readSteps_b3 rec N) 19 1 (nn z) (nn o) (nn i) (st w I1 J)) (rb (spR rc b n z o p c f) fun u => ssR rc b n z o d u.1 u.2.1 u.2.2) (PW b n c I) := fun I1 a1 c1 => by
      refine CR.pre (a1.mono (by decide)) ?_
      rw [f_X9_readSteps_b35]
      refine CR.bd (cv19 S (hs p c f I1 hp hc c1 (by rw [a1 19 (by decide)]; exact h4))) fun u I2 eu a2 Q2 => ?_
      obtain ⟨x1, x2, x3, x4, x5⟩ := hX p c f u hp eu
      obtain ⟨y1, y2, y3, y4, y5⟩ := Q2
      rw [nn_succ]
      have R := ih u.1 u.2.1 u.2.2 I2 (i + 1) N (by omega) (by omega) (by omega) x2 (by omega) y1 y2
      cases hR : ssR rc b n z o d u.1 u.2.1 u.2.2 with
      | inl r =>
        rw [hR] at R
        exact R
      | inr t =>
        rw [hR] at R
        obtain ⟨I3, e3, a3, c3, n3, k3, r3, f3⟩ := R
        obtain ⟨-, -, u3, -, u5⟩ := hY d _ _ _ _ x2 hR
        refine ⟨I3, e3, a3, c3, n3, fun k hk => ?_, fun k k1 k2 => ?_, fun j hj => ?_⟩
        · exact (ag1_sm a1 k).tr ((y3 k hk).tr (k3 k (by omega)))
        · by_cases e : k < u.2.1
          · rw [u5 k e]
            exact (y4 k k1 e).sm (k3 k e)
          · exact r3 k (by omega) k2
        · rw [f3 j hj, y5 j hj, a1 19 (by decide)]
    -- the end
    have fin : ∀ I1, Ag [1] I I1 → CL b n p I1 → CR w J KV I (pu 1 (st w I1 J)) (.inr (p, c, f) : WR) (PW b n c I) := fun I1 a1 c1 => ⟨I1, rfl, a1.mono (by decide), c1, by rw [a1 19 (by decide)]; exact h4, fun k hk => ag1_sm a1 k, fun k k1 k2 => absurd k2 (by show ¬ k < c; omega), fun j hj => by rw [a1 19 (by decide)]⟩
    unfold ssR
    rw [f_X9_readSteps_b3, if_neg q30]
    by_cases h0 : o = 0
    · rw [if_pos (by rw [qo]; omega)]
      obtain ⟨q, ct, eq⟩ := C.ct
      have g := sk_ge (b := b) ct.2.2.2.2
      have gi := sk_id (b := b) ct.2.2.2.2
      have e0 := (v_1 S (F := f_X8_atEnd 1)).trans (c_atEnd (J := J) S W ct.2.2.2.2 ct.1 ct.2.2.2.1)
      rw [eq] at e0 g gi
      have a1 : Ag [1] I (up2 I 1 3 (nn (sk b n p))) := (Ag.refl _ _).up (by decide)
      have c1 : CL b n p (up2 I 1 3 (nn (sk b n p))) := ⟨ct.1.up ⟨by decide, Or.inr (by decide)⟩, by rw [up2_k (by decide)]; exact ct.2.1, by rw [up2_k (by decide)]; exact ct.2.2.1, sk b n p, g.2, up2_s, gi⟩
      rw [bd_st e0]
      by_cases h : sk b n p < n
      · rw [bI_f (fun x => x h), if_pos rfl, if_neg (by
          rintro (x | x)
          · exact x.2 h
          · omega)]
        exact go _ a1 c1
      · rw [bI_t h, if_neg (by decide), if_pos (Or.inl ⟨h0, h⟩)]
        exact fin _ a1 c1
    · rw [if_neg (by rw [qo]; omega)]
      obtain ⟨I1, e1, a1, c1, -⟩ := cl_is (J := J) (x := 93) S W C (by decide)
      have e1 : f_X8_nextIs 1 93 (st w I J) = _ := e1
      rw [bd_st ((v_1 S).trans e1)]
      by_cases h : sgP b n 93 p
      · rw [bI_t h, if_neg (by decide), if_pos (Or.inr ⟨by omega, h⟩)]
        exact fin _ a1 c1
      · rw [bI_f h, if_pos rfl, if_neg (by
          rintro (x | x)
          · exact h0 x.1
          · exact h x.2)]
        exact go _ a1 c1
end CWREC
theorem c_stepsR (S : Sw w) (W : TxW b n) (hn : n ≤ 150) (hz : z ≤ 8) : ∀ D o, o ≤ 6 → 7 ≤ D + o → RwC w J b n z (F_X9_readSteps D) (wkR b n z D) o
  | 0, o, h1, h2 => by omega
  | D + 1, o, ho, hD => by
    intro p c f I hp hc C h4
    show CR w J KV I (f_X9_readSteps (F_X9_readSteps D) 19 1 (nn z) (nn o) (st w I J)) (ssR (wkR b n z D) b n z o 31 p c f) (PW b n c I)
    rw [f_X9_readSteps]
    exact c_stepsL S W hn ho (fun p c f I hp hc C h4 => c_stepR S W hn hz (fun h => c_stepsR S W hn hz D (o + 1) (by omega) (by omega)) (fun h p c f u hp hu => (wk_X D (o + 1) p c f u hp hu).1) ho hp hc C h4) (fun p c f u hp hu => (ws_X p c f u hp hu).1) (fun d p c f u hp hu => (ss_X ws_X d p c f u hp hu).1) 31 p c f I 0 NF rfl (NF_gt (by decide)) (by omega) hp hc C h4
/-- the class reads a work from its start -/
theorem c_readW2 (S : Sw w) (W : TxW b n) (hn : n ≤ 150) (hz : z ≤ 8) (C : CT b n 0 I) (f : Nat → Rc) : CR w J KV I (f_X9_read 19 1 (nn z) (st w I J)) (wkR b n z 12 0 0 0 f) (fun u I1 => CL b n u.1 I1 ∧ I1 19 4 = nn u.2.1 ∧ (∀ k, k < u.2.1 → RkC I1 k (u.2.2 k)) ∧ I1 19 5 = 0 ∧ I1 19 6 = 0 ∧ I1 19 7 = 0) := by
  obtain ⟨I1, hI1⟩ : ∃ I1, I1 = up2 (up2 (up2 (up2 I 19 4 0) 19 5 0) 19 6 0) 19 7 0 := ⟨_, rfl⟩
  have a1 : Ag [19] I I1 := by rw [hI1]; exact ((((Ag.refl _ _).up (by decide)).up (by decide)).up (by decide)).up (by decide)
  have n4 : I1 19 4 = nn 0 := by
    rw [hI1]
    simp (disch := decide) only [up2_k, up2_s]
    rfl
  have R := c_stepsR (J := J) (z := z) S W hn hz 12 0 (by decide) (by decide) 0 0 f I1 (Nat.zero_le _) (Nat.zero_le _) (C.ag a1 (by decide) (by decide)).cl n4
  refine CR.pre (a1.mono (by decide)) ?_
  rw [f_X9_read, bd_st (w_19_4 S), bd_st (w_19_5 S), bd_st (w_19_6 S), bd_st (w_19_7 S), ← hI1]
  refine CR.rz (cv19 S ?_)
  cases hR : wkR b n z 12 0 0 0 f with
  | inl r =>
    rw [hR] at R
    exact R
  | inr u =>
    rw [hR] at R
    obtain ⟨I2, e2, a2, c2, n2, k2, r2, f2⟩ := R
    refine ⟨I2, e2, a2, c2, n2, fun k hk => r2 k (Nat.zero_le _) hk, ?_, ?_, ?_⟩
    · rw [f2 5 (by decide), hI1]
      simp (disch := decide) only [up2_k, up2_s]
    · rw [f2 6 (by decide), hI1]
      simp (disch := decide) only [up2_k, up2_s]
    · rw [f2 7 (by decide), hI1]
      simp (disch := decide) only [up2_k, up2_s]
end CWORK
