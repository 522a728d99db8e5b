/-! PURE PART: steps are done, an account, and the class -/
abbrev XS : Type := At × Nat × Nat × Nat
def dsB (F : Fo) (A : At) (q : Rc) : Bool := if rK q = 0 then decide (tkOK F A (rA q) (rB q)) else if rK q = 1 then decide (¬ nn (mo A (rA q)) = nn (rB q)) else if rK q = 2 then decide ((bz A (rH q) (hg A)).1 < hg A) else decide (yr A < 200)
def dsA (F : Fo) (L : Lw) (A : At) (q : Rc) : At := if rK q = 0 then tkA F L A (rA q) (rB q) (rH q) else if rK q = 1 then mdA A (rA q) (rB q) else if rK q = 2 then burnA A (rH q) else if yr A < 200 then yearA A else A
def ctX (t : Bool) (x : Nat × Nat × Nat) : Nat × Nat × Nat := (x.1, if t then x.2.1 + 1 else x.2.1, if t then x.2.2 else x.2.2 + 1)
def dsX (F : Fo) (L : Lw) (q : Rc) (x : XS) : XS := (dsA F L x.1 q, ctX (dsB F x.1 q) x.2)
def inX (x : XS) : XS := (x.1, x.2.1 + 1, x.2.2)
def rpX (G : XS → XS) : Nat → XS → XS
  | 0, x => x
  | t + 1, x => if x.2.1 < 200 then rpX G t (G x) else x
def pfX (F : Fo) (L : Lw) (f : Nat → Rc) : Nat → Nat → Nat → XS → XS
  | 0, _, _, x => x
  | m + 1, a, c, x => if a < c ∧ x.2.1 < 200 then pfX F L f m (rE (f a)) c (if rK (f a) = 4 then rpX (pfX F L f m (a + 1) (rE (f a))) (rA (f a)) (inX x) else dsX F L (f a) (inX x)) else x
def XW (F : Fo) (T : Nat) (x : XS) : Prop := AtW F x.1 ∧ yr x.1 ≤ 200 ∧ (∀ p, p < 8 → tk x.1 p ≤ T + x.2.1 ∧ sa x.1 p ≤ T + x.2.1) ∧ x.2.1 ≤ 200 ∧ x.2.2.1 ≤ 200 ∧ x.2.2.2 ≤ 200 ∧ x.2.2.1 + x.2.2.2 ≤ x.2.1
def XC (I : Is) (x : XS) : Prop := StR I 43 x.1 ∧ I 19 5 = nn x.2.1 ∧ I 19 6 = nn x.2.2.1 ∧ I 19 7 = nn x.2.2.2
def CC (F : Fo) (L : Lw) (f : Nat → Rc) (n : Nat) (I : Is) : Prop := FoC I F ∧ LwC I L ∧ ∀ k, k < n → RkC I k (f k)
def KP : List Nat := [15, 19, 29, 43, 44, 45, 46, 47]
section DO
variable {w : Wd} {I : Is} {J : Js} {F : Fo} {L : Lw} {f : Nat → Rc} {n T : Nat} {x : XS}
theorem CC.ag {I' : Is} (H : CC F L f n I) (h : Ag KP I I') : CC F L f n I' := by
  obtain ⟨h1, h2, h3⟩ := H
  refine ⟨?_, h2.ag h (by decide) (by decide), fun k hk => (h3 k hk).sm ⟨?_, ?_, ?_, ?_⟩⟩
  · unfold FoC
    rw [h 3 (by decide), h 4 (by decide), h 5 (by decide), h 6 (by decide), h 7 (by decide)]
    exact h1
  · rw [h 20 (by decide)]
  · rw [h 21 (by decide)]
  · rw [h 22 (by decide)]
  · rw [h 23 (by decide)]
theorem md_W {A : At} (W : AtW F A) (a m : Nat) : AtW F (mdA A a m) := by
  unfold mdA
  split
  · exact W
  · exact W
theorem ds_W (W : XW F T x) {q : Rc} (hq : nuOK (sz F) q) (h4 : rK q < 4) (hg' : x.2.1 < 200) : XW F T (dsX F L q (inX x)) := by
  obtain ⟨w1, w2, w3, w4, w5, w6, w7⟩ := W
  have e1 : (inX x).1 = x.1 := rfl
  have tkb : ∀ p, p < 8 → (tk (dsA F L x.1 q) p ≤ T + (x.2.1 + 1) ∧ sa (dsA F L x.1 q) p ≤ T + (x.2.1 + 1)) ∧ AtW F (dsA F L x.1 q) ∧ yr (dsA F L x.1 q) ≤ 200 := by
    intro p hp
    have w3p := w3 p hp
    unfold dsA
    by_cases k0 : rK q = 0
    · rw [if_pos k0]
      obtain ⟨q1, q2, q3⟩ := hq.1 k0
      refine ⟨?_, tk_W w1 L q1 q2 q3, by rw [tkA_yr]; exact w2⟩
      unfold tkA
      by_cases c : tkOK F x.1 (rA q) (rB q)
      · rw [if_pos c]
        show up1 (tk x.1) (rA q) (tk x.1 (rA q) + 1) p ≤ _ ∧ up1 (sa x.1) (rB q) (sa x.1 (rB q) + 1) p ≤ _
        constructor
        · by_cases e : p = rA q
          · subst e
            rw [up1_s]
            omega
          · rw [up1_n e]
            omega
        · by_cases e : p = rB q
          · subst e
            rw [up1_s]
            omega
          · rw [up1_n e]
            omega
      · rw [if_neg c]
        omega
    rw [if_neg k0]
    by_cases k1 : rK q = 1
    · rw [if_pos k1]
      refine ⟨?_, md_W w1 _ _, ?_⟩
      · unfold mdA
        split
        · omega
        · show tk x.1 p ≤ _ ∧ sa x.1 p ≤ _
          omega
      · unfold mdA
        split
        · exact w2
        · exact w2
    rw [if_neg k1]
    by_cases k2 : rK q = 2
    · rw [if_pos k2]
      refine ⟨?_, burn_W w1 _, w2⟩
      show tk x.1 p ≤ _ ∧ sa x.1 p ≤ _
      omega
    rw [if_neg k2]
    by_cases c : yr x.1 < 200
    · rw [if_pos c]
      refine ⟨?_, yr_W w1 (by omega), by show yr x.1 + 1 ≤ 200; omega⟩
      show tk x.1 p ≤ _ ∧ sa x.1 p ≤ _
      omega
    · rw [if_neg c]
      exact ⟨by omega, w1, w2⟩
  refine ⟨(tkb 0 (by decide)).2.1, (tkb 0 (by decide)).2.2, fun p hp => (tkb p hp).1, by show x.2.1 + 1 ≤ 200; omega, ?_, ?_, ?_⟩
  · show (if dsB F x.1 q then x.2.2.1 + 1 else x.2.2.1) ≤ 200
    split <;> omega
  · show (if dsB F x.1 q then x.2.2.2 else x.2.2.2 + 1) ≤ 200
    split <;> omega
  · show (if dsB F x.1 q then x.2.2.1 + 1 else x.2.2.1) + (if dsB F x.1 q then x.2.2.2 else x.2.2.2 + 1) ≤ x.2.1 + 1
    split <;> omega
theorem in_W (W : XW F T x) (hg' : x.2.1 < 200) : XW F T (inX x) := by
  obtain ⟨w1, w2, w3, w4, w5, w6, w7⟩ := W
  refine ⟨w1, w2, fun p hp => ?_, by show x.2.1 + 1 ≤ 200; omega, w5, w6, by show x.2.2.1 + x.2.2.2 ≤ x.2.1 + 1; omega⟩
  have := w3 p hp
  show tk x.1 p ≤ T + (x.2.1 + 1) ∧ sa x.1 p ≤ T + (x.2.1 + 1)
  omega
/-- a step done or refused is counted -/
theorem c_122 (S : Sw w) {A : At} {y : Nat × Nat × Nat} (t : Bool) (H : StR I 43 A) (h5 : I 19 5 = nn y.1) (h6 : I 19 6 = nn y.2.1) (h7 : I 19 7 = nn y.2.2) : ∃ I1, f_X9_performStep_b132 19 (bI (t = true)) (st w I J) = some (.inl (), st w I1 J) ∧ Ag [19] I I1 ∧ XC I1 (A, ctX t y) := by
  cases t with
  | true =>
    have i6 := i_19_6 (I := I) (J := J) S
    rw [h6] at i6
    have a : Ag [19] I (up2 I 19 6 (nn (y.2.1 + 1))) := (Ag.refl _ _).up (by decide)
    refine ⟨_, ?_, a, H.ag a (by decide), ?_, up2_s, ?_⟩
    · rw [f_X9_performStep_b132, bI_t rfl, if_neg (by decide), bd_st i6, nn_succ, bd_st (w_19_6 S)]
      rfl
    · rw [up2_k (by decide)]; exact h5
    · rw [up2_k (by decide)]; exact h7
  | false =>
    have i7 := i_19_7 (I := I) (J := J) S
    rw [h7] at i7
    have a : Ag [19] I (up2 I 19 7 (nn (y.2.2 + 1))) := (Ag.refl _ _).up (by decide)
    refine ⟨_, ?_, a, H.ag a (by decide), ?_, ?_, up2_s⟩
    · rw [f_X9_performStep_b132, bI_f (by decide), if_pos rfl, bd_st i7, nn_succ, bd_st (w_19_7 S)]
      rfl
    · rw [up2_k (by decide)]; exact h5
    · rw [up2_k (by decide)]; exact h6
theorem c_do (S : Sw w) (WF : FoW F) (WL : LwW L) {k : Nat} {q : Rc} (hk : k < 30) (hq : nuOK (sz F) q) (h4 : rK q < 4) (HF : FoC I F) (HL : LwC I L) (HR : RkC I k q) (HX : XC I x) (WA : AtW F x.1) (hy : yr x.1 ≤ 200) : ∃ I1, f_X9_performStep 19 28 43 (nn k) (st w I J) = some (.inl (), st w I1 J) ∧ Ag KP I I1 ∧ XC I1 (dsX F L q x) := by
  have h8 := WF.1
  obtain ⟨H, h5, h6, h7⟩ := HX
  obtain ⟨r0, r1, r2, r3, r4, -⟩ := HR
  have l20 := l_20 (I := I) (J := J) (k := k) S hk
  rw [r0] at l20
  have T43 := StS_43 S
  -- the count behind it
  have fin : ∀ (I1 : Is) (A : At) (t : Bool) (v : Int32), Ag [15, 29, 43, 44, 45, 46, 47] I I1 → StR I1 43 A → v = bI (t = true) → ∃ I2, f_X9_performStep_b132 19 v (st w I1 J) = some (.inl (), st w I2 J) ∧ Ag KP I I2 ∧ XC I2 (A, ctX t x.2) := fun I1 A t v a1 H1 hv => by
    have x19 : I1 19 = I 19 := a1 19 (by decide)
    obtain ⟨I2, e2, a2, c2⟩ := c_122 (J := J) S t H1 (y := x.2) (by rw [x19]; exact h5) (by rw [x19]; exact h6) (by rw [x19]; exact h7)
    refine ⟨I2, ?_, (a1.mono (by decide)).trans (a2.mono (by decide)), c2⟩
    rw [hv]
    exact e2
  rw [f_X9_performStep, bd_st (r_19_0 S), bd_st l20]
  rcases (show rK q = 0 ∨ rK q = 1 ∨ rK q = 2 ∨ rK q = 3 by omega) with e | e | e | e
  · obtain ⟨q1, q2, q3⟩ := hq.1 e
    have l1 := l_21 (I := I) (J := J) (k := k) S hk
    rw [r1 (by omega)] at l1
    have l2 := l_22 (I := I) (J := J) (k := k) S hk
    rw [r2 (by omega)] at l2
    have l3 := l_23 (I := I) (J := J) (k := k) S hk
    rw [r3 e] at l3
    obtain ⟨I1, e1, a1, s1⟩ := c_take (J := J) (h := rH q) S HF h8 T43 (by decide) H WA HL WL q1 q2 q3
    rw [show dsX F L q x = (tkA F L x.1 (rA q) (rB q) (rH q), ctX (decide (tkOK F x.1 (rA q) (rB q))) x.2) from by unfold dsX dsA dsB; rw [if_pos e, if_pos e], e, sw_at 0 (by decide)]
    obtain ⟨I2, e2, a2, c2⟩ := fin I1 _ (decide (tkOK F x.1 (rA q) (rB q))) _ (a1.mono (by decide)) s1 rfl
    refine ⟨I2, ?_, a2, c2⟩
    show (bd (gR 9 1 19) _) (st w I J) = _
    rw [bd_st (r_19_1 S), bd_st l1, bd_st (r_19_2 S), bd_st l2, bd_st (r_19_3 S), bd_st l3, bd_st ((v_28 S).trans e1)]
    rw [← e2]
    congr 1
    simp only [bI, decide_eq_true_eq]
  · obtain ⟨q1, q2⟩ := hq.2.1 e
    have l1 := l_21 (I := I) (J := J) (k := k) S hk
    rw [r1 (by omega)] at l1
    have l2 := l_22 (I := I) (J := J) (k := k) S hk
    rw [r2 (by omega)] at l2
    have e1 := c_setMood (J := J) (a := rA q) (m := rB q) T43 H (by omega)
    rw [show dsX F L q x = (mdA x.1 (rA q) (rB q), ctX (decide (¬ nn (mo x.1 (rA q)) = nn (rB q))) x.2) from by unfold dsX dsA dsB; rw [e]; rfl, e, sw_at 1 (by decide)]
    obtain ⟨I2, e2, a2, c2⟩ := fin (up2 I (43 + 1) (rA q) (nn (rB q))) _ (decide (¬ nn (mo x.1 (rA q)) = nn (rB q))) _ ((Ag.refl _ _).up (by decide)) (H.mood (by omega)) rfl
    refine ⟨I2, ?_, a2, c2⟩
    show (bd (gR 9 1 19) _) (st w I J) = _
    rw [bd_st (r_19_1 S), bd_st l1, bd_st (r_19_2 S), bd_st l2, bd_st ((v_43 S).trans e1)]
    rw [← e2]
    congr 1
    simp only [bI, decide_eq_true_eq]
  · have q1 := hq.2.2 e
    have l1 := l_21 (I := I) (J := J) (k := k) S hk
    rw [r4 e] at l1
    obtain ⟨I1, e1, a1, s1⟩ := c_burn (J := J) T43 H WA h8 q1
    rw [show dsX F L q x = (burnA x.1 (rH q), ctX (decide ((bz x.1 (rH q) (hg x.1)).1 < hg x.1)) x.2) from by unfold dsX dsA dsB; rw [e]; rfl, e, sw_at 2 (by decide)]
    obtain ⟨I2, e2, a2, c2⟩ := fin I1 _ (decide ((bz x.1 (rH q) (hg x.1)).1 < hg x.1)) _ (a1.mono (by decide)) s1 rfl
    refine ⟨I2, ?_, a2, c2⟩
    show (bd (gR 9 1 19) _) (st w I J) = _
    rw [bd_st (r_19_1 S), bd_st l1, bd_st ((v_43 S).trans e1)]
    rw [← e2]
    congr 1
    simp only [bI, decide_eq_true_eq]
  · rw [show dsX F L q x = (if yr x.1 < 200 then yearA x.1 else x.1, ctX (decide (yr x.1 < 200)) x.2) from by unfold dsX dsA dsB; rw [e]; rfl, e, sw_at 3 (by decide)]
    have i5 := i_43_5 (I := I) (J := J) S
    rw [sr_yr H] at i5
    have q200 : ((200 : Int32) ≤ nn (yr x.1)) = (200 ≤ yr x.1) := nn_le (a := 200) (by decide) (by omega)
    by_cases c : yr x.1 < 200
    · obtain ⟨I1, e1, a1, s1⟩ := c_turnYear (J := J) T43 H
      rw [if_pos c]
      obtain ⟨I2, e2, a2, c2⟩ := fin I1 _ (decide (yr x.1 < 200)) 1 (a1.mono (by decide)) s1 (by rw [bI_t (by simpa using c)])
      refine ⟨I2, ?_, a2, c2⟩
      show (bd (gI 5 5 43) _) (st w I J) = _
      rw [bd_st i5, if_neg (by rw [q200]; omega), f_X9_performStep_b115, if_neg (by decide), bd_st ((v_43 S).trans e1)]
      exact e2
    · rw [if_neg c]
      obtain ⟨I2, e2, a2, c2⟩ := fin I x.1 (decide (yr x.1 < 200)) 0 (Ag.refl _ _) H (by rw [bI_f (by simpa using c)])
      refine ⟨I2, ?_, a2, c2⟩
      show (bd (gI 5 5 43) _) (st w I J) = _
      rw [bd_st i5, if_pos (by rw [q200]; omega), f_X9_performStep_b115, if_pos rfl]
      exact e2
/-- what the class's perform does, one bracket in -/
def RpC (w : Wd) (J : Js) (F : Fo) (L : Lw) (f : Nat → Rc) (n T : Nat) (rec : Nat → Nat → Nat → Int32 → Int32 → Int32 → Mo Unit) (o : Nat) : Prop := ∀ m a c x I, WFS (sz F) f m o a c → c ≤ n → CC F L f n I → XC I x → XW F T x → ∃ I1, rec 19 28 43 (nn a) (nn c) (nn o) (st w I J) = some (.inl (), st w I1 J) ∧ Ag KP I I1 ∧ XC I1 (pfX F L f m a c x) ∧ XW F T (pfX F L f m a c x)
section DOREC
variable {rec : Nat → Nat → Nat → Int32 → Int32 → Int32 → Mo Unit} {o : Nat}
theorem c_rep (S : Sw w) (hn : n ≤ 30) (hr : RpC w J F L f n T rec (o + 1)) (ho : o ≤ 6) {m a c : Nat} (ha : a < c) (hc : c ≤ n) (he : rE (f a) ≤ n) (hae : a < rE (f a)) (h4 : rK (f a) = 4) (ht : rA (f a) ≤ 30) (hm : WFS (sz F) f m (o + 1) (a + 1) (rE (f a))) (k3 : Nat → Nat → Nat → Int32 → Int32 → Int32 → Mo Unit) : ∀ d i x I N, i + d = rA (f a) → d < N → CC F L f n I → XC I x → XW F T x → ∃ I1, f_X9_performSteps_b69 rec k3 N 19 28 43 (nn c) (nn o) (nn a) (nn i) (st w I J) = k3 19 28 43 (nn c) (nn o) (nn (rE (f a))) (st w I1 J) ∧ Ag KP I I1 ∧ XC I1 (rpX (pfX F L f m (a + 1) (rE (f a))) d x) ∧ XW F T (rpX (pfX F L f m (a + 1) (rE (f a))) d x) := by
  -- the end
  have fin : ∀ {I : Is}, CC F L f n I → f_X9_performSteps_b118 rec k3 19 28 43 (nn c) (nn o) (nn a) (st w I J) = k3 19 28 43 (nn c) (nn o) (nn (rE (f a))) (st w I J) := fun {I} H => by
    obtain ⟨r0, r1, r2, r3, r4, r5⟩ := H.2.2 a (by omega)
    have l2 := l_22 (I := I) (J := J) (k := a) S (by omega)
    rw [r5 h4] at l2
    have mx : mx32 (nn a) (nn (rE (f a)) - 1) + 1 = nn (rE (f a)) := by
      rw [nn_pred (by omega), mx_nn (by omega) (by omega), nn_succ]
      congr 1
      omega
    rw [f_X9_performSteps_b118, bd_st (r_19_2 S), bd_st l2, f_X9_performSteps_b134, mx]
  intro d
  induction d with
  | zero =>
    intro i x I N hi hN H HX W
    obtain ⟨N, rfl⟩ : ∃ M, N = M + 1 := ⟨N - 1, by omega⟩
    obtain ⟨r0, r1, r2, r3, r4, r5⟩ := H.2.2 a (by omega)
    have l1 := l_21 (I := I) (J := J) (k := a) S (by omega)
    rw [r1 (Or.inr h4)] at l1
    refine ⟨I, ?_, Ag.refl _ _, HX, W⟩
    rw [f_X9_performSteps_b69, bd_st (r_19_1 S), bd_st l1, if_pos (by rw [nn_le (by omega) (by omega)]; omega)]
    exact fin H
  | succ d ih =>
    intro i x I N hi hN H HX W
    obtain ⟨N, rfl⟩ : ∃ M, N = M + 1 := ⟨N - 1, by omega⟩
    obtain ⟨r0, r1, r2, r3, r4, r5⟩ := H.2.2 a (by omega)
    have l1 := l_21 (I := I) (J := J) (k := a) S (by omega)
    rw [r1 (Or.inr h4)] at l1
    have l2 := l_22 (I := I) (J := J) (k := a) S (by omega)
    rw [r5 h4] at l2
    have i5 := i_19_5 (I := I) (J := J) S
    rw [HX.2.1] at i5
    have g200 := W.2.2.2.1
    have q200 : ((200 : Int32) ≤ nn x.2.1) = (200 ≤ x.2.1) := nn_le (a := 200) (by decide) (by omega)
    unfold rpX
    rw [f_X9_performSteps_b69, bd_st (r_19_1 S), bd_st l1, if_neg (by rw [nn_le (by omega) (by omega)]; omega), bd_st i5]
    by_cases h : x.2.1 < 200
    · rw [if_pos h, if_neg (by rw [q200]; omega), bd_st (r_19_2 S), bd_st l2, nn_succ, nn_succ]
      obtain ⟨I1, e1, a1, c1, w1⟩ := hr m (a + 1) (rE (f a)) x I hm he H HX W
      rw [bd_st ((v_19 S).trans e1), nn_succ]
      obtain ⟨I2, e2, a2, c2, w2⟩ := ih (i + 1) _ I1 N (by omega) (by omega) (H.ag a1) c1 w1
      exact ⟨I2, e2, a1.trans a2, c2, w2⟩
    · rw [if_neg h, if_pos (by rw [q200]; omega)]
      exact ⟨I, fin H, Ag.refl _ _, HX, W⟩
theorem c_pfL (S : Sw w) (WF : FoW F) (WL : LwW L) (hn : n ≤ 30) (hr : o < 6 → RpC w J F L f n T rec (o + 1)) (ho : o ≤ 6) {c : Nat} (hc : c ≤ n) : ∀ m a x I N, WFS (sz F) f m o a c → c - a < N → CC F L f n I → XC I x → XW F T x → ∃ I1, f_X9_performSteps_b3 rec N 19 28 43 (nn c) (nn o) (nn a) (st w I J) = some (.inl (), st w I1 J) ∧ Ag KP I I1 ∧ XC I1 (pfX F L f m a c x) ∧ XW F T (pfX F L f m a c x) := by
  intro m
  induction m with
  | zero =>
    intro a x I N hW hN H HX W
    obtain ⟨N, rfl⟩ : ∃ M, N = M + 1 := ⟨N - 1, by omega⟩
    have hW : a = c := hW
    refine ⟨I, ?_, Ag.refl _ _, HX, W⟩
    rw [f_X9_performSteps_b3, if_pos (by rw [nn_le (by omega) (by omega)]; omega)]
    rfl
  | succ m ih =>
    intro a x I N hW hN H HX W
    obtain ⟨N, rfl⟩ : ∃ M, N = M + 1 := ⟨N - 1, by omega⟩
    unfold pfX
    rcases hW with hW | ⟨b1, b2, b3, b4⟩
    · rw [if_neg (by omega)]
      refine ⟨I, ?_, Ag.refl _ _, HX, W⟩
      rw [f_X9_performSteps_b3, if_pos (by rw [nn_le (by omega) (by omega)]; omega)]
      rfl
    have i5 := i_19_5 (I := I) (J := J) S
    rw [HX.2.1] at i5
    have g200 := W.2.2.2.1
    have q200 : ((200 : Int32) ≤ nn x.2.1) = (200 ≤ x.2.1) := nn_le (a := 200) (by decide) (by omega)
    rw [f_X9_performSteps_b3, if_neg (by rw [nn_le (by omega) (by omega)]; omega), if_neg (by rw [show (30 : Int32) = nn 30 from rfl, nn_le (by omega) (by omega)]; omega), bd_st i5]
    by_cases h : x.2.1 < 200
    rotate_left
    · rw [if_neg (show ¬ (a < c ∧ x.2.1 < 200) from fun z => h z.2), if_pos (show (200 : Int32) ≤ nn x.2.1 by rw [q200]; omega)]
      exact ⟨I, rfl, Ag.refl _ _, HX, W⟩
    rw [if_pos (show a < c ∧ x.2.1 < 200 from ⟨by omega, h⟩), if_neg (show ¬ (200 : Int32) ≤ nn x.2.1 by rw [q200]; omega), bd_st i5, nn_succ, bd_st (w_19_5 S)]
    obtain ⟨I1, hI1⟩ : ∃ I1, I1 = up2 I 19 5 (nn (x.2.1 + 1)) := ⟨_, rfl⟩
    have a1 : Ag [19] I I1 := by rw [hI1]; exact (Ag.refl _ _).up (by decide)
    have H1 : CC F L f n I1 := H.ag (a1.mono (by decide))
    have X1 : XC I1 (inX x) := ⟨HX.1.ag a1 (by decide), by rw [hI1, up2_s]; rfl, by rw [hI1, up2_k (by decide)]; exact HX.2.2.1, by rw [hI1, up2_k (by decide)]; exact HX.2.2.2⟩
    have W1 := in_W W h
    rw [← hI1]
    have HR := H1.2.2 a (by omega)
    have l0 := l_20 (I := I1) (J := J) (k := a) S (by omega)
    rw [HR.1] at l0
    rw [bd_st (r_19_0 S), bd_st l0]
    rcases b3 with ⟨k4, ke, kn⟩ | ⟨k4, k6, k30, kw⟩
    · have q4 : (nn (rK (f a)) = (4 : Int32)) = (rK (f a) = 4) := nn_eq (b := 4) (by omega) (by decide)
      rw [if_neg (show ¬ nn (rK (f a)) = (4 : Int32) by rw [q4]; omega), if_neg (show ¬ rK (f a) = 4 by omega)]
      obtain ⟨I2, e2, a2, c2⟩ := c_do (J := J) (x := inX x) S WF WL (show a < 30 by omega) kn k4 H1.1 H1.2.1 HR X1 W1.1 W1.2.1
      have W2 := ds_W (L := L) W kn k4 h
      obtain ⟨I3, e3, a3, c3, w3⟩ := ih (rE (f a)) _ I2 N b4 (by omega) (H1.ag a2) c2 W2
      refine ⟨I3, ?_, ((a1.mono (by decide)).trans a2).trans a3, c3, w3⟩
      rw [bd_st ((v_19 S).trans e2), f_X9_performSteps_b134, nn_succ, ← ke]
      exact e3
    · have q6 : ((6 : Int32) ≤ nn o) = (6 ≤ o) := nn_le (a := 6) (by decide) (by omega)
      rw [if_pos (show nn (rK (f a)) = (4 : Int32) by rw [k4]; rfl), if_neg (show ¬ (6 : Int32) ≤ nn o by rw [q6]; omega), if_pos k4]
      obtain ⟨I2, e2, a2, c2, W2⟩ := c_rep (J := J) S hn (hr k6) ho (show a < c by omega) hc (by omega) b1 k4 k30 kw (f_X9_performSteps_b3 rec N) (rA (f a)) 0 (inX x) I1 NF (by omega) (NF_gt (by omega)) H1 X1 W1
      obtain ⟨I3, e3, a3, c3, w3⟩ := ih (rE (f a)) _ I2 N b4 (by omega) (H1.ag a2) c2 W2
      exact ⟨I3, e2.trans e3, ((a1.mono (by decide)).trans a2).trans a3, c3, w3⟩
end DOREC
theorem c_perf (S : Sw w) (WF : FoW F) (WL : LwW L) (hn : n ≤ 30) : ∀ D o, o ≤ 6 → 7 ≤ D + o → RpC w J F L f n T (F_X9_performSteps D) o
  | 0, o, h1, h2 => by omega
  | D + 1, o, ho, hD => by
    intro m a c x I hW hc H HX W
    have := hW.le
    exact c_pfL S WF WL hn (fun h => c_perf S WF WL hn D (o + 1) (by omega) (by omega)) ho hc m a x I NF hW (NF_gt (by omega)) H HX W
end DO
