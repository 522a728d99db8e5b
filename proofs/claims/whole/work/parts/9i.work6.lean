/-! PURE PART: steps are done, the model -/
def XM (I : Is) (x : XS) : Prop := RwR I 497 0 x.1 ∧ I 49 36 = nn x.2.1 ∧ I 49 37 = nn x.2.2.1 ∧ I 49 33 = nn x.2.2.2
def CM2 (F : Fo) (L : Lw) (f : Nat → Rc) (n : Nat) (I : Is) : Prop := FoM I F ∧ LwM I L ∧ ∀ k, k < n → RkM I k (f k)
def XF (I I' : Is) : Prop := Ag [49, 414, 415, 497] I I' ∧ ∀ j, j ≠ 33 → j ≠ 36 → j ≠ 37 → I' 49 j = I 49 j
theorem XF.refl (I : Is) : XF I I := ⟨Ag.refl _ _, fun _ _ _ _ => rfl⟩
theorem XF.trans {I I' I'' : Is} (h : XF I I') (h' : XF I' I'') : XF I I'' := ⟨h.1.trans h'.1, fun j a b c => (h'.2 j a b c).trans (h.2 j a b c)⟩
theorem XF.of {K : List Nat} {I I' : Is} (h : Ag K I I') (hk : ∀ a ∈ K, a ∈ [414, 415, 497]) : XF I I' := ⟨h.mono fun a ha => List.mem_cons_of_mem _ (hk a ha), fun j _ _ _ => by rw [h 49 fun q => absurd (hk 49 q) (by decide)]⟩
theorem XF.up {I I' : Is} {j : Nat} {v : Int32} (h : XF I I') (hj : j = 33 ∨ j = 36 ∨ j = 37) : XF I (up2 I' 49 j v) := ⟨h.1.up (by decide), fun i a b c => by
  rw [up2_k (by omega)]
  exact h.2 i a b c⟩
section DOM
variable {w : Wd} {I : Is} {J : Js} {F : Fo} {L : Lw} {f : Nat → Rc} {n T : Nat} {x : XS}
theorem CM2.ag {I' : Is} (H : CM2 F L f n I) (h : XF I I') (h8 : sz F ≤ 8) (hL : lwN L ≤ 150) (hn : n ≤ 30) : CM2 F L f n I' := by
  obtain ⟨h1, h2, h3⟩ := H
  refine ⟨⟨?_, ?_, fun p hp => ?_⟩, h2.kp hL (fun j hj => h.1 (75 + j) (by simp; omega)) (h.2 17 (by decide) (by decide) (by decide)), fun k hk => (h3 k hk).row (h.1 (417 + k) (by simp; omega))⟩
  · rw [h.1 53 (by decide)]; exact h1.1
  · rw [h.1 53 (by decide)]; exact h1.2.1
  · rw [h.1 55 (by decide), h.1 (66 + p) (by simp; omega)]; exact h1.2.2 p hp
theorem m_does (S : Sw w) (WF : FoW F) (WL : LwW L) {k : Nat} {q : Rc} (hk : k < 30) (hq : nuOK (sz F) q) (h4 : rK q < 4) (HF : FoM I F) (HL : LwM I L) (HR : RkM I k q) {A : At} (H : RwR I 497 0 A) (WA : AtW F A) (hy : yr A ≤ 200) : ∃ I1, f_X12_does 49 497 (417 + k) (st w I J) = some (.inl (bI (dsB F A q = true)), st w I1 J) ∧ Ag [414, 415, 497] I I1 ∧ RwR I1 497 0 (dsA F L A q) := by
  have h8 := WF.1
  have hk80 : k < 80 := by omega
  obtain ⟨r0, r1, r2, r3, r4⟩ := HR
  have l0 := l_417_0 (I := I) (J := J) (p := k) S hk80
  rw [r0] at l0
  have l1 := l_417_1 (I := I) (J := J) (p := k) S hk80
  have l2 := l_417_2 (I := I) (J := J) (p := k) S hk80
  have l3 := l_417_3 (I := I) (J := J) (p := k) S hk80
  have U := RoS_497 S
  rw [f_X12_does, bd_st l0]
  rcases (show rK q = 0 ∨ rK q = 1 ∨ rK q = 2 ∨ rK q = 3 by omega) with e | e | e | e
  · obtain ⟨q1, q2, q3⟩ := hq.1 e
    rw [r1 (by omega)] at l1
    rw [r2 (by omega)] at l2
    rw [r3 (by omega)] at l3
    obtain ⟨I1, e1, a1, s1⟩ := m_takes (J := J) (h := rH q) S HF h8 U (by decide) H WA HL WL q1 q2 q3
    rw [show dsA F L A q = tkA F L A (rA q) (rB q) (rH q) from by unfold dsA; rw [if_pos e], show dsB F A q = decide (tkOK F A (rA q) (rB q)) from by unfold dsB; rw [if_pos e], e, sw_at 0 (by decide)]
    refine ⟨I1, ?_, a1.mono (by decide), s1⟩
    show (bd (al 0 (417 + k) 1) _) (st w I J) = _
    rw [bd_st l1, bd_st l2, bd_st l3, bd_st ((v_49 S).trans e1), rz_b]
    congr 3
    simp only [bI, decide_eq_true_eq]
  · obtain ⟨q1, q2⟩ := hq.2.1 e
    rw [r1 (by omega)] at l1
    rw [r2 (by omega)] at l2
    have lm := o_l (I := I) (J := J) (k := rA q) U (by omega)
    rw [rr_mo H (by omega)] at lm
    rw [show dsA F L A q = mdA A (rA q) (rB q) from by unfold dsA; rw [e]; rfl, show dsB F A q = decide (¬ nn (mo A (rA q)) = nn (rB q)) from by unfold dsB; rw [e]; rfl, e, sw_at 1 (by decide)]
    by_cases c : nn (mo A (rA q)) = nn (rB q)
    · refine ⟨I, ?_, Ag.refl _ _, by unfold mdA; rw [if_pos c]; exact H⟩
      show (bd (al 0 (417 + k) 1) _) (st w I J) = _
      rw [bd_st l1, ix0, bd_st lm, bd_st l2, if_pos c, bI_f (by simpa using c)]
      rfl
    · refine ⟨up2 I 497 (rA q) (nn (rB q)), ?_, (Ag.refl _ _).up (by decide), by unfold mdA; rw [if_neg c]; exact H.mood (by omega)⟩
      show (bd (al 0 (417 + k) 1) _) (st w I J) = _
      rw [bd_st l1, ix0, bd_st lm, bd_st l2, if_neg c, bd_st l1, bd_st l2, ix0, bd_st (o_s U (by omega)), bI_t (by simpa using c)]
      rfl
  · have q1 := hq.2.2 e
    rw [r3 (by omega)] at l3
    obtain ⟨I1, e1, a1, s1⟩ := m_burns (J := J) U H WA q1
    rw [show dsA F L A q = burnA A (rH q) from by unfold dsA; rw [e]; rfl, show dsB F A q = decide ((bz A (rH q) (hg A)).1 < hg A) from by unfold dsB; rw [e]; rfl, e, sw_at 2 (by decide)]
    refine ⟨I1, ?_, a1.mono (by decide), s1⟩
    show (bd (al 0 (417 + k) 3) _) (st w I J) = _
    rw [bd_st l3, bd_st e1, rz_b]
    congr 3
    simp only [bI, decide_eq_true_eq]
  · have ly := o_l27 (I := I) (J := J) U
    rw [rr_yr H] at ly
    have q200 : (nn (yr A) < (200 : Int32)) = (yr A < 200) := nn_lt (b := 200) (by omega) (by decide)
    rw [show dsA F L A q = (if yr A < 200 then yearA A else A) from by unfold dsA; rw [e]; rfl, show dsB F A q = decide (yr A < 200) from by unfold dsB; rw [e]; rfl, e, sw_at 3 (by decide)]
    by_cases c : yr A < 200
    · obtain ⟨I1, e1, a1, s1⟩ := m_yearEnds (J := J) U H
      rw [if_pos c]
      refine ⟨I1, ?_, a1.mono (by decide), s1⟩
      show (bd (al 0 497 27) _) (st w I J) = _
      rw [bd_st ly, if_pos (by rw [q200]; exact c), bd_st e1, bI_t (by simpa using c)]
      rfl
    · rw [if_neg c]
      refine ⟨I, ?_, Ag.refl _ _, H⟩
      show (bd (al 0 497 27) _) (st w I J) = _
      rw [bd_st ly, if_neg (by rw [q200]; exact c), bI_f (by simpa using c)]
      rfl
def RgM (w : Wd) (J : Js) (F : Fo) (L : Lw) (f : Nat → Rc) (n T : Nat) (rec : Nat → Int32 → Int32 → Mo Unit) (o : Nat) : Prop := ∀ m a c x I, WFS (sz F) f m o a c → c ≤ n → CM2 F L f n I → XM I x → XW F T x → ∃ I1, rec 49 (nn a) (nn c) (st w I J) = some (.inl (), st w I1 J) ∧ XF I I1 ∧ XM I1 (pfX F L f m a c x) ∧ XW F T (pfX F L f m a c x)
section DOMREC
variable {rec : Nat → Int32 → Int32 → Mo Unit} {o : Nat}
theorem m_rep (S : Sw w) (WF : FoW F) (WL : LwW L) (hn : n ≤ 30) (hr : RgM w J F L f n T rec (o + 1)) {m a c : Nat} (ha : a < c) (hc : c ≤ n) (he : rE (f a) ≤ n) (h4 : rK (f a) = 4) (ht : rA (f a) ≤ 30) (hm : WFS (sz F) f m (o + 1) (a + 1) (rE (f a))) (k2 : Nat → Int32 → Int32 → Mo Unit) : ∀ d i x I N, i + d = rA (f a) → d < N → CM2 F L f n I → XM I x → XW F T x → ∃ I1, f_X12_goes_b42 rec k2 N 49 (nn c) (nn a) (nn i) (st w I J) = k2 49 (nn c) (nn (rE (f a))) (st w I1 J) ∧ XF I I1 ∧ XM I1 (rpX (pfX F L f m (a + 1) (rE (f a))) d x) ∧ XW F T (rpX (pfX F L f m (a + 1) (rE (f a))) d x) := by
  have h8 := WF.1
  have hL := WL.1
  have ha80 : a < 80 := by omega
  have fin : ∀ {I : Is}, CM2 F L f n I → f_X12_goes_b86 rec k2 49 (nn c) (nn a) (st w I J) = k2 49 (nn c) (nn (rE (f a))) (st w I J) := fun {I} H => by
    have l4 := l_417_4 (I := I) (J := J) (p := a) S ha80
    rw [(H.2.2 a (by omega)).2.2.2.2] at l4
    rw [f_X12_goes_b86, f_X12_goes_b143, bd_st (r_49_25 S), bd_st (g_416 S ha80), bd_st l4]
  intro d
  induction d with
  | zero =>
    intro i x I N hi hN H HX W
    obtain ⟨N, rfl⟩ : ∃ M, N = M + 1 := ⟨N - 1, by omega⟩
    have l1 := l_417_1 (I := I) (J := J) (p := a) S ha80
    rw [(H.2.2 a (by omega)).2.1 (Or.inr h4)] at l1
    refine ⟨I, ?_, XF.refl _, HX, W⟩
    rw [f_X12_goes_b42, bd_st (r_49_25 S), bd_st (g_416 S ha80), bd_st l1, if_pos (by rw [nn_le (by omega) (by omega)]; omega)]
    exact fin H
  | succ d ih =>
    intro i x I N hi hN H HX W
    obtain ⟨N, rfl⟩ : ∃ M, N = M + 1 := ⟨N - 1, by omega⟩
    have l1 := l_417_1 (I := I) (J := J) (p := a) S ha80
    rw [(H.2.2 a (by omega)).2.1 (Or.inr h4)] at l1
    have l4 := l_417_4 (I := I) (J := J) (p := a) S ha80
    rw [(H.2.2 a (by omega)).2.2.2.2] at l4
    have i36 := i_49_36 (I := I) (J := J) S
    rw [HX.2.1] at i36
    have g200 := W.2.2.2.1
    have q200 : ((200 : Int32) ≤ nn x.2.1) = (200 ≤ x.2.1) := nn_le (a := 200) (by decide) (by omega)
    unfold rpX
    rw [f_X12_goes_b42, bd_st (r_49_25 S), bd_st (g_416 S ha80), bd_st l1, if_neg (by rw [nn_le (by omega) (by omega)]; omega), bd_st i36]
    by_cases h : x.2.1 < 200
    · rw [if_pos h, if_neg (show ¬ (200 : Int32) ≤ nn x.2.1 by rw [q200]; omega), bd_st (r_49_25 S), bd_st (g_416 S ha80), bd_st l4, nn_succ]
      obtain ⟨I1, e1, a1, c1, w1⟩ := hr m (a + 1) (rE (f a)) x I hm he H HX W
      rw [bd_st ((v_49 S).trans e1), nn_succ]
      obtain ⟨I2, e2, a2, c2, w2⟩ := ih (i + 1) _ I1 N (by omega) (by omega) (H.ag a1 h8 hL hn) c1 w1
      exact ⟨I2, e2, a1.trans a2, c2, w2⟩
    · rw [if_neg h, if_pos (show (200 : Int32) ≤ nn x.2.1 by rw [q200]; omega)]
      exact ⟨I, fin H, XF.refl _, HX, W⟩
theorem m_pfL (S : Sw w) (WF : FoW F) (WL : LwW L) (hn : n ≤ 30) (hr : o < 6 → RgM w J F L f n T rec (o + 1)) {c : Nat} (hc : c ≤ n) : ∀ m a x I N, WFS (sz F) f m o a c → c - a < N → CM2 F L f n I → XM I x → XW F T x → ∃ I1, f_X12_goes_b2 rec N 49 (nn c) (nn a) (st w I J) = some (.inl (), st w I1 J) ∧ XF I I1 ∧ XM I1 (pfX F L f m a c x) ∧ XW F T (pfX F L f m a c x) := by
  have h8 := WF.1
  have hL := WL.1
  intro m
  induction m with
  | zero =>
    intro a x I N hW hN H HX W
    obtain ⟨N, rfl⟩ : ∃ M, N = M + 1 := ⟨N - 1, by omega⟩
    have hW : a = c := hW
    refine ⟨I, ?_, XF.refl _, HX, W⟩
    rw [f_X12_goes_b2, if_pos (by rw [nn_le (by omega) (by omega)]; omega)]
    rfl
  | succ m ih =>
    intro a x I N hW hN H HX W
    obtain ⟨N, rfl⟩ : ∃ M, N = M + 1 := ⟨N - 1, by omega⟩
    unfold pfX
    rcases hW with hW | ⟨b1, b2, b3, b4⟩
    · rw [if_neg (by omega)]
      refine ⟨I, ?_, XF.refl _, HX, W⟩
      rw [f_X12_goes_b2, if_pos (by rw [nn_le (by omega) (by omega)]; omega)]
      rfl
    have ha80 : a < 80 := by omega
    have i36 := i_49_36 (I := I) (J := J) S
    rw [HX.2.1] at i36
    have g200 := W.2.2.2.1
    have q200 : ((200 : Int32) ≤ nn x.2.1) = (200 ≤ x.2.1) := nn_le (a := 200) (by decide) (by omega)
    rw [f_X12_goes_b2, if_neg (show ¬ nn c ≤ nn a by rw [nn_le (by omega) (by omega)]; omega), bd_st i36]
    by_cases h : x.2.1 < 200
    rotate_left
    · rw [if_neg (show ¬ (a < c ∧ x.2.1 < 200) from fun z => h z.2), if_pos (show (200 : Int32) ≤ nn x.2.1 by rw [q200]; omega)]
      exact ⟨I, rfl, XF.refl _, HX, W⟩
    rw [if_pos (show a < c ∧ x.2.1 < 200 from ⟨by omega, h⟩), if_neg (show ¬ (200 : Int32) ≤ nn x.2.1 by rw [q200]; omega), bd_st i36, nn_succ, bd_st (w_49_36 S)]
    obtain ⟨I1, hI1⟩ : ∃ I1, I1 = up2 I 49 36 (nn (x.2.1 + 1)) := ⟨_, rfl⟩
    have a1 : XF I I1 := by rw [hI1]; exact (XF.refl I).up (Or.inr (Or.inl rfl))
    have H1 : CM2 F L f n I1 := H.ag a1 h8 hL hn
    have X1 : XM I1 (inX x) := by
      rw [hI1]
      exact ⟨HX.1.ag ((Ag.refl [49] I).up (by decide)) (by decide), by rw [up2_s]; rfl, by rw [up2_k (by decide)]; exact HX.2.2.1, by rw [up2_k (by decide)]; exact HX.2.2.2⟩
    have W1 := in_W W h
    rw [← hI1]
    have HR := H1.2.2 a (by omega)
    have l0 := l_417_0 (I := I1) (J := J) (p := a) S ha80
    rw [HR.1] at l0
    rw [bd_st (r_49_25 S), bd_st (g_416 S ha80), bd_st l0]
    rcases b3 with ⟨k4, ke, kn⟩ | ⟨k4, k6, k30, kw⟩
    · have q4 : (nn (rK (f a)) = (4 : Int32)) = (rK (f a) = 4) := nn_eq (b := 4) (by omega) (by decide)
      rw [if_neg (show ¬ nn (rK (f a)) = (4 : Int32) by rw [q4]; omega), if_neg (show ¬ rK (f a) = 4 by omega)]
      obtain ⟨I2, e2, a2, c2⟩ := m_does (J := J) S WF WL (show a < 30 by omega) kn k4 H1.1 H1.2.1 HR X1.1 W1.1 W1.2.1
      have W2 := ds_W (L := L) W kn k4 h
      have x2 : I2 49 = I1 49 := a2 49 (by decide)
      have j37 := i_49_37 (I := I2) (J := J) S
      rw [x2, X1.2.2.1] at j37
      -- the counts
      obtain ⟨I3, hI3⟩ : ∃ I3, I3 = up2 (up2 I2 49 37 (nn (ctX (dsB F x.1 (f a)) (inX x).2).2.1)) 49 33 (nn (ctX (dsB F x.1 (f a)) (inX x).2).2.2) := ⟨_, rfl⟩
      have a3 : XF I2 I3 := by rw [hI3]; exact ((XF.refl I2).up (Or.inr (Or.inr rfl))).up (Or.inl rfl)
      have A3 : XF I I3 := (a1.trans (XF.of a2 (by decide))).trans a3
      have X3 : XM I3 (dsX F L (f a) (inX x)) := by
        refine ⟨?_, ?_, ?_, ?_⟩
        · rw [hI3]
          exact c2.ag (((Ag.refl [49] I2).up (by decide)).up (by decide)) (by decide)
        · rw [hI3, up2_k (by decide), up2_k (by decide), x2]; exact X1.2.1
        · rw [hI3, up2_k (by decide), up2_s]; rfl
        · rw [hI3, up2_s]; rfl
      have l4 := l_417_4 (I := I3) (J := J) (p := a) S ha80
      rw [A3.1 (417 + a) (by simp; omega), (H.2.2 a (by omega)).2.2.2.2] at l4
      obtain ⟨I4, e4, a4, c4, w4⟩ := ih (rE (f a)) _ I3 N b4 (by omega) (H.ag A3 h8 hL hn) X3 W2
      refine ⟨I4, ?_, A3.trans a4, c4, w4⟩
      rw [← e4, bd_st (r_49_27 S), bd_st (r_49_25 S), bd_st (g_416 S ha80), bd_st ((v_49 S).trans e2), bd_st j37]
      have e1x : (inX x).1 = x.1 := rfl
      rw [e1x]
      have j33 : ∀ v, gI 12 33 49 (st w (up2 I2 49 37 v) J) = some (.inl (nn x.2.2.2), st w (up2 I2 49 37 v) J) := fun v => by
        have := i_49_33 (I := up2 I2 49 37 v) (J := J) S
        rw [up2_k (by decide), x2, X1.2.2.2] at this
        exact this
      cases hb : dsB F x.1 (f a) with
      | true =>
        rw [hb] at hI3
        have hI3 : I3 = up2 (up2 I2 49 37 (nn (x.2.2.1 + 1))) 49 33 (nn x.2.2.2) := hI3
        rw [bI_t rfl, if_neg (by decide), f_X12_goes_b120, show nn (inX x).2.2.1 + 1 = nn (x.2.2.1 + 1) from nn_succ _, bd_st (w_49_37 S), bd_st (j33 _), if_neg (by decide), f_X12_goes_b139, Int32.add_zero, bd_st (w_49_33 S), ← hI3, f_X12_goes_b143, bd_st (r_49_25 S), bd_st (g_416 S ha80), bd_st l4]
      | false =>
        rw [hb] at hI3
        have hI3 : I3 = up2 (up2 I2 49 37 (nn x.2.2.1)) 49 33 (nn (x.2.2.2 + 1)) := hI3
        rw [bI_f (by decide), if_pos rfl, f_X12_goes_b120, Int32.add_zero, show nn (inX x).2.2.1 = nn x.2.2.1 from rfl, bd_st (w_49_37 S), bd_st (j33 _), if_pos rfl, f_X12_goes_b139, nn_succ, bd_st (w_49_33 S), ← hI3, f_X12_goes_b143, bd_st (r_49_25 S), bd_st (g_416 S ha80), bd_st l4]
    · rw [if_pos (show nn (rK (f a)) = (4 : Int32) by rw [k4]; rfl), if_pos k4]
      obtain ⟨I2, e2, a2, c2, W2⟩ := m_rep (J := J) S WF WL hn (hr k6) (show a < c by omega) hc (by omega) k4 k30 kw (f_X12_goes_b2 rec N) (rA (f a)) 0 (inX x) I1 NF (by omega) (NF_gt (by omega)) H1 X1 W1
      obtain ⟨I3, e3, a3, c3, w3⟩ := ih (rE (f a)) _ I2 N b4 (by omega) (H1.ag a2 h8 hL hn) c2 W2
      exact ⟨I3, e2.trans e3, (a1.trans a2).trans a3, c3, w3⟩
end DOMREC
theorem m_goes (S : Sw w) (WF : FoW F) (WL : LwW L) (hn : n ≤ 30) : ∀ D o, o ≤ 6 → 7 ≤ D + o → RgM w J F L f n T (F_X12_goes D) o
  | 0, o, h1, h2 => by omega
  | D + 1, o, ho, hD => by
    intro m a c x I hW hc H HX W
    have := hW.le
    exact m_pfL S WF WL hn (fun h => m_goes S WF WL hn D (o + 1) (by omega) (by omega)) hc m a x I NF hW (NF_gt (by omega)) H HX W
end DOM
