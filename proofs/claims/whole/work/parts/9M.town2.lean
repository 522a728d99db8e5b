/-! PURE PART: the class reads the town -/
theorem wIx_b {k : Nat} {b : Nat → Nat} {s e y : Nat} : ∀ (l : List Nat) (x f : Nat), wIx k b s e x f l = some y → x ≤ y ∧ y < x + l.length
  | [], x, f, h => by unfold wIx at h; cases h
  | t :: l, x, f, h => by
    unfold wIx at h
    have hl : (t :: l).length = l.length + 1 := rfl
    by_cases q : samP k b s e f t
    · rw [if_pos q] at h
      cases h
      omega
    · rw [if_neg q] at h
      have := wIx_b l (x + 1) (t + 1) h
      omega
theorem wdR_b {b : Nat → Nat} {n k p : Nat} {l : List Nat} {v : Nat × Nat} (h : wdR b n k l p = .inr v) : v.1 < l.length := by
  unfold wdR at h
  cases q : wIx k b (sk b n p) (wE b n (sk b n p)) 0 0 l with
  | none => rw [q] at h; cases h
  | some y =>
    rw [q] at h
    cases h
    have := wIx_b l 0 0 q
    show y < _
    omega
/-- the whole text of a town -/
def twR (b : Nat → Nat) (n : Nat) : Nat → Nat → Nat → Fo → Er ⊕ Fo
  | 0, _, _, G => .inr G
  | d + 1, c, p, G => if sk b n p < n then (match clR b n c p G with
      | .inl e => .inl e
      | .inr u => twR b n d (c + 1) u.1 u.2) else .inr G
def CRw (w : Wd) (J : Js) (I : Is) (z : Option ((Int32 ⊕ (Nat × Nat)) × PS)) : Er ⊕ Fo → Prop
  | .inl r => ∃ I1, z = some (.inl 0, st w I1 J) ∧ Ag KD I I1 ∧ CF r I1
  | .inr G => ∃ I1, z = some (.inl 1, st w I1 J) ∧ Ag KD I I1 ∧ I1 1 1 = 0 ∧ I1 1 6 = -1 ∧ DC I1 G ∧ FoW G
section TOWN2
variable {w : Wd} {I : Is} {J : Js} {b : Nat → Nat} {n p : Nat} {G : Fo}
theorem c_bodR (S : Sw w) (W : TxW b n) (WG : FoW G) {y : Nat} (hy : y < 3) (h8 : ¬ (y = 0 ∧ 8 ≤ sz G)) (C : CT b n p I) (D : DC I G) : ∃ v z, f_X2_readClause_b43 8 1 (nn y) (st w I J) = f_X2_readClause_b73 1 v z ∧ CRd w J I b n (some (.inl v, z)) (boR b n y p G) := by
  have key : ∀ {m : Mo Int32} {R : Er ⊕ (Nat × Fo)}, CRd w J I b n (m (st w I J)) R → ∃ v z, m (st w I J) = some (.inl v, z) ∧ CRd w J I b n (some (.inl v, z)) R := fun {m R} h => by
    rcases R with r | u
    · obtain ⟨I1, e, h⟩ := h
      exact ⟨_, _, e, I1, rfl, h⟩
    · obtain ⟨I1, e, h⟩ := h
      exact ⟨_, _, e, I1, rfl, h⟩
  unfold boR
  rcases (show y = 0 ∨ y = 1 ∨ y = 2 by omega) with h | h | h <;> subst h
  · obtain ⟨v, z, e, R⟩ := key (c_perR (J := J) S W WG (by omega) C D)
    refine ⟨v, z, ?_, R⟩
    rw [f_X2_readClause_b43, if_pos (by decide), bd_st ((b_cv (kd := 2) S (by decide)).trans e)]
  · obtain ⟨v, z, e, R⟩ := key (c_shyR (J := J) S W WG C D)
    refine ⟨v, z, ?_, R⟩
    rw [f_X2_readClause_b43, if_neg (by decide), if_pos (by decide), bd_st ((b_cv (kd := 2) S (by decide)).trans e)]
  · obtain ⟨v, z, e, R⟩ := key (c_likR (J := J) S W WG C D)
    refine ⟨v, z, ?_, R⟩
    rw [f_X2_readClause_b43, if_neg (by decide), if_neg (by decide), bd_st ((b_cv (kd := 2) S (by decide)).trans e)]
theorem c_clauR (S : Sw w) (W : TxW b n) (WG : FoW G) {c : Nat} (hc : c ≤ 60) (C : CT b n p I) (D : DC I G) : CRd w J I b n (f_X2_readClause 8 1 (nn c) (st w I J)) (clR b n c p G) := by
  have z8 := WG.1
  unfold clR
  cases h : wdR b n 0 [6, 10, 15] p with
  | inl r =>
    obtain ⟨I1, e1, a1, c1⟩ := c_wdI (J := J) S W C (by decide) sg_0 h
    refine ⟨I1, ?_, a1.mono (by decide), c1⟩
    rw [f_X2_readClause, bd_st ((v_1 S).trans e1), if_pos rfl]
    rfl
  | inr v =>
    obtain ⟨I1, e1, a1, c1, s1⟩ := c_wdO (J := J) S W C (by decide) sg_0 h
    have hv : v.1 < 3 := wdR_b h
    have D1 := D.ag a1 (by decide)
    have j4 := i_8_4 (I := I1) (J := J) S
    rw [D1.1] at j4
    have i4 := i_1_4 (I := I1) (J := J) S
    rw [s1] at i4
    have e0 : f_X2_readClause 8 1 (nn c) (st w I J) = (if (60 ≤ nn c : Prop) then (f_X2_readClause_b33 1) else if (nn v.1 = 0 : Prop) then (bd (gI 2 4 8) fun v8 => if (v8 < 8 : Prop) then (f_X2_readClause_b43 8 1 (nn v.1)) else f_X2_readClause_b33 1) else f_X2_readClause_b43 8 1 (nn v.1)) (st w I1 J) := by
      rw [f_X2_readClause, bd_st ((v_1 S).trans e1), if_neg (nn_ne_neg (by omega))]
    have q60 : ((60 : Int32) ≤ nn c) = (60 ≤ c) := nn_le (a := 60) (by omega) (by omega)
    have q0 : (nn v.1 = 0) = (v.1 = 0) := nn_eq (b := 0) (by omega) (by omega)
    have q8 : (nn (sz G) < (8 : Int32)) = (sz G < 8) := nn_lt (b := 8) (by omega) (by omega)
    show CRd w J I b n _ (if 60 ≤ c ∨ v.1 = 0 ∧ 8 ≤ sz G then .inl (3, sk b n p) else match boR b n v.1 v.2 G with
      | .inl r => .inl r
      | .inr u => match sgR b n 59 u.1 with
        | .inl r => .inl r
        | .inr t => .inr (t, u.2))
    by_cases hx : 60 ≤ c ∨ v.1 = 0 ∧ 8 ≤ sz G
    · rw [if_pos hx]
      obtain ⟨I2, e2, a2, c2⟩ := c_failR (I := I1) (J := J) S c1.2.1 3 (sk b n p)
      refine ⟨I2, ?_, (a1.trans a2).mono (by decide), c2⟩
      have fin : f_X2_readClause_b33 1 (st w I1 J) = some (.inl 0, st w I2 J) := by
        rw [f_X2_readClause_b33, bd_st i4, bd_st ((v_1 S).trans e2)]
        exact rz0
      rw [e0]
      by_cases h6 : 60 ≤ c
      · rw [if_pos (by rw [q60]; exact h6)]
        exact fin
      · have hx := hx.resolve_left h6
        rw [if_neg (by rw [q60]; exact h6), if_pos (by rw [q0]; exact hx.1), bd_st j4, if_neg (by rw [q8]; omega)]
        exact fin
    · rw [if_neg hx]
      have h43 : f_X2_readClause 8 1 (nn c) (st w I J) = f_X2_readClause_b43 8 1 (nn v.1) (st w I1 J) := by
        rw [e0, if_neg (by rw [q60]; omega)]
        by_cases hv0 : v.1 = 0
        · rw [if_pos (by rw [q0]; exact hv0), bd_st j4, if_pos (by rw [q8]; omega)]
        · rw [if_neg (by rw [q0]; exact hv0)]
      obtain ⟨x, z, e2, R⟩ := c_bodR (J := J) S W WG hv (fun q => hx (Or.inr q)) c1 D1
      rw [h43, e2]
      cases h2 : boR b n v.1 v.2 G with
      | inl r =>
        rw [h2] at R
        obtain ⟨I2, e3, a2, c2⟩ := R
        cases e3
        refine ⟨I2, ?_, (a1.mono (by decide)).trans a2, c2⟩
        rw [f_X2_readClause_b73, if_pos rfl]
        rfl
      | inr u =>
        rw [h2] at R
        obtain ⟨I2, e3, a2, c2, D2, W2⟩ := R
        cases e3
        show CRd w J I b n _ (match sgR b n 59 u.1 with
          | .inl r => .inl r
          | .inr t => .inr (t, u.2))
        cases h3 : sgR b n 59 u.1 with
        | inl r =>
          obtain ⟨I3, e3, a3, c3⟩ := c_sgI (J := J) S W c2 (by decide) h3
          have e3 : f_X8_need 1 59 _ = _ := e3
          refine ⟨I3, ?_, ((a1.mono (by decide)).trans a2).trans (a3.mono (by decide)), c3⟩
          rw [f_X2_readClause_b73, if_neg (by decide), bd_st ((v_1 S).trans e3), if_pos rfl]
          rfl
        | inr t =>
          obtain ⟨I3, e3, a3, c3⟩ := c_sgO (J := J) S W c2 (by decide) h3
          have e3 : f_X8_need 1 59 _ = _ := e3
          refine ⟨I3, ?_, ((a1.mono (by decide)).trans a2).trans (a3.mono (by decide)), c3, D2.ag a3 (by decide), W2⟩
          rw [f_X2_readClause_b73, if_neg (by decide), bd_st ((v_1 S).trans e3), if_neg (by decide)]
          rfl
theorem c_townR (S : Sw w) (W : TxW b n) : ∀ d c p G I N, c + d = 61 → CT b n p I → DC I G → FoW G → d < N → CRw w J I (f_X2_read_b12 N 8 1 (nn c) (st w I J)) (twR b n d c p G) := by
  intro d
  induction d with
  | zero =>
    intro c p G I N hc C D WG hN
    obtain ⟨N, rfl⟩ : ∃ M, N = M + 1 := ⟨N - 1, by omega⟩
    have hc : c = 61 := by omega
    subst hc
    refine ⟨I, ?_, Ag.refl _ _, C.2.1, C.2.2.1, D, WG⟩
    rw [f_X2_read_b12, if_pos (by decide)]
    rfl
  | succ d ih =>
    intro c p G I N hc C D WG hN
    obtain ⟨N, rfl⟩ : ∃ M, N = M + 1 := ⟨N - 1, by omega⟩
    have q : ¬ (60 : Int32) < nn c := by rw [show (60 : Int32) = nn 60 from rfl, nn_lt (by omega) (by omega)]; omega
    have e0 := (v_1 S (F := f_X8_atEnd 1)).trans (c_atEnd (J := J) S W C.2.2.2.2 C.1 C.2.2.2.1)
    have g := sk_ge (b := b) C.2.2.2.2
    have i := sk_id (b := b) C.2.2.2.2
    unfold twR
    by_cases h : sk b n p < n
    rotate_left
    · rw [if_neg h]
      rw [bI_t h] at e0
      refine ⟨up2 I 1 3 (nn (sk b n p)), ?_, (Ag.refl _ _).up (by decide), ?_, ?_, D.ag ((Ag.refl [1] I).up (by decide)) (by decide), WG⟩
      · rw [f_X2_read_b12, if_neg q, bd_st e0, if_neg (by decide)]
        rfl
      · rw [up2_k (by decide)]; exact C.2.1
      · rw [up2_k (by decide)]; exact C.2.2.1
    rw [if_pos h]
    rw [bI_f (fun x => x h)] at e0
    have C2 : CT b n (sk b n p) (up2 I 1 3 (nn (sk b n p))) := ⟨C.1.up ⟨by decide, Or.inr (by decide)⟩, by rw [up2_k (by decide)]; exact C.2.1, by rw [up2_k (by decide)]; exact C.2.2.1, up2_s, g.2⟩
    have D2 := D.ag ((Ag.refl [1] I).up (a := 1) (k := 3) (v := nn (sk b n p)) (by decide)) (by decide)
    have R := c_clauR (J := J) S W WG (show c ≤ 60 by omega) C2 D2
    have ec : clR b n c (sk b n p) G = clR b n c p G := by
      unfold clR wdR
      rw [i]
    rw [ec] at R
    have a0 : Ag KD I (up2 I 1 3 (nn (sk b n p))) := (Ag.refl _ _).up (by decide)
    cases h2 : clR b n c p G with
    | inl r =>
      rw [h2] at R
      obtain ⟨I1, e1, a1, c1⟩ := R
      refine ⟨I1, ?_, a0.trans a1, c1⟩
      rw [f_X2_read_b12, if_neg q, bd_st e0, if_pos rfl, bd_st ((b_cv (kd := 2) S (by decide)).trans e1), if_pos rfl]
      rfl
    | inr u =>
      rw [h2] at R
      obtain ⟨I1, e1, a1, c1, d1, w1⟩ := R
      have e2 : f_X2_read_b12 (N + 1) 8 1 (nn c) (st w I J) = f_X2_read_b12 N 8 1 (nn (c + 1)) (st w I1 J) := by
        rw [f_X2_read_b12, if_neg q, bd_st e0, if_pos rfl, bd_st ((b_cv (kd := 2) S (by decide)).trans e1), if_neg (by decide), nn_succ]
      rw [e2]
      have R2 := ih (c + 1) u.1 u.2 I1 N (by omega) c1 d1 w1 (by omega)
      show CRw w J I _ (twR b n d (c + 1) u.1 u.2)
      cases h3 : twR b n d (c + 1) u.1 u.2 with
      | inl r =>
        rw [h3] at R2
        obtain ⟨I2, e3, a2, k2⟩ := R2
        exact ⟨I2, e3, (a0.trans a1).trans a2, k2⟩
      | inr G' =>
        rw [h3] at R2
        obtain ⟨I2, e3, a2, k2⟩ := R2
        exact ⟨I2, e3, (a0.trans a1).trans a2, k2⟩
end TOWN2
