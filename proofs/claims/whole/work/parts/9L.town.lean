/-! PURE PART: a clause of the town's text, and the class reads it -/
def fAdd (G : Fo) (f t p : Nat) : Fo := ((sz G + 1, ak G), (fun i => if i = sz G then f else fa G i), (fun i => if i = sz G then t else te G i), (fun i => if i = sz G then p else pr G i), fun i => if i = sz G then 0 else sy G i)
def fShy (G : Fo) (a c : Nat) : Fo := (G.1, fa G, te G, pr G, fun i => if i = a then sy G a ||| 2 ^ c else sy G i)
def fLik (G : Fo) (m : Nat) : Fo := ((sz G, m), G.2)
def peR (b : Nat → Nat) (n q : Nat) (G : Fo) : Er ⊕ (Nat × Fo) := match nuR b n 64 q with
  | .inl r => .inl r
  | .inr v => match nuR b n 10 v.2 with
    | .inl r => .inl r
    | .inr u => match nuR b n 41 u.2 with
      | .inl r => .inl r
      | .inr x => .inr (x.2, fAdd G v.1 u.1 x.1)
def shR (b : Nat → Nat) (n q : Nat) (G : Fo) : Er ⊕ (Nat × Fo) := match nuR b n (sz G) q with
  | .inl r => .inl r
  | .inr v => match nuR b n (sz G) v.2 with
    | .inl r => .inl r
    | .inr u => .inr (u.2, fShy G v.1 u.1)
def liR (b : Nat → Nat) (n q : Nat) (G : Fo) : Er ⊕ (Nat × Fo) := match nuR b n 7 q with
  | .inl r => .inl r
  | .inr v => .inr (v.2, fLik G v.1)
def boR (b : Nat → Nat) (n y q : Nat) (G : Fo) : Er ⊕ (Nat × Fo) := if y = 0 then peR b n q G else if y = 1 then shR b n q G else liR b n q G
def clR (b : Nat → Nat) (n c p : Nat) (G : Fo) : Er ⊕ (Nat × Fo) := match wdR b n 0 [6, 10, 15] p with
  | .inl r => .inl r
  | .inr v => if 60 ≤ c ∨ v.1 = 0 ∧ 8 ≤ sz G then .inl (3, sk b n p) else match boR b n v.1 v.2 G with
    | .inl r => .inl r
    | .inr u => match sgR b n 59 u.1 with
      | .inl r => .inl r
      | .inr t => .inr (t, u.2)
def DC (I : Is) (G : Fo) : Prop := I 8 4 = nn (sz G) ∧ I 8 5 = nn (ak G) ∧ ∀ p, p < sz G → I 9 p = nn (fa G p) ∧ I 10 p = nn (te G p) ∧ I 11 p = nn (pr G p) ∧ I 12 p = nn (sy G p)
def KD : List Nat := [1, 8, 9, 10, 11, 12]
/-- what the class's reader of a piece does -/
def CRd (w : Wd) (J : Js) (I : Is) (b : Nat → Nat) (n : Nat) (z : Option ((Int32 ⊕ (Nat × Nat)) × PS)) : Er ⊕ (Nat × Fo) → Prop
  | .inl r => ∃ I1, z = some (.inl 0, st w I1 J) ∧ Ag KD I I1 ∧ CF r I1
  | .inr u => ∃ I1, z = some (.inl 1, st w I1 J) ∧ Ag KD I I1 ∧ CT b n u.1 I1 ∧ DC I1 u.2 ∧ FoW u.2
section TOWN
variable {w : Wd} {I : Is} {J : Js} {b : Nat → Nat} {n p : Nat} {G : Fo}
theorem DC.ag {I' : Is} {K : List Nat} (H : DC I G) (h : Ag K I I') (hk : ∀ a ∈ [8, 9, 10, 11, 12], a ∉ K) : DC I' G := by
  unfold DC at *
  rw [h 8 (hk 8 (by decide)), h 9 (hk 9 (by decide)), h 10 (hk 10 (by decide)), h 11 (hk 11 (by decide)), h 12 (hk 12 (by decide))]
  exact H
theorem or_s : ∀ x, x < 256 → ∀ c, c < 8 → nn x ||| ((1 : Int32) <<< (nn c &&& 31)) = nn (x ||| 2 ^ c) ∧ x ||| 2 ^ c < 256 := by decide +kernel
theorem c_likR (S : Sw w) (W : TxW b n) (WG : FoW G) (C : CT b n p I) (D : DC I G) : CRd w J I b n (f_X2_readLike 8 1 (st w I J)) (liR b n p G) := by
  have six : (6 : Int32) = nn 7 - 1 := by decide
  unfold liR
  cases h : nuR b n 7 p with
  | inl r =>
    obtain ⟨I1, e1, a1, c1⟩ := c_nuI (J := J) S W C (by decide) h
    refine ⟨I1, ?_, a1.mono (by decide), c1⟩
    rw [f_X2_readLike, six, bd_st ((v_1 S).trans e1), if_pos rfl]
    rfl
  | inr v =>
    obtain ⟨I1, e1, a1, c1, b1⟩ := c_nuO (J := J) S W C (by decide) h
    refine ⟨up2 I1 8 5 (nn v.1), ?_, (a1.mono (by decide)).up (by decide), c1.ag ((Ag.refl [8] I1).up (by decide)) (by decide) (by decide), ?_, WG.1, (by omega : v.1 ≤ 6), WG.2.2⟩
    · rw [f_X2_readLike, six, bd_st ((v_1 S).trans e1), if_neg (nn_ne_neg (by omega)), bd_st (w_8_5 S)]
      rfl
    · have D1 := D.ag a1 (by decide)
      refine ⟨by rw [up2_k (by decide)]; exact D1.1, up2_s, fun i hi => ?_⟩
      rw [up2_a (by decide), up2_a (by decide), up2_a (by decide), up2_a (by decide)]
      exact D1.2.2 i hi
theorem c_shyR (S : Sw w) (W : TxW b n) (WG : FoW G) (C : CT b n p I) (D : DC I G) : CRd w J I b n (f_X2_readShy 8 1 (st w I J)) (shR b n p G) := by
  have z8 := WG.1
  have i4 := i_8_4 (I := I) (J := J) S
  rw [D.1] at i4
  unfold shR
  cases h : nuR b n (sz G) p with
  | inl r =>
    obtain ⟨I1, e1, a1, c1⟩ := c_nuI (J := J) S W C (by omega) h
    refine ⟨I1, ?_, a1.mono (by decide), c1⟩
    rw [f_X2_readShy, bd_st i4, bd_st ((v_1 S).trans e1), if_pos rfl, f_X2_readShy_b30, if_pos rfl]
    rfl
  | inr v =>
    obtain ⟨I1, e1, a1, c1, b1⟩ := c_nuO (J := J) S W C (by omega) h
    have D1 := D.ag a1 (by decide)
    have j4 := i_8_4 (I := I1) (J := J) S
    rw [D1.1] at j4
    show CRd w J I b n _ (match nuR b n (sz G) v.2 with
      | .inl r => .inl r
      | .inr u => .inr (u.2, fShy G v.1 u.1))
    cases h2 : nuR b n (sz G) v.2 with
    | inl r =>
      obtain ⟨I2, e2, a2, c2⟩ := c_nuI (J := J) S W c1 (by omega) h2
      refine ⟨I2, ?_, (a1.trans a2).mono (by decide), c2⟩
      rw [f_X2_readShy, bd_st i4, bd_st ((v_1 S).trans e1), if_neg (nn_ne_neg (by omega)), bd_st j4, bd_st ((v_1 S).trans e2), f_X2_readShy_b30, if_pos rfl]
      rfl
    | inr u =>
      obtain ⟨I2, e2, a2, c2, b2⟩ := c_nuO (J := J) S W c1 (by omega) h2
      have D2 := D1.ag a2 (by decide)
      have l := l_12 (I := I2) (J := J) (k := v.1) S (by omega)
      rw [(D2.2.2 v.1 b1).2.2.2] at l
      obtain ⟨o1, o2⟩ := or_s (sy G v.1) (WG.2.2 v.1 b1).2.2.2 u.1 (by omega)
      refine ⟨up2 I2 12 v.1 (nn (sy G v.1 ||| 2 ^ u.1)), ?_, ((a1.trans a2).mono (by decide)).up (by decide), c2.ag ((Ag.refl [12] I2).up (by decide)) (by decide) (by decide), ⟨?_, ?_, fun i hi => ⟨?_, ?_, ?_, ?_⟩⟩, WG.1, WG.2.1, fun i hi => ⟨(WG.2.2 i hi).1, (WG.2.2 i hi).2.1, (WG.2.2 i hi).2.2.1, ?_⟩⟩
      · rw [f_X2_readShy, bd_st i4, bd_st ((v_1 S).trans e1), if_neg (nn_ne_neg (by omega)), bd_st j4, bd_st ((v_1 S).trans e2), f_X2_readShy_b30, if_neg (nn_ne_neg (by omega)), bd_st (r_8_3 S), bd_st l, o1, bd_st (s_12 S (by omega))]
        rfl
      · rw [up2_a (by decide)]; exact D2.1
      · rw [up2_a (by decide)]; exact D2.2.1
      · rw [up2_a (by decide)]; exact (D2.2.2 i hi).1
      · rw [up2_a (by decide)]; exact (D2.2.2 i hi).2.1
      · rw [up2_a (by decide)]; exact (D2.2.2 i hi).2.2.1
      · show _ = nn (if i = v.1 then sy G v.1 ||| 2 ^ u.1 else sy G i)
        by_cases e : i = v.1
        · rw [if_pos e, e, up2_s]
        · rw [if_neg e, up2_k e]; exact (D2.2.2 i hi).2.2.2
      · show (if i = v.1 then sy G v.1 ||| 2 ^ u.1 else sy G i) < 256
        split
        · exact o2
        · exact (WG.2.2 i hi).2.2.2

theorem c_perR (S : Sw w) (W : TxW b n) (WG : FoW G) (h8 : sz G < 8) (C : CT b n p I) (D : DC I G) : CRd w J I b n (f_X2_readPerson 8 1 (st w I J)) (peR b n p G) := by
  have q63 : (63 : Int32) = nn 64 - 1 := by decide
  have q9 : (9 : Int32) = nn 10 - 1 := by decide
  have q40 : (40 : Int32) = nn 41 - 1 := by decide
  unfold peR
  cases h : nuR b n 64 p with
  | inl r =>
    obtain ⟨I1, e1, a1, c1⟩ := c_nuI (J := J) S W C (by decide) h
    rw [← q63] at e1
    refine ⟨I1, ?_, a1.mono (by decide), c1⟩
    rw [f_X2_readPerson, bd_st ((v_1 S).trans e1), if_pos rfl, f_X2_readPerson_b22, if_pos rfl, f_X2_readPerson_b38, if_pos rfl]
    rfl
  | inr v =>
    obtain ⟨I1, e1, a1, c1, b1⟩ := c_nuO (J := J) S W C (by decide) h
    rw [← q63] at e1
    have D1 := D.ag a1 (by decide)
    show CRd w J I b n _ (match nuR b n 10 v.2 with
      | .inl r => .inl r
      | .inr u => match nuR b n 41 u.2 with
        | .inl r => .inl r
        | .inr x => .inr (x.2, fAdd G v.1 u.1 x.1))
    cases h2 : nuR b n 10 v.2 with
    | inl r =>
      obtain ⟨I2, e2, a2, c2⟩ := c_nuI (J := J) S W c1 (by decide) h2
      rw [← q9] at e2
      refine ⟨I2, ?_, (a1.trans a2).mono (by decide), c2⟩
      rw [f_X2_readPerson, bd_st ((v_1 S).trans e1), if_neg (nn_ne_neg (by omega)), bd_st ((v_1 S).trans e2), f_X2_readPerson_b22, if_pos rfl, f_X2_readPerson_b38, if_pos rfl]
      rfl
    | inr u =>
      obtain ⟨I2, e2, a2, c2, b2⟩ := c_nuO (J := J) S W c1 (by decide) h2
      rw [← q9] at e2
      have D2 := D1.ag a2 (by decide)
      show CRd w J I b n _ (match nuR b n 41 u.2 with
        | .inl r => .inl r
        | .inr x => .inr (x.2, fAdd G v.1 u.1 x.1))
      cases h3 : nuR b n 41 u.2 with
      | inl r =>
        obtain ⟨I3, e3, a3, c3⟩ := c_nuI (J := J) S W c2 (by decide) h3
        rw [← q40] at e3
        refine ⟨I3, ?_, ((a1.trans a2).trans a3).mono (by decide), c3⟩
        rw [f_X2_readPerson, bd_st ((v_1 S).trans e1), if_neg (nn_ne_neg (by omega)), bd_st ((v_1 S).trans e2), f_X2_readPerson_b22, if_neg (nn_ne_neg (by omega)), bd_st ((v_1 S).trans e3), f_X2_readPerson_b38, if_pos rfl]
        rfl
      | inr x =>
        obtain ⟨I3, e3, a3, c3, b3⟩ := c_nuO (J := J) S W c2 (by decide) h3
        rw [← q40] at e3
        have D3 := D2.ag a3 (by decide)
        obtain ⟨I4, hI4⟩ : ∃ I4, I4 = up2 (up2 (up2 (up2 I3 9 (sz G) (nn v.1)) 10 (sz G) (nn u.1)) 11 (sz G) (nn x.1)) 12 (sz G) 0 := ⟨_, rfl⟩
        have i4 : ∀ {I' : Is}, I' 8 4 = nn (sz G) → gI 2 4 8 (st w I' J) = some (.inl (nn (sz G)), st w I' J) := fun {I'} hh => by
          have := i_8_4 (I := I') (J := J) S
          rw [hh] at this
          exact this
        have k4 : I4 8 4 = nn (sz G) := by rw [hI4]; simp (disch := decide) only [up2_a]; exact D3.1
        refine ⟨up2 I4 8 4 (nn (sz G + 1)), ?_, ?_, ?_, ⟨?_, ?_, fun i hi => ⟨?_, ?_, ?_, ?_⟩⟩, ⟨h8, WG.2.1, fun i hi => ⟨?_, ?_, ?_, ?_⟩⟩⟩
        · rw [f_X2_readPerson, bd_st ((v_1 S).trans e1), if_neg (nn_ne_neg (by omega)), bd_st ((v_1 S).trans e2), f_X2_readPerson_b22, if_neg (nn_ne_neg (by omega)), bd_st ((v_1 S).trans e3), f_X2_readPerson_b38, if_neg (nn_ne_neg (by omega)), bd_st (i4 D3.1), if_pos (by rw [show (8 : Int32) = nn 8 from rfl, nn_lt (by omega) (by omega)]; exact h8), bd_st (r_8_0 S), bd_st (i4 D3.1), bd_st (s_9 S h8), bd_st (r_8_1 S), bd_st (i4 (by simp (disch := decide) only [up2_a]; exact D3.1)), bd_st (s_10 S h8), bd_st (r_8_2 S), bd_st (i4 (by simp (disch := decide) only [up2_a]; exact D3.1)), bd_st (s_11 S h8), bd_st (r_8_3 S), bd_st (i4 (by simp (disch := decide) only [up2_a]; exact D3.1)), bd_st (s_12 S h8), ← hI4, bd_st (i4 k4), nn_succ, bd_st (w_8_4 S)]
          rfl
        · rw [hI4]
          exact ((((((a1.trans a2).trans a3).mono (by decide)).up (by decide)).up (by decide)).up (by decide)).up (by decide) |>.up (by decide)
        · rw [hI4]
          exact c3.ag ((((((Ag.refl [8, 9, 10, 11, 12] I3).up (by decide)).up (by decide)).up (by decide)).up (by decide)).up (by decide)) (by decide) (by decide)
        · exact up2_s
        · rw [up2_k (by decide), hI4]; simp (disch := decide) only [up2_a]; exact D3.2.1
        · show _ = nn (if i = sz G then v.1 else fa G i)
          have hi : i < sz G + 1 := hi
          rw [up2_a (by decide), hI4, up2_a (by decide), up2_a (by decide), up2_a (by decide)]
          by_cases e : i = sz G
          · rw [if_pos e, e, up2_s]
          · rw [if_neg e, up2_k e]; exact (D3.2.2 i (by omega)).1
        · show _ = nn (if i = sz G then u.1 else te G i)
          have hi : i < sz G + 1 := hi
          rw [up2_a (by decide), hI4, up2_a (by decide), up2_a (by decide)]
          by_cases e : i = sz G
          · rw [if_pos e, e, up2_s]
          · rw [if_neg e, up2_k e, up2_a (by decide)]; exact (D3.2.2 i (by omega)).2.1
        · show _ = nn (if i = sz G then x.1 else pr G i)
          have hi : i < sz G + 1 := hi
          rw [up2_a (by decide), hI4, up2_a (by decide)]
          by_cases e : i = sz G
          · rw [if_pos e, e, up2_s]
          · rw [if_neg e, up2_k e, up2_a (by decide), up2_a (by decide)]; exact (D3.2.2 i (by omega)).2.2.1
        · show _ = nn (if i = sz G then 0 else sy G i)
          have hi : i < sz G + 1 := hi
          rw [up2_a (by decide), hI4]
          by_cases e : i = sz G
          · rw [if_pos e, e, up2_s]; rfl
          · rw [if_neg e, up2_k e, up2_a (by decide), up2_a (by decide), up2_a (by decide)]; exact (D3.2.2 i (by omega)).2.2.2
        · have hi : i < sz G + 1 := hi
          show (if i = sz G then v.1 else fa G i) < 64
          split
          · exact b1
          · exact (WG.2.2 i (by omega)).1
        · have hi : i < sz G + 1 := hi
          show (if i = sz G then u.1 else te G i) ≤ 9
          split
          · omega
          · exact (WG.2.2 i (by omega)).2.1
        · have hi : i < sz G + 1 := hi
          show (if i = sz G then x.1 else pr G i) ≤ 40
          split
          · omega
          · exact (WG.2.2 i (by omega)).2.2.1
        · have hi : i < sz G + 1 := hi
          show (if i = sz G then 0 else sy G i) < 256
          split
          · decide
          · exact (WG.2.2 i (by omega)).2.2.2
end TOWN
