/-! PURE PART: the class seeks plates -/
theorem bit_and (x y : Int32) {b : Nat} (hb : b < 32) : bit (x &&& y) b ↔ bit x b ∧ bit y b := by
  rw [bit_get hb, bit_get hb, bit_get hb, Int32.toBitVec_and, BitVec.getLsbD_and, Bool.and_eq_true]
theorem bit_not (x : Int32) {b : Nat} (hb : b < 32) : bit (x ^^^ (-1)) b ↔ ¬ bit x b := by
  rw [bit_get hb, bit_get hb, Int32.toBitVec_xor, show (-1 : Int32).toBitVec = BitVec.allOnes 32 from rfl, BitVec.getLsbD_xor, BitVec.getLsbD_allOnes]
  have : decide (b < 32) = true := by simpa using hb
  rw [this]
  cases x.toBitVec.getLsbD b <;> simp
theorem and_b0 {x : Int32} {i : Nat} (hi : i < 8) : (x &&& ((1 : Int32) <<< (nn i &&& 31)) = 0) ↔ ¬ bit x i := by
  constructor
  · intro h hb
    have : bit (x &&& ((1 : Int32) <<< (nn i &&& 31))) i := (bit_and _ _ (by omega)).2 ⟨hb, (bit_1 i hi i hi).2 rfl⟩
    rw [h] at this
    exact bit_0 i hi this
  · intro h
    rw [bit_get (by omega)] at h
    refine Int32.toBitVec_inj.1 ?_
    rw [Int32.toBitVec_and, shl1 i hi]
    refine BitVec.eq_of_getLsbD_eq fun j hj => ?_
    rw [BitVec.getLsbD_and, BitVec.getLsbD_shiftLeft]
    show _ = (0#32).getLsbD j
    rw [BitVec.getLsbD_zero]
    by_cases e : j = i
    · subst e
      have h : x.toBitVec.getLsbD j = false := by simpa using h
      rw [h, Bool.false_and]
    · have : (1#32).getLsbD (j - i) = (decide (j - i = 0)) := by
        rw [BitVec.getLsbD_one]
        simp
      rw [this]
      by_cases q : j < i
      · simp [q]
      · have : ¬ j - i = 0 := by omega
        simp [this]
def Bs (x : Int32) (Fr : Nat → Bool) : Prop := ∀ i, i < 8 → (bit x i ↔ Fr i = true)
def ohI : Option Nat → Int32
  | none => -1
  | some q => nn q
theorem Bs.rm {x : Int32} {Fr : Nat → Bool} (H : Bs x Fr) {i : Nat} (hi : i < 8) : Bs (x &&& (((1 : Int32) <<< (nn i &&& 31)) ^^^ (-1))) (rmF Fr i) := fun j hj => by
  rw [bit_and _ _ (by omega), bit_not _ (by omega), bit_1 i hi j hj, H j hj, rmF_t]
def adT (Td : Nat → Bool) (i : Nat) : Nat → Bool := fun j => Td j || decide (i = j)
theorem Bs.ad {x : Int32} {Td : Nat → Bool} (H : Bs x Td) {i : Nat} (hi : i < 8) : Bs (x ||| ((1 : Int32) <<< (nn i &&& 31))) (adT Td i) := fun j hj => by
  rw [bit_or _ _ (by omega), bit_1 i hi j hj, H j hj]
  unfold adT
  simp
theorem Bs.nt {x : Int32} {Fr : Nat → Bool} (H : Bs x Fr) : Bs (x ^^^ (-1)) (fun i => !Fr i) := fun j hj => by
  rw [bit_not _ (by omega), H j hj]
  simp
def FS (ma : Nat → Nat → Bool) (s : Nat) (h : Mp) (Td : Nat → Bool) (I : Is) : Prop := (∀ i, i < 8 → I 36 i = ohI (h i)) ∧ Bs (I 33 5) Td ∧ ∀ p, p < s → Bs (I 35 p) (ma p)
def FrF (I I' : Is) : Prop := Ag [33, 36] I I' ∧ ∀ j, j ≠ 5 → I' 33 j = I 33 j
theorem FrF.refl (I : Is) : FrF I I := ⟨Ag.refl _ _, fun _ _ => rfl⟩
theorem FrF.trans {I I' I'' : Is} (h : FrF I I') (h' : FrF I' I'') : FrF I I'' := ⟨h.1.trans h'.1, fun j hj => (h'.2 j hj).trans (h.2 j hj)⟩
theorem FrF.u5 {I I' : Is} {v : Int32} (h : FrF I I') : FrF I (up2 I' 33 5 v) := ⟨h.1.up (by decide), fun j hj => by rw [up2_k hj]; exact h.2 j hj⟩
theorem FrF.u36 {I I' : Is} {k : Nat} {v : Int32} (h : FrF I I') : FrF I (up2 I' 36 k v) := ⟨h.1.up (by decide), fun j hj => by rw [up2_a (by decide)]; exact h.2 j hj⟩
section FINDP
variable {w : Wd} {I : Is} {J : Js} {ma : Nat → Nat → Bool} {s : Nat}
theorem adT_t {Td : Nat → Bool} {i j : Nat} : adT Td i j = true ↔ Td j = true ∨ i = j := by
  unfold adT
  simp
theorem adT_c {Td : Nat → Bool} {i : Nat} (hi : i < 8) (h : Td i = false) : c8 (fun j => !Td j) = c8 (fun j => !adT Td i j) + 1 := by
  refine c8_set hi ?_ ?_ fun j hj hne => ?_
  · show (!adT Td i i) = false
    unfold adT
    simp
  · show (!Td i) = true
    rw [h]
    rfl
  · show (!Td j) = !adT Td i j
    unfold adT
    have : decide (i = j) = false := by simp; omega
    rw [this]
    simp
def RfC (w : Wd) (J : Js) (ma : Nat → Nat → Bool) (s D : Nat) (rec : Nat → Int32 → Int32 → Mo Int32) : Prop := ∀ p dep h Td I, p < s → dep + c8 (fun i => !Td i) ≤ 8 → c8 (fun i => !Td i) < D → iH h → (∀ i, i < 8 → ∀ q, h i = some q → q < s) → (∀ i, i < 8 → h i = some p → Td i = true) → FS ma s h Td I → (∃ I1 h' Td', rec 33 (nn p) (nn dep) (st w I J) = some (.inl 1, st w I1 J) ∧ FrF I I1 ∧ FS ma s h' Td' I1 ∧ TQ ma h Td p h') ∨ (∃ I1 Td', rec 33 (nn p) (nn dep) (st w I J) = some (.inl 0, st w I1 J) ∧ FrF I I1 ∧ FS ma s h Td' I1 ∧ FQ ma h Td p Td')
theorem FS.set {h : Mp} {Td : Nat → Bool} {i p : Nat} (H : FS ma s h Td I) : FS ma s (stH h i p) Td (up2 I 36 i (nn p)) := by
  refine ⟨fun j hj => ?_, by rw [up2_a (by decide)]; exact H.2.1, fun q hq => by rw [up2_a (by decide)]; exact H.2.2 q hq⟩
  show _ = ohI (if j = i then some p else h j)
  by_cases e : j = i
  · rw [e, up2_s, if_pos rfl]
    rfl
  · rw [up2_k e, if_neg e]
    exact H.1 j hj
theorem c_findL (S : Sw w) (hs : s ≤ 8) {D : Nat} {rec : Nat → Int32 → Int32 → Mo Int32} (hr : RfC w J ma s D rec) {p dep : Nat} {h : Mp} {Td0 : Nat → Bool} (hp : p < s) (hd : dep + c8 (fun i => !Td0 i) ≤ 8) (hD : c8 (fun i => !Td0 i) < D + 1) (hI : iH h) (hq : ∀ i, i < 8 → ∀ q, h i = some q → q < s) (hP : ∀ i, i < 8 → h i = some p → Td0 i = true) : ∀ d i Td I N, i + d = 8 → d < N → (∀ j, j < 8 → Td0 j = true → Td j = true) → (∀ j, j < i → ma p j = true → Td j = true) → (∀ t, t < 8 → Td t = true → Td0 t = false → ∃ q, h t = some q ∧ ∀ i, i < 8 → ma q i = true → Td i = true) → FS ma s h Td I → (∃ I1 h' Td', f_X0_findPlate_b2 rec N 33 (nn p) (nn dep) (nn i) (st w I J) = some (.inl 1, st w I1 J) ∧ FrF I I1 ∧ FS ma s h' Td' I1 ∧ TQ ma h Td0 p h') ∨ (∃ I1 Td', f_X0_findPlate_b2 rec N 33 (nn p) (nn dep) (nn i) (st w I J) = some (.inl 0, st w I1 J) ∧ FrF I I1 ∧ FS ma s h Td' I1 ∧ FQ ma h Td0 p Td') := by
  intro d
  induction d with
  | zero =>
    intro i Td I N hi hN h1 h2 h3 H
    obtain ⟨N, rfl⟩ : ∃ M, N = M + 1 := ⟨N - 1, by omega⟩
    have hi : i = 8 := by omega
    subst hi
    refine Or.inr ⟨I, Td, ?_, FrF.refl I, H, h1, h2, h3⟩
    rw [f_X0_findPlate_b2, if_pos (by decide)]
    rfl
  | succ d ih =>
    intro i Td I N hi hN h1 h2 h3 H
    obtain ⟨N, rfl⟩ : ∃ M, N = M + 1 := ⟨N - 1, by omega⟩
    have i8 : i < 8 := by omega
    have q8 : ¬ (8 : Int32) ≤ nn i := by rw [show (8 : Int32) = nn 8 from rfl, nn_le (by omega) (by omega)]; omega
    have qd : ¬ (8 : Int32) < nn dep := by rw [show (8 : Int32) = nn 8 from rfl, nn_lt (by omega) (by omega)]; omega
    have l35 := l_35 (I := I) (J := J) (k := p) S (by omega)
    have i5 := i_33_5 (I := I) (J := J) S
    have tst : (((I 35 p &&& (I 33 5 ^^^ (-1))) &&& ((1 : Int32) <<< (nn i &&& 31))) = 0) = ¬ (ma p i = true ∧ Td i = false) := by
      refine propext ((and_b0 i8).trans (not_congr ?_))
      rw [bit_and _ _ (by omega), bit_not _ (by omega), H.2.2 p hp i i8, H.2.1 i i8]
      cases Td i <;> simp
    rw [f_X0_findPlate_b2, if_neg q8, if_neg qd, bd_st (r_33_2 S), bd_st l35, bd_st i5]
    by_cases c : ma p i = true ∧ Td i = false
    rotate_left
    · rw [if_pos (by rw [tst]; exact c), f_X0_findPlate_b81, nn_succ]
      refine ih (i + 1) Td I N (by omega) (by omega) h1 (fun j hj hm => ?_) h3 H
      by_cases e : j = i
      · subst e
        cases q : Td j with
        | true => rfl
        | false => exact absurd ⟨hm, q⟩ c
      · exact h2 j (by omega) hm
    rw [if_neg (by rw [tst]; exact fun z => z c), bd_st i5, bd_st (w_33_5 S)]
    obtain ⟨I1, hI1⟩ : ∃ I1, I1 = up2 I 33 5 (I 33 5 ||| ((1 : Int32) <<< (nn i &&& 31))) := ⟨_, rfl⟩
    have f1 : FrF I I1 := by rw [hI1]; exact (FrF.refl I).u5
    have H1 : FS ma s h (adT Td i) I1 := by
      rw [hI1]
      exact ⟨fun j hj => by rw [up2_a (by decide)]; exact H.1 j hj, by rw [up2_s]; exact H.2.1.ad i8, fun q hq => by rw [up2_a (by decide)]; exact H.2.2 q hq⟩
    have t0 : Td0 i = false := by
      cases q : Td0 i with
      | false => rfl
      | true => rw [h1 i i8 q] at c; exact absurd c.2 (by decide)
    have l36 := l_36 (I := I1) (J := J) (k := i) S i8
    rw [H1.1 i i8] at l36
    rw [← hI1, bd_st (r_33_3 S), bd_st l36]
    have e72 : ∀ {I2 : Is}, f_X0_findPlate_b72 rec 33 (nn p) (nn i) (st w I2 J) = some (.inl 1, st w (up2 I2 36 i (nn p)) J) := fun {I2} => by
      rw [f_X0_findPlate_b72, bd_st (r_33_3 S), bd_st (s_36 S i8)]
      rfl
    cases hh : h i with
    | none =>
      refine Or.inl ⟨up2 I1 36 i (nn p), stH h i p, adT Td i, ?_, f1.u36, H1.set, fp_new hI i8 hh c.1 t0⟩
      rw [show ohI (none : Option Nat) = -1 from rfl, if_pos rfl]
      exact e72
    | some q =>
      have qs := hq i i8 q hh
      have cc := adT_c i8 c.2
      have cm : c8 (fun j => !Td j) ≤ c8 (fun j => !Td0 j) := c8_mono fun j hj x => by
        cases y : Td0 j with
        | false => rfl
        | true =>
          have x : (!Td j) = true := x
          rw [h1 j hj y] at x
          cases x
      rw [hh] at l36
      have l36 : al 0 36 (nn i) (st w I1 J) = some (.inl (nn q), st w I1 J) := l36
      rw [show ohI (some q) = nn q from rfl, if_neg (nn_ne_neg (by omega)), bd_st (r_33_3 S), bd_st l36, nn_succ]
      rcases hr q (dep + 1) h (adT Td i) I1 qs (by omega) (by omega) hI hq (fun j hj hj' => by
        have := hI j i q hj i8 hj' hh
        exact adT_t.2 (Or.inr this.symm)) H1 with ⟨I2, h', Td', e2, f2, H2, T2⟩ | ⟨I2, Td', e2, f2, H2, F2⟩
      · refine Or.inl ⟨up2 I2 36 i (nn p), stH h' i p, Td', ?_, (f1.trans f2).u36, H2.set, fp_sub hI hP i8 hh c.1 t0 (fun j hj hj' => adT_t.2 (Or.inl (h1 j hj hj'))) (adT_t.2 (Or.inr rfl)) T2⟩
        rw [bd_st ((v_33 S).trans e2), if_neg (by decide)]
        exact e72
      · obtain ⟨g1, g2, g3⟩ := F2
        rw [bd_st ((v_33 S).trans e2), if_pos rfl, f_X0_findPlate_b81, nn_succ]
        have tdi : Td' i = true := g1 i i8 (adT_t.2 (Or.inr rfl))
        have sub : ∀ j, j < 8 → Td j = true → Td' j = true := fun j hj x => g1 j hj (adT_t.2 (Or.inl x))
        have R := ih (i + 1) Td' I2 N (by omega) (by omega) (fun j hj x => sub j hj (h1 j hj x)) (fun j hj hm => by
          by_cases e : j = i
          · rw [e]; exact tdi
          · exact sub j (by omega) (h2 j (by omega) hm)) (fun t ht x y => by
          by_cases e : Td t = true
          · obtain ⟨r, hr1, hr2⟩ := h3 t ht e y
            exact ⟨r, hr1, fun k hk z => sub k hk (hr2 k hk z)⟩
          · by_cases e' : t = i
            · subst e'
              exact ⟨q, hh, g2⟩
            · refine g3 t ht x ?_
              cases z : adT Td i t with
              | false => rfl
              | true =>
                rcases adT_t.1 z with z | z
                · exact absurd z e
                · exact absurd z.symm e') H2
        rcases R with ⟨I3, h', Td3, e3, f3, H3, T3⟩ | ⟨I3, Td3, e3, f3, H3, F3⟩
        · exact Or.inl ⟨I3, h', Td3, e3, (f1.trans f2).trans f3, H3, T3⟩
        · exact Or.inr ⟨I3, Td3, e3, (f1.trans f2).trans f3, H3, F3⟩
theorem c_find (S : Sw w) (hs : s ≤ 8) : ∀ D, RfC w J ma s D (F_X0_findPlate D)
  | 0 => fun p dep h Td I _ _ hD => absurd hD (Nat.not_lt_zero _)
  | D + 1 => fun p dep h Td I hp hd hD hI hq hP H => by
    show (∃ I1 h' Td', f_X0_findPlate (F_X0_findPlate D) 33 (nn p) (nn dep) (st w I J) = some (.inl 1, st w I1 J) ∧ FrF I I1 ∧ FS ma s h' Td' I1 ∧ TQ ma h Td p h') ∨ (∃ I1 Td', f_X0_findPlate (F_X0_findPlate D) 33 (nn p) (nn dep) (st w I J) = some (.inl 0, st w I1 J) ∧ FrF I I1 ∧ FS ma s h Td' I1 ∧ FQ ma h Td p Td')
    unfold f_X0_findPlate
    exact c_findL S hs (c_find S hs D) hp hd hD hI hq hP 8 0 Td I NF rfl (NF_gt (by decide)) (fun _ _ x => x) (fun j hj => absurd hj (Nat.not_lt_zero _)) (fun t ht x y => by rw [x] at y; cases y) H
/-- the most from a on -/
theorem c_most (S : Sw w) (hs : s ≤ 8) {a : Nat} {x : Int32} {Fr : Nat → Bool} (ha : a ≤ s) (h34 : I 3 4 = nn s) (hB : Bs x Fr) (hm : ∀ p, p < s → Bs (I 35 p) (ma p)) : ∃ I1, f_X0_mostFrom 33 (nn a) x (st w I J) = some (.inl (nn (MXc ma (s - a) a Fr)), st w I1 J) ∧ FrF I I1 := by
  have first : ∃ I1, f_X0_mostFrom 33 (nn a) x (st w I J) = f_X0_mostFrom_b26 NF 33 x 0 (nn a) (st w I1 J) ∧ FrF I I1 ∧ ∀ i, i < 8 → I1 36 i = -1 := by
    unfold f_X0_mostFrom
    refine loopQ (fun N i (I1 : Is) => f_X0_mostFrom_b2 N 33 (nn a) x (nn i) (st w I1 J)) 8 (fun i I1 => FrF I I1 ∧ ∀ q, q < i → I1 36 q = -1) (fun z => ∃ I1, z = f_X0_mostFrom_b26 NF 33 x 0 (nn a) (st w I1 J) ∧ FrF I I1 ∧ ∀ i, i < 8 → I1 36 i = -1) ?_ ?_ 8 0 I NF (by omega) (NF_gt (by omega)) ⟨FrF.refl I, fun q hq => by omega⟩
    · intro N i I1 hi ⟨a1, b1⟩
      left
      refine ⟨up2 I1 36 i (-1), ?_, a1.u36, fun q hq => ?_⟩
      · show f_X0_mostFrom_b2 (N + 1) 33 (nn a) x (nn i) (st w I1 J) = _
        rw [f_X0_mostFrom_b2, if_neg (by rw [show (8 : Int32) = nn 8 from rfl, nn_le (by omega) (by omega)]; omega), bd_st (r_33_3 S), bd_st (s_36 S hi), nn_succ]
      · by_cases e : q = i
        · rw [e, up2_s]
        · rw [up2_k e]; exact b1 q (by omega)
    · intro N I1 ⟨a1, b1⟩
      refine ⟨I1, ?_, a1, b1⟩
      show f_X0_mostFrom_b2 (N + 1) 33 (nn a) x (nn 8) (st w I1 J) = _
      rw [f_X0_mostFrom_b2, if_pos (by decide)]
  obtain ⟨I1, e1, f1, n1⟩ := first
  rw [e1]
  have key := loopQ (fun N i (z : Nat × Mp × Is) => f_X0_mostFrom_b26 N 33 x (nn z.1) (nn (a + i)) (st w z.2.2 J)) (s - a) (fun i z => Op ma a (a + i) Fr z.2.1 z.1 ∧ FrF I z.2.2 ∧ ∀ i, i < 8 → z.2.2 36 i = ohI (z.2.1 i)) (fun z => ∃ I2, z = some (.inl (nn (MXc ma (s - a) a Fr)), st w I2 J) ∧ FrF I I2) ?_ ?_ (s - a) 0 (0, (fun _ => none), I1) NF (by omega) (NF_gt (by omega)) ⟨⟨⟨fun i hi q hq => (by cases hq), fun i j q hi hj hq => (by cases hq)⟩, c8_0 fun i hi => rfl, fun m' M' => MXc_up 0 a Fr m' M'⟩, f1, n1⟩
  · exact key
  · intro N i ⟨v, h, I2⟩ hi ⟨O, f2, n2⟩
    left
    have O : Op ma a (a + i) Fr h v := O
    have f2 : FrF I I2 := f2
    have n2 : ∀ i, i < 8 → I2 36 i = ohI (h i) := n2
    have i4 := i_3_4 (I := I2) (J := J) S
    rw [f2.1 3 (by decide), h34] at i4
    have H0 : FS ma s h (fun i => !Fr i) (up2 I2 33 5 (x ^^^ (-1))) := ⟨fun j hj => by rw [up2_a (by decide)]; exact n2 j hj, by rw [up2_s]; exact hB.nt, fun p hp => by rw [up2_a (by decide), f2.1 35 (by decide)]; exact hm p hp⟩
    have e0 : f_X0_mostFrom_b26 (N + 1) 33 x (nn v) (nn (a + i)) (st w I2 J) = (bd (cv 0 33 (F_X0_findPlate 12 33 (nn (a + i)) 0)) fun v3 => if (v3 = 0 : Prop) then (f_X0_mostFrom_b58 (f_X0_mostFrom_b26 N) 33 x (nn v) (nn (a + i))) else f_X0_mostFrom_b58 (f_X0_mostFrom_b26 N) 33 x (nn v + 1) (nn (a + i))) (st w (up2 I2 33 5 (x ^^^ (-1))) J) := by
      rw [f_X0_mostFrom_b26, bd_st (r_33_0 S), bd_st i4, if_neg (by rw [nn_le (by omega) (by omega)]; omega), bd_st (w_33_5 S)]
    have c8' := c8_8 (fun i => !(!Fr i))
    rcases c_find (J := J) (ma := ma) S hs 12 (a + i) 0 h (fun i => !Fr i) _ (by omega) (by omega) (by omega) O.1.2 (fun j hj q hq => by have := (O.1.1 j hj q hq).2.1; omega) (fun j hj hq => by have := (O.1.1 j hj _ hq).2.1; omega) H0 with ⟨I3, h', Td', e3, f3, H3, T3⟩ | ⟨I3, Td', e3, f3, H3, F3⟩
    · have e3 : F_X0_findPlate 12 33 (nn (a + i)) 0 _ = _ := e3
      refine ⟨(v + 1, h', I3), ?_, O.add (by omega) T3, (f2.u5).trans f3, H3.1⟩
      show f_X0_mostFrom_b26 (N + 1) 33 x (nn v) (nn (a + i)) (st w I2 J) = f_X0_mostFrom_b26 N 33 x (nn (v + 1)) (nn (a + (i + 1))) (st w I3 J)
      rw [e0, bd_st ((v_33 S).trans e3), if_neg (by decide), f_X0_mostFrom_b58, nn_succ, nn_succ, Nat.add_assoc]
    · have e3 : F_X0_findPlate 12 33 (nn (a + i)) 0 _ = _ := e3
      refine ⟨(v, h, I3), ?_, O.no F3, (f2.u5).trans f3, H3.1⟩
      show f_X0_mostFrom_b26 (N + 1) 33 x (nn v) (nn (a + i)) (st w I2 J) = f_X0_mostFrom_b26 N 33 x (nn v) (nn (a + (i + 1))) (st w I3 J)
      rw [e0, bd_st ((v_33 S).trans e3), if_pos rfl, f_X0_mostFrom_b58, nn_succ, Nat.add_assoc]
  · intro N ⟨v, h, I2⟩ ⟨O, f2, n2⟩
    have O : Op ma a (a + (s - a)) Fr h v := O
    have f2 : FrF I I2 := f2
    have i4 := i_3_4 (I := I2) (J := J) S
    rw [f2.1 3 (by decide), h34] at i4
    refine ⟨I2, ?_, f2⟩
    show f_X0_mostFrom_b26 (N + 1) 33 x (nn v) (nn (a + (s - a))) (st w I2 J) = _
    rw [f_X0_mostFrom_b26, bd_st (r_33_0 S), bd_st i4, if_pos (by rw [nn_le (by omega) (by omega)]; omega), O.mx]
    rfl
end FINDP
