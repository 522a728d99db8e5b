/-! PURE PART: the model gives the papers out -/
def FrT (n t : Nat) : Nat → Bool := fun i => decide (i < n) && !t.testBit i
theorem ones_c : ∀ n, n ≤ 8 → ∀ t, t < 2 ^ n → nn n - bc32 (nn t) = nn (c8 (FrT n t)) := by decide +kernel
theorem bit_t : ∀ t, t < 256 → ∀ i, i < 8 → (bit (nn t) i ↔ t.testBit i = true) := by decide +kernel
theorem FrT_rm {n t i : Nat} : rmF (FrT n t) i = FrT n (t ||| 2 ^ i) := by
  funext j
  unfold rmF FrT
  rw [Nat.testBit_or, Nat.testBit_two_pow]
  cases decide (j < n) <;> cases t.testBit j <;> cases decide (i = j) <;> rfl
theorem lp_no {α : Type} {f : Nat → α → α} : ∀ d a (y : α), (∀ i y, a ≤ i → i < a + d → f i y = y) → lp f d a y = y
  | 0, _, _, _ => rfl
  | d + 1, a, y, h => by
    show lp f d (a + 1) (f a y) = y
    rw [h a y (Nat.le_refl _) (by omega)]
    exact lp_no d (a + 1) y fun i y h1 h2 => h i y (by omega) (by omega)
theorem lp_st {α : Type} (f : Nat → α → α) {i : Nat} (hi : i < 8) (y : α) : lp f (8 - i) i y = lp f (8 - (i + 1)) (i + 1) (f i y) := by
  rw [show 8 - i = 8 - (i + 1) + 1 by omega]
  rfl
/-- what the search may change -/
def PF (p : Nat) (I I' : Is) : Prop := Ag [49, 522, 523] I I' ∧ (∀ j, j ≠ 44 → I' 49 j = I 49 j) ∧ ∀ q, q < p → I' 522 q = I 522 q
theorem PF.refl (p : Nat) (I : Is) : PF p I I := ⟨Ag.refl _ _, fun _ _ => rfl, fun _ _ => rfl⟩
theorem PF.trans {p : Nat} {I I' I'' : Is} (h : PF p I I') (h' : PF p I' I'') : PF p I I'' := ⟨h.1.trans h'.1, fun j hj => (h'.2.1 j hj).trans (h.2.1 j hj), fun q hq => (h'.2.2 q hq).trans (h.2.2 q hq)⟩
theorem PF.lo {p : Nat} {I I' : Is} (h : PF (p + 1) I I') : PF p I I' := ⟨h.1, h.2.1, fun q hq => h.2.2 q (by omega)⟩
theorem PF.u22 {p : Nat} {I I' : Is} {v : Int32} (h : PF p I I') : PF p I (up2 I' 522 p v) := ⟨h.1.up (by decide), fun j hj => by rw [up2_a (by decide)]; exact h.2.1 j hj, fun q hq => by rw [up2_k (by omega)]; exact h.2.2 q hq⟩
theorem PF.u23 {p k : Nat} {I I' : Is} {v : Int32} (h : PF p I I') : PF p I (up2 I' 523 k v) := ⟨h.1.up (by decide), fun j hj => by rw [up2_a (by decide)]; exact h.2.1 j hj, fun q hq => by rw [up2_a (by decide)]; exact h.2.2 q hq⟩
theorem PF.u44 {p : Nat} {I I' : Is} {v : Int32} (h : PF p I I') : PF p I (up2 I' 49 44 v) := ⟨h.1.up (by decide), fun j hj => by rw [up2_k hj]; exact h.2.1 j hj, fun q hq => by rw [up2_a (by decide)]; exact h.2.2 q hq⟩
/-- the best so far -/
def PB (s : Nat) (I : Is) (z : Nat × Mp) : Prop := I 49 44 = nn z.1 - 1 ∧ (1 ≤ z.1 → ∀ q, q < s → I 523 q = ohI (z.2 q)) ∧ z.1 ≤ 9
section MPAP
variable {w : Wd} {I : Is} {J : Js} {F : Fo} {A : At}
def RcA (w : Wd) (J : Js) (F : Fo) (A : At) (rec : Nat → Int32 → Int32 → Int32 → Mo Unit) (d : Nat) : Prop := ∀ p t cr k z I, p + d = sz F → t < 2 ^ pls A → k ≤ p → FoM I F → RwR I 497 0 A → (∀ q, q < p → I 522 q = ohI (cr q)) → PB (sz F) I z → ∃ I1, rec 49 (nn p) (nn t) (nn k) (st w I J) = some (.inl (), st w I1 J) ∧ PF p I I1 ∧ PB (sz F) I1 (dfs (maF F A) d p (FrT (pls A) t) cr k z)
theorem PF.fm {p : Nat} {I' : Is} (h : PF p I I') (HF : FoM I F) (h8 : sz F ≤ 8) : FoM I' F := HF.ag h8 (K := [49, 522, 523]) h.1 (by decide)
theorem PF.rw {p : Nat} {I' : Is} (h : PF p I I') (HA : RwR I 497 0 A) : RwR I' 497 0 A := HA.ag h.1 (by decide)
theorem m_head (S : Sw w) (WF : FoW F) (WA : AtW F A) {rec : Nat → Int32 → Int32 → Int32 → Mo Unit} {d p t k : Nat} {z : Nat × Mp} (hd : p + d = sz F) (ht : t < 2 ^ pls A) (hk : k ≤ p) (HF : FoM I F) (HA : RwR I 497 0 A) (HB : PB (sz F) I z) : f_X12_carriesFrom rec 49 (nn p) (nn t) (nn k) (st w I J) = (if z.1 ≤ k + min d (c8 (FrT (pls A) t)) then (if p = sz F then (bd (pf 12 44 49 (.int (nn k))) fun _ => f_X12_carriesFrom_b60 rec NF 49 (nn p) 0) else f_X12_carriesFrom_b90 rec NF 49 (nn p) (nn t) (nn k) 0) else pu ()) (st w I J) := by
  have h8 := WF.1
  have h40 := WA.1
  have hpl : pls A ≤ 8 := by unfold pls; omega
  have U := RoS_497 S
  have l24 := o_l24 (I := I) (J := J) U
  rw [rr_hg HA] at l24
  have ht8 : t < 256 := Nat.lt_of_lt_of_le ht (Nat.le_trans (Nat.pow_le_pow_right (by decide) hpl) (by decide))
  have l53 := l_53_0 (I := I) (J := J) S
  rw [fm_sz HF] at l53
  have em : mn32 8 (nn (hg A)) = nn (pls A) := mn_nn (a := 8) (by decide) (by omega)
  have eo := ones_c (pls A) hpl t ht
  have c8' := c8_8 (FrT (pls A) t)
  have i44 := i_49_44 (I := I) (J := J) S
  rw [HB.1] at i44
  have z9 := HB.2.2
  have e1 : nn (sz F) - nn p = nn d := by
    rw [nn_sub (by omega)]
    congr 1
    omega
  have e2 : mn32 (nn d) (nn (c8 (FrT (pls A) t))) = nn (min d (c8 (FrT (pls A) t))) := mn_nn (by omega) (by omega)
  have e3 : (nn z.1 - 1 < nn k + nn (min d (c8 (FrT (pls A) t)))) = (z.1 ≤ k + min d (c8 (FrT (pls A) t))) := by
    rw [nn_add, nn_le_pred (by omega) _ (nn_nneg (by omega)), nn_le (by omega) (by omega)]
  have e4 : (nn p = nn (sz F)) = (p = sz F) := nn_eq (by omega) (by omega)
  rw [f_X12_carriesFrom, bd_st (r_49_27 S), bd_st l24, bd_st (m_less 8 (nn (hg A))), em, bd_st (m_ones ht8), bd_st (r_49_12 S), bd_st l53, bd_st (m_less _ _), eo, e1, e2, bd_st i44]
  by_cases c : z.1 ≤ k + min d (c8 (FrT (pls A) t))
  · rw [if_pos (by rw [e3]; exact c), if_pos c, bd_st (r_49_12 S), bd_st l53]
    by_cases c' : p = sz F
    · rw [if_pos (by rw [e4]; exact c'), if_pos c']
    · rw [if_neg (by rw [e4]; exact c'), if_neg c']
  · rw [if_neg (by rw [e3]; exact c), if_neg c]
theorem m_leaf (S : Sw w) (h8 : sz F ≤ 8) {rec : Nat → Int32 → Int32 → Int32 → Mo Unit} {k : Nat} {cr : Mp} (hk : k ≤ sz F) (hcr : ∀ q, q < sz F → I 522 q = ohI (cr q)) : ∃ I1, (bd (pf 12 44 49 (.int (nn k))) fun _ => f_X12_carriesFrom_b60 rec NF 49 (nn (sz F)) 0) (st w I J) = some (.inl (), st w I1 J) ∧ PF (sz F) I I1 ∧ PB (sz F) I1 (k + 1, fun q => if q < sz F then cr q else none) := by
  rw [bd_st (w_49_44 S)]
  refine loopQ (fun N i (I1 : Is) => f_X12_carriesFrom_b60 rec N 49 (nn (sz F)) (nn i) (st w I1 J)) (sz F) (fun i I1 => PF (sz F) I I1 ∧ I1 49 44 = nn k ∧ ∀ q, q < i → I1 523 q = ohI (cr q)) (fun z => ∃ I1, z = some (.inl (), st w I1 J) ∧ PF (sz F) I I1 ∧ PB (sz F) I1 (k + 1, fun q => if q < sz F then cr q else none)) ?_ ?_ (sz F) 0 (up2 I 49 44 (nn k)) NF (by omega) (NF_gt (by omega)) ⟨(PF.refl _ I).u44, up2_s, fun q hq => by omega⟩
  · intro N i I1 hi ⟨a1, b1, c1⟩
    left
    have l22 := l_522 (I := I1) (J := J) (k := i) S (by omega)
    rw [a1.2.2 i hi, hcr i hi] at l22
    refine ⟨up2 I1 523 i (ohI (cr i)), ?_, a1.u23, by rw [up2_a (by decide)]; exact b1, fun q hq => ?_⟩
    · show f_X12_carriesFrom_b60 rec (N + 1) 49 (nn (sz F)) (nn i) (st w I1 J) = _
      rw [f_X12_carriesFrom_b60, if_neg (by rw [nn_le (by omega) (by omega)]; omega), bd_st (r_49_43 S), bd_st (r_49_42 S), bd_st l22, bd_st (s_523 S (by omega)), nn_succ]
    · by_cases e : q = i
      · rw [e, up2_s]
      · rw [up2_k e]; exact c1 q (by omega)
  · intro N I1 ⟨a1, b1, c1⟩
    refine ⟨I1, ?_, a1, ?_, fun _ q hq => ?_, by show k + 1 ≤ 9; omega⟩
    · show f_X12_carriesFrom_b60 rec (N + 1) 49 (nn (sz F)) (nn (sz F)) (st w I1 J) = _
      rw [f_X12_carriesFrom_b60, if_pos (by rw [nn_le (by omega) (by omega)]; omega)]
      rfl
    · show I1 49 44 = nn (k + 1) - 1
      rw [b1, nn_pred (by omega), Nat.add_sub_cancel]
    · rw [c1 q hq]
      show _ = ohI (if q < sz F then cr q else none)
      rw [if_pos hq]
theorem m_carD (S : Sw w) (WF : FoW F) (WA : AtW F A) {rec : Nat → Int32 → Int32 → Int32 → Mo Unit} {d : Nat} (hr : RcA w J F A rec d) : RcA w J F A (f_X12_carriesFrom rec) (d + 1) := by
  have h8 := WF.1
  have h40 := WA.1
  have hpl : pls A ≤ 8 ∧ pls A ≤ hg A ∧ (pls A = 8 ∨ pls A = hg A) := by unfold pls; omega
  intro p t cr k z I hd ht hk HF HA hcr HB
  have ht8 : t < 256 := Nat.lt_of_lt_of_le ht (Nat.le_trans (Nat.pow_le_pow_right (by decide) hpl.1) (by decide))
  rw [m_head S WF WA hd ht hk HF HA HB]
  unfold dfs
  by_cases c : z.1 ≤ k + min (d + 1) (c8 (FrT (pls A) t))
  rotate_left
  · rw [if_neg c, if_neg c]
    exact ⟨I, rfl, PF.refl _ I, HB⟩
  rw [if_pos c, if_pos c, if_neg (show ¬ p = sz F by omega)]
  have U := RoS_497 S
  obtain ⟨G, hG⟩ : ∃ G : Nat → Nat × Mp → Nat × Mp, G = fun i y => if (maF F A p i && FrT (pls A) t i) = true then dfs (maF F A) d (p + 1) (rmF (FrT (pls A) t) i) (stO cr p (some i)) (k + 1) y else y := ⟨_, rfl⟩
  rw [← hG]
  -- nobody's plate, at the end
  have fin : ∀ {I1 : Is} {y : Nat × Mp}, PF p I I1 → PB (sz F) I1 y → ∃ I2, f_X12_carriesFrom_b173 rec 49 (nn p) (nn t) (nn k) (st w I1 J) = some (.inl (), st w I2 J) ∧ PF p I I2 ∧ PB (sz F) I2 (dfs (maF F A) d (p + 1) (FrT (pls A) t) (stO cr p none) k y) := fun {I1 y} f1 B1 => by
    have f2 : PF p I (up2 I1 522 p (-1)) := f1.u22
    have B2 : PB (sz F) (up2 I1 522 p (-1)) y := ⟨by rw [up2_a (by decide)]; exact B1.1, fun h q hq => by rw [up2_a (by decide)]; exact B1.2.1 h q hq, B1.2.2⟩
    obtain ⟨I2, e2, f3, B3⟩ := hr (p + 1) t (stO cr p none) k y _ (by omega) ht (by omega) (f2.fm HF h8) (f2.rw HA) (fun q hq => by
      show _ = ohI (if q = p then none else cr q)
      by_cases e : q = p
      · rw [if_pos e, e, up2_s]
        rfl
      · rw [if_neg e, up2_k e, f1.2.2 q (by omega)]
        exact hcr q (by omega)) B2
    refine ⟨I2, ?_, f2.trans f3.lo, B3⟩
    rw [f_X12_carriesFrom_b173, bd_st (r_49_42 S), bd_st (s_522 S (by omega)), nn_succ, bd_st ((v_49 S).trans e2)]
    rfl
  have key := loopQ (fun N i (x : (Nat × Mp) × Is) => f_X12_carriesFrom_b90 rec N 49 (nn p) (nn t) (nn k) (nn i) (st w x.2 J)) (pls A) (fun i x => PF p I x.2 ∧ PB (sz F) x.2 x.1 ∧ lp G (8 - i) i x.1 = lp G 8 0 z) (fun v => ∃ I2, v = some (.inl (), st w I2 J) ∧ PF p I I2 ∧ PB (sz F) I2 (dfs (maF F A) d (p + 1) (FrT (pls A) t) (stO cr p none) k (lp G 8 0 z))) ?_ ?_ (pls A) 0 (z, I) NF (by omega) (NF_gt (by omega)) ⟨PF.refl _ I, HB, rfl⟩
  · exact key
  · intro N i ⟨y, I1⟩ hi ⟨f1, B1, e1⟩
    left
    have f1 : PF p I I1 := f1
    have B1 : PB (sz F) I1 y := B1
    have e1 : lp G (8 - i) i y = lp G 8 0 z := e1
    have i8 : i < 8 := by omega
    rw [lp_st G i8] at e1
    have HF1 := f1.fm HF h8
    have HA1 := f1.rw HA
    have l24 := o_l24 (I := I1) (J := J) U
    rw [rr_hg HA1] at l24
    have hF64 := (WF.2.2 p (by omega)).1
    have pf64 : pF A i < 64 := (WA.2.2 i (by omega)).2.2.2.1
    have hh : (((nn t >>> (nn i &&& 31)) &&& 1) = 1) = (t.testBit i = true) := propext (bit_t t ht8 i i8)
    have e0 : f_X12_carriesFrom_b90 rec (N + 1) 49 (nn p) (nn t) (nn k) (nn i) (st w I1 J) = (if (bI (t.testBit i = true) = 0 : Prop) then (if (bI (alk F (nn (fa F p)) (nn (pF A i))) = 0 : Prop) then (f_X12_carriesFrom_b167 rec (f_X12_carriesFrom_b90 rec N) 49 (nn p) (nn t) (nn k) (nn i)) else bd (gR 12 42 49) fun r9 => bd (as_ r9 (nn p) (nn i)) fun _ => bd (cv 12 49 (rec 49 (nn p + (1 : Int32)) (nn t ||| ((1 : Int32) <<< (nn i &&& 31))) (nn k + (1 : Int32)))) fun _ => f_X12_carriesFrom_b167 rec (f_X12_carriesFrom_b90 rec N) 49 (nn p) (nn t) (nn k) (nn i)) else f_X12_carriesFrom_b167 rec (f_X12_carriesFrom_b90 rec N) 49 (nn p) (nn t) (nn k) (nn i)) (st w I1 J) := by
      have hb : bI (((nn t >>> (nn i &&& 31)) &&& 1) = 1) = bI (t.testBit i = true) := by
        by_cases q : t.testBit i = true
        · rw [bI_t q, bI_t (by rw [hh]; exact q)]
        · rw [bI_f q, bI_f (by rw [hh]; exact q)]
      rw [f_X12_carriesFrom_b90, bd_st (r_49_27 S), bd_st l24, if_neg (by rw [nn_le (by omega) (by omega)]; omega), if_neg (by rw [show (8 : Int32) = nn 8 from rfl, nn_le (by omega) (by omega)]; omega), bd_st m_has, hb]
      by_cases q : t.testBit i = true
      · rw [bI_t q, if_neg (by decide), if_neg (by decide)]
      · rw [bI_f q, if_pos rfl, if_pos rfl, bd_st ((v_49 S).trans (m_faceOf S HF1 h8 (by omega))), bd_st (r_49_27 S), bd_st (m_pF U HA1 h40 (by omega)), bd_st ((v_49 S).trans (m_alike S HF1 hF64 pf64))]
    have gg : (maF F A p i && FrT (pls A) t i) = true ↔ alk F (nn (fa F p)) (nn (pF A i)) ∧ ¬ t.testBit i = true := by
      unfold maF FrT
      simp [hi]
    by_cases q : alk F (nn (fa F p)) (nn (pF A i)) ∧ ¬ t.testBit i = true
    · have hGi : G i y = dfs (maF F A) d (p + 1) (rmF (FrT (pls A) t) i) (stO cr p (some i)) (k + 1) y := by
        rw [hG]
        exact if_pos (gg.2 q)
      rw [hGi, FrT_rm] at e1
      have f2 : PF p I (up2 I1 522 p (nn i)) := f1.u22
      have B2 : PB (sz F) (up2 I1 522 p (nn i)) y := ⟨by rw [up2_a (by decide)]; exact B1.1, fun h q hq => by rw [up2_a (by decide)]; exact B1.2.1 h q hq, B1.2.2⟩
      obtain ⟨o1, o2⟩ := or_s t ht8 i i8
      have ht' : t ||| 2 ^ i < 2 ^ pls A := Nat.or_lt_two_pow ht (Nat.pow_lt_pow_right (by decide) hi)
      obtain ⟨I2, e2, f3, B3⟩ := hr (p + 1) (t ||| 2 ^ i) (stO cr p (some i)) (k + 1) y _ (by omega) ht' (by omega) (f2.fm HF h8) (f2.rw HA) (fun x hx => by
        show _ = ohI (if x = p then some i else cr x)
        by_cases e : x = p
        · rw [if_pos e, e, up2_s]
          rfl
        · rw [if_neg e, up2_k e, f1.2.2 x (by omega)]
          exact hcr x (by omega)) B2
      refine ⟨(_, I2), ?_, f2.trans f3.lo, B3, e1⟩
      show f_X12_carriesFrom_b90 rec (N + 1) 49 (nn p) (nn t) (nn k) (nn i) (st w I1 J) = f_X12_carriesFrom_b90 rec N 49 (nn p) (nn t) (nn k) (nn (i + 1)) (st w I2 J)
      rw [e0, bI_f q.2, if_pos rfl, bI_t q.1, if_neg (by decide), bd_st (r_49_42 S), bd_st (s_522 S (by omega)), nn_succ, nn_succ, o1, bd_st ((v_49 S).trans e2), f_X12_carriesFrom_b167, nn_succ]
    · have hGi : G i y = y := by
        rw [hG]
        exact if_neg (fun z => q (gg.1 z))
      rw [hGi] at e1
      refine ⟨(y, I1), ?_, f1, B1, e1⟩
      show f_X12_carriesFrom_b90 rec (N + 1) 49 (nn p) (nn t) (nn k) (nn i) (st w I1 J) = f_X12_carriesFrom_b90 rec N 49 (nn p) (nn t) (nn k) (nn (i + 1)) (st w I1 J)
      rw [e0]
      by_cases q1 : t.testBit i = true
      · rw [bI_t q1, if_neg (by decide), f_X12_carriesFrom_b167, nn_succ]
      · have q2 : ¬ alk F (nn (fa F p)) (nn (pF A i)) := fun x => q ⟨x, q1⟩
        rw [bI_f q1, if_pos rfl, bI_f q2, if_pos rfl, f_X12_carriesFrom_b167, nn_succ]
  · intro N ⟨y, I1⟩ ⟨f1, B1, e1⟩
    have f1 : PF p I I1 := f1
    have B1 : PB (sz F) I1 y := B1
    have e1 : lp G (8 - pls A) (pls A) y = lp G 8 0 z := e1
    rw [lp_no (8 - pls A) (pls A) y (fun i x h1 h2 => by
      rw [hG]
      refine if_neg ?_
      unfold FrT
      have : decide (i < pls A) = false := by simp; omega
      rw [this]
      simp)] at e1
    have HA1 := f1.rw HA
    have l24 := o_l24 (I := I1) (J := J) U
    rw [rr_hg HA1] at l24
    obtain ⟨I2, e2, f2, B2⟩ := fin f1 B1
    refine ⟨I2, ?_, f2, by rw [← e1]; exact B2⟩
    rw [← e2]
    show f_X12_carriesFrom_b90 rec (N + 1) 49 (nn p) (nn t) (nn k) (nn (pls A)) (st w I1 J) = _
    rw [f_X12_carriesFrom_b90, bd_st (r_49_27 S), bd_st l24]
    by_cases q : hg A ≤ pls A
    · rw [if_pos (by rw [nn_le (by omega) (by omega)]; exact q)]
    · rw [if_neg (by rw [nn_le (by omega) (by omega)]; exact q), if_pos (by rw [show (8 : Int32) = nn 8 from rfl, nn_le (by omega) (by omega)]; omega)]
theorem m_car (S : Sw w) (WF : FoW F) (WA : AtW F A) : ∀ D d, d < D → RcA w J F A (F_X12_carriesFrom D) d
  | 0, d, h => absurd h (Nat.not_lt_zero _)
  | D + 1, 0, _ => by
    intro p t cr k z I hd ht hk HF HA hcr HB
    have h8 := WF.1
    show ∃ I1, f_X12_carriesFrom (F_X12_carriesFrom D) 49 (nn p) (nn t) (nn k) (st w I J) = some (.inl (), st w I1 J) ∧ _
    have hp : p = sz F := by omega
    rw [m_head S WF WA hd ht hk HF HA HB]
    unfold dfs
    by_cases c : z.1 ≤ k + min 0 (c8 (FrT (pls A) t))
    · rw [if_pos c, if_pos c, if_pos hp]
      subst hp
      exact m_leaf S h8 hk hcr
    · rw [if_neg c, if_neg c]
      exact ⟨I, rfl, PF.refl _ I, HB⟩
  | D + 1, d + 1, h => m_carD S WF WA (m_car S WF WA D d (by omega))
theorem m_papers (S : Sw w) (WF : FoW F) (WA : AtW F A) (HF : FoM I F) (HA : RwR I 497 0 A) : ∃ I1, f_X12_laysPapers 49 (st w I J) = some (.inl (), st w I1 J) ∧ PF 0 I I1 ∧ I1 49 44 = nn (MXc (maF F A) (sz F) 0 (Fr0 A)) ∧ ∀ q, q < sz F → I1 523 q = ohI (LXc (maF F A) (sz F) 0 (Fr0 A) q) := by
  have h8 := WF.1
  have f1 : PF 0 I (up2 I 49 44 (-1)) := (PF.refl 0 I).u44
  have fr : FrT (pls A) 0 = Fr0 A := by
    funext i
    unfold FrT Fr0
    rw [Nat.zero_testBit]
    simp
  obtain ⟨I2, e2, f2, B2⟩ := m_car (J := J) S WF WA 12 (sz F) (by omega) 0 0 (fun _ => none) 0 (0, fun _ => none) _ (by omega) (Nat.two_pow_pos _) (Nat.le_refl _) (f1.fm HF h8) (f1.rw HA) (fun q hq => absurd hq (Nat.not_lt_zero _)) ⟨by rw [up2_s]; rfl, fun h => absurd h (by decide), by decide⟩
  rw [fr, dfs_s, if_pos (Nat.zero_le _)] at B2
  obtain ⟨b1, b2, -⟩ := B2
  have e2 : F_X12_carriesFrom 12 49 0 0 0 (st w (up2 I 49 44 (-1)) J) = some (.inl (), st w I2 J) := e2
  refine ⟨I2, ?_, f1.trans f2, ?_, fun q hq => ?_⟩
  · rw [f_X12_laysPapers, bd_st (w_49_44 S), bd_st ((v_49 S).trans e2)]
    rfl
  · rw [b1]
    show nn (0 + MXc (maF F A) (sz F) 0 (Fr0 A) + 1) - 1 = _
    rw [nn_pred (by omega), Nat.add_sub_cancel, Nat.zero_add]
  · rw [b2 (by show 1 ≤ 0 + MXc (maF F A) (sz F) 0 (Fr0 A) + 1; omega) q hq]
    show ohI (if q < 0 then none else LXc (maF F A) (sz F) 0 (Fr0 A) q) = _
    rw [if_neg (Nat.not_lt_zero _)]
end MPAP
