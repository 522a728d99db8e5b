/-! PURE PART: rings, both sides in step -/
def dg (r : Nat → Nat) (k : Nat) : Int32 := lp (fun i (x : Int32) => x * 10 + nn (r i)) k 0 0
theorem dg_s (r : Nat → Nat) (k : Nat) : dg r (k + 1) = dg r k * 10 + nn (r k) := by
  unfold dg
  rw [lp_end, Nat.zero_add]
theorem dg_c {r r' : Nat → Nat} {k : Nat} (h : ∀ j, j < k → r j = r' j) : dg r k = dg r' k := by
  unfold dg
  exact lp_congr fun j y _ hj => by rw [h j (by omega)]
/-- the model's two numbers of rings alone change -/
def AgR (I I' : Is) : Prop := Ag [49] I I' ∧ ∀ k, k ≠ 39 → k ≠ 40 → I' 49 k = I 49 k
theorem AgR.refl (I : Is) : AgR I I := ⟨Ag.refl _ _, fun _ _ _ => rfl⟩
theorem AgR.trans {I I' I'' : Is} (h : AgR I I') (h' : AgR I' I'') : AgR I I'' := ⟨h.1.trans h'.1, fun k h1 h2 => (h'.2 k h1 h2).trans (h.2 k h1 h2)⟩
theorem AgR.up {I I' : Is} {k : Nat} {v : Int32} (h : AgR I I') (hk : k = 39 ∨ k = 40) : AgR I (up2 I' 49 k v) := ⟨h.1.up (by decide), fun j h1 h2 => by rw [up2_k (by omega)]; exact h.2 j h1 h2⟩
theorem AgR.agm {I I' : Is} (h : AgR I I') : AgM I I' := ⟨h.1.mono (by decide), fun k hk => h.2 k (fun e => by subst e; exact absurd hk (by decide)) (fun e => by subst e; exact absurd hk (by decide))⟩
section RING
variable {w : Wd} {I I' : Is} {J J' : Js} {F : Fo} {D : Dt}
theorem c_closeDg (S : Sw w) {n : Nat} (hn : n ≤ 5) {r : Nat → Nat} (hr : ∀ j, j < n → I 32 j = nn (r j)) (h0 : I 30 5 = 0) : ∃ I1, f_X7_closeRing_b44 NF 30 (nn n) 0 (st w I J) = some (.inl (), st w I1 J) ∧ Ag [30] I I1 ∧ I1 30 4 = I 30 4 ∧ I1 30 5 = dg r n := by
  refine loopQ (fun N i (I1 : Is) => f_X7_closeRing_b44 N 30 (nn n) (nn i) (st w I1 J)) n (fun i I1 => Ag [30] I I1 ∧ I1 30 4 = I 30 4 ∧ I1 30 5 = dg r i) (fun z => ∃ I1, z = some (.inl (), st w I1 J) ∧ Ag [30] I I1 ∧ I1 30 4 = I 30 4 ∧ I1 30 5 = dg r n) ?_ ?_ n 0 I NF (by omega) (NF_gt (by omega)) ⟨Ag.refl _ _, rfl, h0⟩
  · intro N i I1 hi ⟨a1, h4, h5⟩
    left
    have hq : ¬ nn n ≤ nn i := by rw [nn_le (by omega) (by omega)]; omega
    have l := l_32 (I := I1) (J := J) (k := i) S (by omega)
    rw [a1.at i (by decide), hr i hi] at l
    refine ⟨up2 I1 30 5 (dg r i * 10 + nn (r i)), ?_, a1.up (by decide), ?_, ?_⟩
    · show f_X7_closeRing_b44 (N + 1) 30 (nn n) (nn i) (st w I1 J) = _
      rw [f_X7_closeRing_b44, if_neg hq, bd_st (i_30_5 S), bd_st (r_30_3 S), bd_st l, h5, bd_st (w_30_5 S), nn_succ]
    · rw [up2_k (by decide)]; exact h4
    · rw [up2_s, dg_s]
  · intro N I1 ⟨a1, h4, h5⟩
    refine ⟨I1, ?_, a1, h4, h5⟩
    show f_X7_closeRing_b44 (N + 1) 30 (nn n) (nn n) (st w I1 J) = _
    rw [f_X7_closeRing_b44, if_pos (Int32.le_refl _)]
    rfl
theorem add1 {x : Int32} : (x + 1 = 1) = (x = 0) := by
  apply propext
  constructor
  · intro h
    have : x + 1 - 1 = 0 := by rw [h]; rfl
    rwa [Int32.add_sub_cancel] at this
  · intro h; rw [h]; rfl
def RiO (w : Wd) (J J' : Js) (f : Nat) (I I' : Is) (r r' : Option ((Unit ⊕ (Nat × Nat)) × PS)) : Prop := ∃ I1 I2, r = some (.inl (), st w I1 J) ∧ r' = some (.inl (), st w I2 J') ∧ Ag [30, 32] I I1 ∧ (∀ j, j < f → I1 32 j = I 32 j) ∧ AgR I' I2 ∧ I1 30 4 = I2 49 39 ∧ I1 30 5 = I2 49 40
theorem rings_rec (S : Sw w) (h8 : sz F ≤ 8) {c : Nat → Int32} {n : Nat} (hn : 2 ≤ n ∧ n ≤ 5) : ∀ left f D1 D2 used (r : Nat → Nat) (I I' : Is), f + left = n → 1 ≤ f → left < D1 → left < D2 → FoC I F → FoM I' F → (∀ b, b < sz F → I 31 b = c b) → (∀ b, b < sz F → I' 520 b = c b) → (∀ j, j < f → I 32 j = nn (r j) ∧ r j < sz F) → I 30 4 = I' 49 39 → I 30 5 = I' 49 40 → RiO w J J' f I I' (F_X7_lengthen D1 30 (nn n) (nn f) used (st w I J)) (F_X12_rings D2 49 (nn (r 0)) (nn (r (f - 1))) used (nn left) (dg r f) (st w I' J')) := by
  intro left
  induction left with
  | zero =>
    intro f D1 D2 used r I I' hfl hf hD1 hD2 HF MF hc hm hr h4 h5
    obtain ⟨D1, rfl⟩ : ∃ D, D1 = D + 1 := ⟨D1 - 1, by omega⟩
    obtain ⟨D2, rfl⟩ : ∃ D, D2 = D + 1 := ⟨D2 - 1, by omega⟩
    have fn : f = n := by omega
    subst fn
    have r0 := hr 0 (by omega)
    have r1 := hr (f - 1) (by omega)
    have x1 : ¬ nn f < 1 := by rw [show (1 : Int32) = nn 1 from rfl, nn_lt (by omega) (by omega)]; omega
    have x2 : nn f ≤ 5 := by rw [show (5 : Int32) = nn 5 from rfl, nn_le (by omega) (by omega)]; omega
    have x3 : ¬ nn f < nn f := fun q => Int32.lt_irrefl q
    have l1 := l_32 (I := I) (J := J) (k := f - 1) S (by omega)
    rw [r1.1] at l1
    have l2 := l_32_0 (I := I) (J := J) S
    rw [r0.1] at l2
    have l3 := l_31 (I := I) (J := J) (k := r 0) S (by omega)
    rw [hc _ r0.2] at l3
    have l4 := l_520 (I := I') (J := J') (k := r 0) S (by omega)
    rw [hm _ r0.2] at l4
    have eC : F_X7_lengthen (D1 + 1) 30 (nn f) (nn f) used (st w I J) = bd (cv 7 30 (f_X7_closeRing 30 (nn f) (nn (r (f - 1))))) (fun _ => pu ()) (st w I J) := by
      rw [F_X7_lengthen, f_X7_lengthen, if_neg x1, if_pos x2, bd_st (r_30_3 S), nn_pred hf, bd_st l1, if_neg x3]
    have eM : F_X12_rings (D2 + 1) 49 (nn (r 0)) (nn (r (f - 1))) used (nn 0) (dg r f) (st w I' J') = (if (bI (bit (c (r 0)) (r (f - 1))) = 0 : Prop) then (pu ()) else bd (gI 12 39 49) fun v11 => if (v11 = 0 : Prop) then (f_X12_rings_b36 (F_X12_rings D2) 49 (dg r f) 49) else bd (gI 12 40 49) fun v12 => f_X12_rings_b36 (F_X12_rings D2) 49 v12 49) (st w I' J') := by
      rw [F_X12_rings, f_X12_rings, if_pos (show nn 0 = 0 from rfl), bd_st (r_49_38 S), bd_st l4, bd_st m_has]
    rw [eC, eM]
    by_cases hb : bit (c (r 0)) (r (f - 1))
    · have hb0 : ¬ ((c (r 0) >>> (nn (r (f - 1)) &&& 31)) &&& 1) = 0 := fun q => bit0.2 q hb
      rw [bI_t hb, if_neg (by decide), bd_st (i_49_39 S)]
      by_cases hz : I' 49 39 = 0
      · have w1 : w.1 = w.1 := rfl
        have hz' : I 30 4 + 1 = 1 := by rw [h4, hz]; rfl
        obtain ⟨I1, e1, a1, k4, k5⟩ := c_closeDg (J := J) (I := up2 (up2 I 30 4 1) 30 5 0) S hn.2 (r := r) (fun j hj => by rw [up2_a (by decide), up2_a (by decide)]; exact (hr j hj).1) up2_s
        refine ⟨I1, up2 (up2 I' 49 40 (dg r f)) 49 39 1, ?_, ?_, ?_, ?_, ?_, ?_, ?_⟩
        · have e9 : f_X7_closeRing 30 (nn f) (nn (r (f - 1))) (st w I J) = some (.inl (), st w I1 J) := by
            rw [f_X7_closeRing, bd_st (r_30_2 S), bd_st (r_30_3 S), bd_st l2, bd_st l3, if_neg hb0, bd_st (i_30_4 S), hz', bd_st (w_30_4 S), bd_st (i_30_4 S), up2_s, if_pos rfl, bd_st (w_30_5 S)]
            exact e1
          rw [bd_st ((v_30 S).trans e9)]
          rfl
        · rw [if_pos hz, f_X12_rings_b36, bd_st (w_49_40 S), bd_st (i_49_39 S), up2_k (by decide), hz, bd_st (w_49_39 S)]
          rfl
        · exact (((Ag.refl _ _).up (by decide)).up (by decide)).trans (a1.mono (by decide))
        · intro j hj
          rw [a1.at j (by decide), up2_a (by decide), up2_a (by decide)]
        · exact ((AgR.refl _).up (Or.inr rfl)).up (Or.inl rfl)
        · rw [k4, up2_k (by decide), up2_s, up2_s]
        · rw [k5, up2_k (by decide), up2_s]
      · have hz' : ¬ I 30 4 + 1 = 1 := by rw [add1, h4]; exact hz
        refine ⟨up2 I 30 4 (I 30 4 + 1), up2 (up2 I' 49 40 (I' 49 40)) 49 39 (I' 49 39 + 1), ?_, ?_, ?_, ?_, ?_, ?_, ?_⟩
        · have e9 : f_X7_closeRing 30 (nn f) (nn (r (f - 1))) (st w I J) = some (.inl (), st w (up2 I 30 4 (I 30 4 + 1)) J) := by
            rw [f_X7_closeRing, bd_st (r_30_2 S), bd_st (r_30_3 S), bd_st l2, bd_st l3, if_neg hb0, bd_st (i_30_4 S), bd_st (w_30_4 S), bd_st (i_30_4 S), up2_s, if_neg hz']
            rfl
          rw [bd_st ((v_30 S).trans e9)]
          rfl
        · rw [if_neg hz, bd_st (i_49_40 S), f_X12_rings_b36, bd_st (w_49_40 S), bd_st (i_49_39 S), up2_k (by decide), bd_st (w_49_39 S)]
          rfl
        · exact (Ag.refl _ _).up (by decide)
        · intro j hj
          rw [up2_a (by decide)]
        · exact ((AgR.refl _).up (Or.inr rfl)).up (Or.inl rfl)
        · rw [up2_s, up2_s, h4]
        · rw [up2_k (by decide), up2_k (by decide), up2_s, h5]
    · rw [bI_f hb, if_pos rfl]
      refine ⟨I, I', ?_, rfl, Ag.refl _ _, fun _ _ => rfl, AgR.refl _, h4, h5⟩
      have e9 : f_X7_closeRing 30 (nn f) (nn (r (f - 1))) (st w I J) = some (.inl (), st w I J) := by
        rw [f_X7_closeRing, bd_st (r_30_2 S), bd_st (r_30_3 S), bd_st l2, bd_st l3, if_pos (bit0.1 hb)]
        rfl
      rw [bd_st ((v_30 S).trans e9)]
      rfl
  | succ left ih =>
    intro f D1 D2 used r I I' hfl hf hD1 hD2 HF MF hc hm hr h4 h5
    obtain ⟨D1, rfl⟩ : ∃ D, D1 = D + 1 := ⟨D1 - 1, by omega⟩
    obtain ⟨D2, rfl⟩ : ∃ D, D2 = D + 1 := ⟨D2 - 1, by omega⟩
    have r0 := hr 0 (by omega)
    have r1 := hr (f - 1) (by omega)
    have x1 : ¬ nn f < 1 := by rw [show (1 : Int32) = nn 1 from rfl, nn_lt (by omega) (by omega)]; omega
    have x2 : nn f ≤ 5 := by rw [show (5 : Int32) = nn 5 from rfl, nn_le (by omega) (by omega)]; omega
    have x3 : nn f < nn n := by rw [nn_lt (by omega) (by omega)]; omega
    have l1 := l_32 (I := I) (J := J) (k := f - 1) S (by omega)
    rw [r1.1] at l1
    have l2 := l_32_0 (I := I) (J := J) S
    rw [r0.1] at l2
    have eC : F_X7_lengthen (D1 + 1) 30 (nn n) (nn f) used (st w I J) = f_X7_lengthen_b44 (F_X7_lengthen D1) NF 30 (nn n) (nn f) used (nn (r (f - 1))) (nn (r 0 + 1)) (st w I J) := by
      rw [F_X7_lengthen, f_X7_lengthen, if_neg x1, if_pos x2, bd_st (r_30_3 S), nn_pred hf, bd_st l1, if_pos x3, bd_st (r_30_3 S), bd_st l2, nn_succ]
    have eM : F_X12_rings (D2 + 1) 49 (nn (r 0)) (nn (r (f - 1))) used (nn (left + 1)) (dg r f) (st w I' J') = f_X12_rings_b55 (F_X12_rings D2) NF 49 (nn (r 0)) (nn (r (f - 1))) used (nn (left + 1)) (dg r f) (nn (r 0 + 1)) (st w I' J') := by
      rw [F_X12_rings, f_X12_rings, if_neg (by rw [show (0 : Int32) = nn 0 from rfl, nn_eq (by omega) (by omega)]; omega), nn_succ]
    rw [eC, eM]
    refine loop2 (fun N i (I1 : Is) => f_X7_lengthen_b44 (F_X7_lengthen D1) N 30 (nn n) (nn f) used (nn (r (f - 1))) (nn i) (st w I1 J)) (fun N i (I2 : Is) => f_X12_rings_b55 (F_X12_rings D2) N 49 (nn (r 0)) (nn (r (f - 1))) used (nn (left + 1)) (dg r f) (nn i) (st w I2 J')) (sz F) (fun _ I1 I2 => Ag [30, 32] I I1 ∧ (∀ j, j < f → I1 32 j = I 32 j) ∧ AgR I' I2 ∧ I1 30 4 = I2 49 39 ∧ I1 30 5 = I2 49 40) (RiO w J J' f I I') ?_ ?_ (sz F - (r 0 + 1)) (r 0 + 1) I I' NF (by have := r0.2; omega) (NF_gt (by omega)) ⟨Ag.refl _ _, fun _ _ => rfl, AgR.refl _, h4, h5⟩
    · intro N p I1 I2 hp ⟨a1, b1, a2, k4, k5⟩
      left
      have HF1 := HF.ag a1 (by decide)
      have MF2 := MF.ag h8 a2.1 (by decide)
      have s1 := i_3_4 (I := I1) (J := J) S
      rw [fc_sz HF1] at s1
      have s2 := l_53_0 (I := I2) (J := J') S
      rw [fm_sz MF2] at s2
      have hq : ¬ nn (sz F) ≤ nn p := by rw [nn_le (by omega) (by omega)]; omega
      have c1 := l_31 (I := I1) (J := J) (k := p) S (by omega)
      rw [a1.at p (by decide), hc p hp] at c1
      have c2 := l_520 (I := I2) (J := J') (k := p) S (by omega)
      rw [a2.1.at p (by decide), hm p hp] at c2
      by_cases hu : bit used p
      · have hu0 : ¬ ((used >>> (nn p &&& 31)) &&& 1) = 0 := fun q => bit0.2 q hu
        refine ⟨I1, I2, ?_, ?_, a1, b1, a2, k4, k5⟩
        · show f_X7_lengthen_b44 (F_X7_lengthen D1) (N + 1) 30 (nn n) (nn f) used (nn (r (f - 1))) (nn p) (st w I1 J) = _
          rw [f_X7_lengthen_b44, bd_st (r_30_1 S), bd_st s1, if_neg hq, if_neg hu0, f_X7_lengthen_b103, nn_succ]
        · show f_X12_rings_b55 (F_X12_rings D2) (N + 1) 49 (nn (r 0)) (nn (r (f - 1))) used (nn (left + 1)) (dg r f) (nn p) (st w I2 J') = _
          rw [f_X12_rings_b55, bd_st (r_49_12 S), bd_st s2, if_neg hq, bd_st m_has, bI_t hu, if_neg (by decide), f_X12_rings_b114, nn_succ]
      · have hu0 := bit0.1 hu
        by_cases hl : bit (c p) (r (f - 1))
        · have hrow : ∀ j, j < f + 1 → up2 I1 32 f (nn p) 32 j = nn (up1 r f p j) ∧ up1 r f p j < sz F := by
            intro j hj
            by_cases e : j = f
            · rw [e, up2_s, up1_s]; exact ⟨rfl, hp⟩
            · rw [up2_k e, up1_n e, b1 j (by omega)]; exact hr j (by omega)
          obtain ⟨I3, I4, e3, e4, a3, b3, a4, m4, m5⟩ := ih (f + 1) D1 D2 (used ||| ((1 : Int32) <<< (nn p &&& 31))) (up1 r f p) (up2 I1 32 f (nn p)) I2 (by omega) (by omega) (by omega) (by omega) (HF1.ag ((Ag.refl [32] _).up (by decide)) (by decide)) MF2 (fun b hb => by rw [up2_a (by decide), a1.at b (by decide)]; exact hc b hb) (fun b hb => by rw [a2.1.at b (by decide)]; exact hm b hb) hrow (by rw [up2_a (by decide)]; exact k4) (by rw [up2_a (by decide)]; exact k5)
          have u0 : up1 r f p 0 = r 0 := up1_n (by omega)
          have u1 : up1 r f p (f + 1 - 1) = p := by rw [Nat.add_sub_cancel]; exact up1_s
          have u2 : dg (up1 r f p) (f + 1) = 10 * dg r f + nn p := by
            rw [dg_s, up1_s, Int32.mul_comm, dg_c (r' := r) (fun j hj => up1_n (by omega))]
          rw [u0, u1, u2] at e4
          refine ⟨I3, I4, ?_, ?_, (a1.up (by decide)).trans a3, fun j hj => ?_, a2.trans a4, m4, m5⟩
          · show f_X7_lengthen_b44 (F_X7_lengthen D1) (N + 1) 30 (nn n) (nn f) used (nn (r (f - 1))) (nn p) (st w I1 J) = _
            rw [f_X7_lengthen_b44, bd_st (r_30_1 S), bd_st s1, if_neg hq, if_pos hu0, bd_st (r_30_2 S), bd_st c1, if_pos hl, bd_st (r_30_3 S), bd_st (s_32 S (by omega)), nn_succ, bd_st ((v_30 S).trans e3), f_X7_lengthen_b103, nn_succ]
          · show f_X12_rings_b55 (F_X12_rings D2) (N + 1) 49 (nn (r 0)) (nn (r (f - 1))) used (nn (left + 1)) (dg r f) (nn p) (st w I2 J') = _
            rw [f_X12_rings_b55, bd_st (r_49_12 S), bd_st s2, if_neg hq, bd_st m_has, bI_f hu, if_pos rfl, bd_st (r_49_38 S), bd_st c2, bd_st m_has, bI_t hl, if_neg (by decide), nn_pred (by omega), Nat.add_sub_cancel, bd_st ((v_49 S).trans e4), f_X12_rings_b114, nn_succ]
          · rw [b3 j (by omega), up2_k (by omega)]
            exact b1 j hj
        · refine ⟨I1, I2, ?_, ?_, a1, b1, a2, k4, k5⟩
          · show f_X7_lengthen_b44 (F_X7_lengthen D1) (N + 1) 30 (nn n) (nn f) used (nn (r (f - 1))) (nn p) (st w I1 J) = _
            rw [f_X7_lengthen_b44, bd_st (r_30_1 S), bd_st s1, if_neg hq, if_pos hu0, bd_st (r_30_2 S), bd_st c1, if_neg hl, f_X7_lengthen_b103, nn_succ]
          · show f_X12_rings_b55 (F_X12_rings D2) (N + 1) 49 (nn (r 0)) (nn (r (f - 1))) used (nn (left + 1)) (dg r f) (nn p) (st w I2 J') = _
            rw [f_X12_rings_b55, bd_st (r_49_12 S), bd_st s2, if_neg hq, bd_st m_has, bI_f hu, if_pos rfl, bd_st (r_49_38 S), bd_st c2, bd_st m_has, bI_f hl, if_pos rfl, f_X12_rings_b114, nn_succ]
    · intro N I1 I2 ⟨a1, b1, a2, k4, k5⟩
      have HF1 := HF.ag a1 (by decide)
      have MF2 := MF.ag h8 a2.1 (by decide)
      have s1 := i_3_4 (I := I1) (J := J) S
      rw [fc_sz HF1] at s1
      have s2 := l_53_0 (I := I2) (J := J') S
      rw [fm_sz MF2] at s2
      refine ⟨I1, I2, ?_, ?_, a1, b1, a2, k4, k5⟩
      · show f_X7_lengthen_b44 (F_X7_lengthen D1) (N + 1) 30 (nn n) (nn f) used (nn (r (f - 1))) (nn (sz F)) (st w I1 J) = _
        rw [f_X7_lengthen_b44, bd_st (r_30_1 S), bd_st s1, if_pos (Int32.le_refl _)]
        rfl
      · show f_X12_rings_b55 (F_X12_rings D2) (N + 1) 49 (nn (r 0)) (nn (r (f - 1))) used (nn (left + 1)) (dg r f) (nn (sz F)) (st w I2 J') = _
        rw [f_X12_rings_b55, bd_st (r_49_12 S), bd_st s2, if_pos (Int32.le_refl _)]
        rfl
/-- all rings, from each first person on -/
theorem b_ring (S : Sw w) (W : WD D) {n k : Nat} (hn : 2 ≤ n ∧ n < 6) (hk : k < 2) : ∀ I I' J J', RC w I J D → RM I' D → I' 49 0 = 0 → ∃ v I1 I2 I3, f_X7_look 30 43 (st w I J) = some (.inl (), st w I1 J) ∧ f_X7_seekRings 30 (nn n) (st w I1 J) = some (.inl (), st w I3 J) ∧ (if k = 0 then I3 30 4 else I3 30 5) = v ∧ Ag KC I I3 ∧ (bd (f_X12_laysCans 49) fun _ => f_X12_ring_b55 NF 49 (nn n) (nn k) 0) (st w (up2 (up2 I' 49 39 0) 49 40 (-1)) J') = some (.inl v, st w I2 J') ∧ AgM I' I2 := by
  intro I I' J J' HC HM H0
  have HCs := HC
  have HMs := HM
  obtain ⟨⟨HF, HA, HL, HW, HT, -⟩, -, -⟩ := HC
  obtain ⟨⟨MF, MA, ML, MW, MT, -⟩, -, -⟩ := HM
  have Ws := W
  obtain ⟨WF, ⟨WA, -, WB, -⟩, -, WL, WW, -⟩ := W
  have h8 := WF.1
  have h40 := WA.1
  have T := StS_43 S
  have U := RoS_497 S
  have q0 : (nn k = (0 : Int32)) = (k = 0) := nn_eq (b := 0) (by omega) (by omega)
  have a00 : AgM I' (up2 (up2 I' 49 39 0) 49 40 (-1)) := ((AgM.refl _).up (by decide) (Or.inr (by decide))).up (by decide) (Or.inr (by decide))
  have HM0 := HMs.agm Ws a00
  obtain ⟨⟨MF0, MA0, ML0, -⟩, -, -⟩ := HM0
  obtain ⟨I1, e1, a1, h1⟩ := c_look (J := J) S HF h8 HA HL WL
  obtain ⟨I2, e2, a2, h2⟩ := m_lays (J := J') S MF0 WF MA0 ML0 WL
  have HF1 := HF.ag a1 (by decide)
  have MF2 := MF0.ag h8 a2 (by decide)
  have v39 : I2 49 39 = 0 := by rw [a2.at 39 (by decide), up2_k (by decide), up2_s]
  have v40 : I2 49 40 = -1 := by rw [a2.at 40 (by decide), up2_s]
  have main : ∃ I3 I4, f_X7_seekRings 30 (nn n) (st w I1 J) = some (.inl (), st w I3 J) ∧ f_X12_ring_b55 NF 49 (nn n) (nn k) 0 (st w I2 J') = some (.inl (if k = 0 then I3 30 4 else I3 30 5), st w I4 J') ∧ Ag [30, 32] I1 I3 ∧ AgR I2 I4 := by
    unfold f_X7_seekRings
    rw [bd_st (w_30_4 S), bd_st (w_30_5 S)]
    refine loop2 (fun N i (I3 : Is) => f_X7_seekRings_b12 N 30 (nn n) (nn i) (st w I3 J)) (fun N i (I4 : Is) => f_X12_ring_b55 N 49 (nn n) (nn k) (nn i) (st w I4 J')) (sz (dF D)) (fun _ I3 I4 => Ag [30, 32] I1 I3 ∧ AgR I2 I4 ∧ I3 30 4 = I4 49 39 ∧ I3 30 5 = I4 49 40) (fun r r' => ∃ I3 I4, r = some (.inl (), st w I3 J) ∧ r' = some (.inl (if k = 0 then I3 30 4 else I3 30 5), st w I4 J') ∧ Ag [30, 32] I1 I3 ∧ AgR I2 I4) ?_ ?_ (sz (dF D)) 0 _ I2 NF (by omega) (NF_gt (by omega)) ⟨((Ag.refl _ _).up (by decide)).up (by decide), AgR.refl _, by rw [up2_k (by decide), up2_s, v39], by rw [up2_s, v40]⟩
    · intro N p I3 I4 hp ⟨a3, a4, k4, k5⟩
      left
      have HF3 := HF1.ag a3 (by decide)
      have MF4 := MF2.ag h8 a4.1 (by decide)
      have s1 := i_3_4 (I := I3) (J := J) S
      rw [fc_sz HF3] at s1
      have s2 := l_53_0 (I := I4) (J := J') S
      rw [fm_sz MF4] at s2
      have hq : ¬ nn (sz (dF D)) ≤ nn p := by rw [nn_le (by omega) (by omega)]; omega
      obtain ⟨I5, I6, e5, e6, a5, b5, a6, m4, m5⟩ := rings_rec (J := J) (J' := J') S h8 (c := canB (dF D) (dL D) (dA D)) (n := n) ⟨hn.1, by omega⟩ (n - 1) 1 12 12 ((1 : Int32) <<< (nn p &&& 31)) (fun _ => p) (up2 I3 32 0 (nn p)) I4 (by omega) (by omega) (by omega) (by omega) (HF3.ag ((Ag.refl [32] _).up (by decide)) (by decide)) MF4 (fun b hb => by rw [up2_a (by decide), a3.at b (by decide)]; exact h1 b hb) (fun b hb => by rw [a4.1.at b (by decide)]; exact h2 b hb) (fun j hj => by rw [show j = 0 by omega, up2_s]; exact ⟨rfl, hp⟩) (by rw [up2_a (by decide)]; exact k4) (by rw [up2_a (by decide)]; exact k5)
      have d1 : dg (fun _ => p) 1 = nn p := by
        rw [dg_s]
        show (0 : Int32) * 10 + nn p = nn p
        rw [Int32.zero_mul, Int32.zero_add]
      rw [d1] at e6
      have e5 : F_X7_lengthen 12 30 (nn n) 1 ((1 : Int32) <<< (nn p &&& 31)) (st w (up2 I3 32 0 (nn p)) J) = some (.inl (), st w I5 J) := e5
      refine ⟨I5, I6, ?_, ?_, (a3.up (by decide)).trans a5, a4.trans a6, m4, m5⟩
      · show f_X7_seekRings_b12 (N + 1) 30 (nn n) (nn p) (st w I3 J) = _
        rw [f_X7_seekRings_b12, bd_st (r_30_1 S), bd_st s1, if_neg hq, bd_st (r_30_3 S), bd_st (s_32_0 S), bd_st ((v_30 S).trans e5), nn_succ]
      · show f_X12_ring_b55 (N + 1) 49 (nn n) (nn k) (nn p) (st w I4 J') = _
        rw [f_X12_ring_b55, bd_st (r_49_12 S), bd_st s2, if_neg hq, nn_pred (by omega), bd_st ((v_49 S).trans e6), nn_succ]
    · intro N I3 I4 ⟨a3, a4, k4, k5⟩
      have HF3 := HF1.ag a3 (by decide)
      have MF4 := MF2.ag h8 a4.1 (by decide)
      have s1 := i_3_4 (I := I3) (J := J) S
      rw [fc_sz HF3] at s1
      have s2 := l_53_0 (I := I4) (J := J') S
      rw [fm_sz MF4] at s2
      refine ⟨I3, I4, ?_, ?_, a3, a4⟩
      · show f_X7_seekRings_b12 (N + 1) 30 (nn n) (nn (sz (dF D))) (st w I3 J) = _
        rw [f_X7_seekRings_b12, bd_st (r_30_1 S), bd_st s1, if_pos (Int32.le_refl _)]
        rfl
      · show f_X12_ring_b55 (N + 1) 49 (nn n) (nn k) (nn (sz (dF D))) (st w I4 J') = _
        rw [f_X12_ring_b55, bd_st (r_49_12 S), bd_st s2, if_pos (Int32.le_refl _)]
        by_cases k0 : k = 0
        · rw [if_pos (by rw [q0]; exact k0), if_pos k0, bd_st (i_49_39 S), k4]
          rfl
        · rw [if_neg (by rw [q0]; exact k0), if_neg k0, bd_st (i_49_40 S), k5]
          rfl
  obtain ⟨I3, I4, e3, e4, a3, a4⟩ := main
  refine ⟨_, I1, I4, I3, e1, e3, rfl, (a1.mono (by decide)).trans (a3.mono (by decide)), ?_, a00.trans ((AgM.of a2 (by decide) (by decide)).trans a4.agm)⟩
  rw [bd_st e2]
  exact e4
theorem g_ring (S : Sw w) (hr : Rm w) (HC : RC w I J D) (HM : RM I D) (W : WD D) (x1 x2 : Int32) : Call w I J 1 (f_X11_ring 0 x1 x2) (f_X12_ring 49 x1 x2) := by
  have hz : ¬ (1 : Int32) = 0 := by decide
  have S' := tw_Sw S 14
  by_cases h1 : inY 2 6 x1
  rotate_left
  · refine Or.inr (Or.inr ⟨?_, fun J' => ⟨0, ?_⟩⟩)
    · by_cases q : x1 < 2
      · simp (disch := omega) only [bd_eq, pu_ap, if_true, if_false, not_true_eq_false, not_false_eq_true, eq_self, v_0 S, r_0_0 S, r_0_1 S, r_0_2 S, r_0_3 S, r_0_4 S, r_0_5 S, r_0_6 S, r_0_7 S, r_0_8 S, r_0_9 S, r_0_10 S, r_0_11 S, r_0_12 S, n_0_13 S, i_0_14 S, i_0_15 S, i_0_16 S, i_0_17 S, v_1 S, r_1_0 S, i_1_1 S, i_1_2 S, i_1_3 S, i_1_4 S, i_1_5 S, i_1_6 S, v_3 S, r_3_0 S, r_3_1 S, r_3_2 S, r_3_3 S, i_3_4 S, i_3_5 S, v_8 S, r_8_0 S, r_8_1 S, r_8_2 S, r_8_3 S, i_8_4 S, i_8_5 S, v_13 S, r_13_0 S, r_13_1 S, i_13_2 S, v_16 S, r_16_0 S, r_16_1 S, i_16_2 S, v_19 S, r_19_0 S, r_19_1 S, r_19_2 S, r_19_3 S, i_19_4 S, i_19_5 S, i_19_6 S, i_19_7 S, v_24 S, r_24_0 S, r_24_1 S, r_24_2 S, r_24_3 S, i_24_4 S, j_24_5 S, v_28 S, r_28_0 S, r_28_1 S, r_28_2 S, v_30 S, r_30_0 S, r_30_1 S, r_30_2 S, r_30_3 S, i_30_4 S, i_30_5 S, v_33 S, r_33_0 S, r_33_1 S, r_33_2 S, r_33_3 S, i_33_4 S, i_33_5 S, v_37 S, r_37_0 S, r_37_1 S, i_37_2 S, i_37_3 S, i_37_4 S, f_X11_ring, f_X11_ring_b15, f_X11_ring_b16, q, n_argF S hr]
      · have h2' : (5 : Int32) < x1 := lt_pred (hi := 6) (by decide) (by decide) x1 ((inY_no (by decide) (by decide) h1).resolve_left q)
        simp (disch := omega) only [bd_eq, pu_ap, if_true, if_false, not_true_eq_false, not_false_eq_true, eq_self, v_0 S, r_0_0 S, r_0_1 S, r_0_2 S, r_0_3 S, r_0_4 S, r_0_5 S, r_0_6 S, r_0_7 S, r_0_8 S, r_0_9 S, r_0_10 S, r_0_11 S, r_0_12 S, n_0_13 S, i_0_14 S, i_0_15 S, i_0_16 S, i_0_17 S, v_1 S, r_1_0 S, i_1_1 S, i_1_2 S, i_1_3 S, i_1_4 S, i_1_5 S, i_1_6 S, v_3 S, r_3_0 S, r_3_1 S, r_3_2 S, r_3_3 S, i_3_4 S, i_3_5 S, v_8 S, r_8_0 S, r_8_1 S, r_8_2 S, r_8_3 S, i_8_4 S, i_8_5 S, v_13 S, r_13_0 S, r_13_1 S, i_13_2 S, v_16 S, r_16_0 S, r_16_1 S, i_16_2 S, v_19 S, r_19_0 S, r_19_1 S, r_19_2 S, r_19_3 S, i_19_4 S, i_19_5 S, i_19_6 S, i_19_7 S, v_24 S, r_24_0 S, r_24_1 S, r_24_2 S, r_24_3 S, i_24_4 S, j_24_5 S, v_28 S, r_28_0 S, r_28_1 S, r_28_2 S, v_30 S, r_30_0 S, r_30_1 S, r_30_2 S, r_30_3 S, i_30_4 S, i_30_5 S, v_33 S, r_33_0 S, r_33_1 S, r_33_2 S, r_33_3 S, i_33_4 S, i_33_5 S, v_37 S, r_37_0 S, r_37_1 S, i_37_2 S, i_37_3 S, i_37_4 S, f_X11_ring, f_X11_ring_b15, f_X11_ring_b16, q, h2', n_argF S hr]
    · rw [f_X12_ring, bd_st (w_49_0 S'), bd_st (my_no (lo := 2) (hi := 6) (a := 2) (b := 5) rfl rfl (by decide) (by decide) (by decide) h1), if_pos rfl, f_X12_ring_b24, f_X12_ring_b29, bd_st ((v_49 S').trans (bad14 S HM W J')), if_neg hz]
      rfl
  obtain ⟨n, hn, rfl⟩ := h1
  have m1 : ¬ nn n < 2 := by rw [show (2 : Int32) = nn 2 from rfl, nn_lt (by omega) (by omega)]; omega
  have m2 : ¬ (5 : Int32) < nn n := by rw [show (5 : Int32) = nn 5 from rfl, nn_lt (by omega) (by omega)]; omega
  by_cases h2 : inP 2 x2
  rotate_left
  · refine Or.inr (Or.inr ⟨?_, fun J' => ⟨0, ?_⟩⟩)
    · simp (disch := omega) only [bd_eq, pu_ap, if_true, if_false, not_true_eq_false, not_false_eq_true, eq_self, v_0 S, r_0_0 S, r_0_1 S, r_0_2 S, r_0_3 S, r_0_4 S, r_0_5 S, r_0_6 S, r_0_7 S, r_0_8 S, r_0_9 S, r_0_10 S, r_0_11 S, r_0_12 S, n_0_13 S, i_0_14 S, i_0_15 S, i_0_16 S, i_0_17 S, v_1 S, r_1_0 S, i_1_1 S, i_1_2 S, i_1_3 S, i_1_4 S, i_1_5 S, i_1_6 S, v_3 S, r_3_0 S, r_3_1 S, r_3_2 S, r_3_3 S, i_3_4 S, i_3_5 S, v_8 S, r_8_0 S, r_8_1 S, r_8_2 S, r_8_3 S, i_8_4 S, i_8_5 S, v_13 S, r_13_0 S, r_13_1 S, i_13_2 S, v_16 S, r_16_0 S, r_16_1 S, i_16_2 S, v_19 S, r_19_0 S, r_19_1 S, r_19_2 S, r_19_3 S, i_19_4 S, i_19_5 S, i_19_6 S, i_19_7 S, v_24 S, r_24_0 S, r_24_1 S, r_24_2 S, r_24_3 S, i_24_4 S, j_24_5 S, v_28 S, r_28_0 S, r_28_1 S, r_28_2 S, v_30 S, r_30_0 S, r_30_1 S, r_30_2 S, r_30_3 S, i_30_4 S, i_30_5 S, v_33 S, r_33_0 S, r_33_1 S, r_33_2 S, r_33_3 S, i_33_4 S, i_33_5 S, v_37 S, r_37_0 S, r_37_1 S, i_37_2 S, i_37_3 S, i_37_4 S, f_X11_ring, f_X11_ring_b16, m1, m2, n_argT, cr_no S hr (b := 1) (m := 2) rfl (by decide) h2]
    · rw [f_X12_ring, bd_st (w_49_0 S'), bd_st (my_ok (lo := 2) (hi := 6) (a := 2) (b := 5) rfl rfl hn (by decide)), if_neg hz, bd_st (mb_no (b := 1) (m := 2) rfl (by decide) h2), if_pos rfl, f_X12_ring_b24, f_X12_ring_b29, bd_st ((v_49 S').trans (bad14 S HM W J')), if_neg hz]
      rfl
  obtain ⟨k, hk, rfl⟩ := h2
  refine Or.inl (Bod.call HC HM W ?_)
  clear HM HC
  intro I I' J J' HC HM
  have HMx := HM.t0 (v := 0) W
  obtain ⟨v, I1, I2, I3, e1, e3, hv, a3, e2, a2⟩ := b_ring S W hn hk I (up2 I' 49 0 0) J J' HC HMx up2_s
  have t0 : up2 I' 49 0 0 49 0 = 0 := up2_s
  refine ⟨v, ⟨I3, ?_, a3⟩, I2, ?_, a2⟩
  · rcases (show k = 0 ∨ k = 1 by omega) with h | h <;> subst h
    · rw [if_pos rfl] at hv
      simp (disch := omega) only [bd_eq, pu_ap, if_true, if_false, not_true_eq_false, not_false_eq_true, eq_self, v_0 S, r_0_0 S, r_0_1 S, r_0_2 S, r_0_3 S, r_0_4 S, r_0_5 S, r_0_6 S, r_0_7 S, r_0_8 S, r_0_9 S, r_0_10 S, r_0_11 S, r_0_12 S, n_0_13 S, i_0_14 S, i_0_15 S, i_0_16 S, i_0_17 S, v_1 S, r_1_0 S, i_1_1 S, i_1_2 S, i_1_3 S, i_1_4 S, i_1_5 S, i_1_6 S, v_3 S, r_3_0 S, r_3_1 S, r_3_2 S, r_3_3 S, i_3_4 S, i_3_5 S, v_8 S, r_8_0 S, r_8_1 S, r_8_2 S, r_8_3 S, i_8_4 S, i_8_5 S, v_13 S, r_13_0 S, r_13_1 S, i_13_2 S, v_16 S, r_16_0 S, r_16_1 S, i_16_2 S, v_19 S, r_19_0 S, r_19_1 S, r_19_2 S, r_19_3 S, i_19_4 S, i_19_5 S, i_19_6 S, i_19_7 S, v_24 S, r_24_0 S, r_24_1 S, r_24_2 S, r_24_3 S, i_24_4 S, j_24_5 S, v_28 S, r_28_0 S, r_28_1 S, r_28_2 S, v_30 S, r_30_0 S, r_30_1 S, r_30_2 S, r_30_3 S, i_30_4 S, i_30_5 S, v_33 S, r_33_0 S, r_33_1 S, r_33_2 S, r_33_3 S, i_33_4 S, i_33_5 S, v_37 S, r_37_0 S, r_37_1 S, i_37_2 S, i_37_3 S, i_37_4 S, f_X11_ring, f_X11_ring_b16, m1, m2, n_argT, cr_ok S (b := 1) (m := 2) rfl (by decide) hk, e1, e3, show (nn 0 = (0 : Int32)) = True from by decide, hv]
    · rw [if_neg (by decide)] at hv
      simp (disch := omega) only [bd_eq, pu_ap, if_true, if_false, not_true_eq_false, not_false_eq_true, eq_self, v_0 S, r_0_0 S, r_0_1 S, r_0_2 S, r_0_3 S, r_0_4 S, r_0_5 S, r_0_6 S, r_0_7 S, r_0_8 S, r_0_9 S, r_0_10 S, r_0_11 S, r_0_12 S, n_0_13 S, i_0_14 S, i_0_15 S, i_0_16 S, i_0_17 S, v_1 S, r_1_0 S, i_1_1 S, i_1_2 S, i_1_3 S, i_1_4 S, i_1_5 S, i_1_6 S, v_3 S, r_3_0 S, r_3_1 S, r_3_2 S, r_3_3 S, i_3_4 S, i_3_5 S, v_8 S, r_8_0 S, r_8_1 S, r_8_2 S, r_8_3 S, i_8_4 S, i_8_5 S, v_13 S, r_13_0 S, r_13_1 S, i_13_2 S, v_16 S, r_16_0 S, r_16_1 S, i_16_2 S, v_19 S, r_19_0 S, r_19_1 S, r_19_2 S, r_19_3 S, i_19_4 S, i_19_5 S, i_19_6 S, i_19_7 S, v_24 S, r_24_0 S, r_24_1 S, r_24_2 S, r_24_3 S, i_24_4 S, j_24_5 S, v_28 S, r_28_0 S, r_28_1 S, r_28_2 S, v_30 S, r_30_0 S, r_30_1 S, r_30_2 S, r_30_3 S, i_30_4 S, i_30_5 S, v_33 S, r_33_0 S, r_33_1 S, r_33_2 S, r_33_3 S, i_33_4 S, i_33_5 S, v_37 S, r_37_0 S, r_37_1 S, i_37_2 S, i_37_3 S, i_37_4 S, f_X11_ring, f_X11_ring_b16, m1, m2, n_argT, cr_ok S (b := 1) (m := 2) rfl (by decide) hk, e1, e3, show (nn 1 = (0 : Int32)) = False from by decide, hv]
  · rw [f_X12_ring, bd_st (w_49_0 S), bd_st (my_ok (lo := 2) (hi := 6) (a := 2) (b := 5) rfl rfl hn (by decide)), if_neg hz, bd_st (mb_ok (b := 1) (m := 2) rfl (by decide) hk), if_neg hz, f_X12_ring_b29, bd_st ((v_49 S).trans (mb_0 S _ _ t0)), if_pos rfl, bd_st (w_49_39 S), bd_st (w_49_40 S)]
    rw [← e2]
    show bd (cv 12 49 (f_X12_laysCans 49)) _ _ = bd (f_X12_laysCans 49) _ _
    rw [bd_eq, bd_eq, v_49 S]
end RING
