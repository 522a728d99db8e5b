/-! PURE PART: the class gives the papers out -/
def pls (A : At) : Nat := min 8 (hg A)
def maF (F : Fo) (A : At) (p i : Nat) : Bool := decide (i < pls A ∧ alk F (nn (fa F p)) (nn (pF A i)))
def Fr0 (A : At) (i : Nat) : Bool := decide (i < pls A)
def ffR (g : Nat → Bool) : Nat → Nat → Option Nat
  | 0, _ => none
  | d + 1, i => if g i = true then some i else ffR g d (i + 1)
theorem ffR_s {g : Nat → Bool} {j : Nat} : ∀ d i, ffR g d i = some j → i ≤ j ∧ j < i + d ∧ g j = true ∧ ∀ k, i ≤ k → k < j → g k = false
  | 0, i, h => by cases h
  | d + 1, i, h => by
    unfold ffR at h
    by_cases q : g i = true
    · rw [if_pos q] at h
      cases h
      exact ⟨Nat.le_refl _, by omega, q, fun k k1 k2 => by omega⟩
    · rw [if_neg q] at h
      obtain ⟨h1, h2, h3, h4⟩ := ffR_s d (i + 1) h
      refine ⟨by omega, by omega, h3, fun k k1 k2 => ?_⟩
      by_cases e : k = i
      · rw [e]
        simpa using q
      · exact h4 k (by omega) k2
theorem ffR_n {g : Nat → Bool} : ∀ d i, ffR g d i = none → ∀ k, i ≤ k → k < i + d → g k = false
  | 0, i, _ => fun k k1 k2 => by omega
  | d + 1, i, h => by
    unfold ffR at h
    by_cases q : g i = true
    · rw [if_pos q] at h
      cases h
    · rw [if_neg q] at h
      intro k k1 k2
      by_cases e : k = i
      · rw [e]
        simpa using q
      · exact ffR_n d (i + 1) h k (by omega) (by omega)
def chO (ma : Nat → Nat → Bool) (d a : Nat) (Fr : Nat → Bool) : Option Nat := ffR (fun i => ma a i && Fr i && decide (1 + MXc ma d (a + 1) (rmF Fr i) = MXc ma (d + 1) a Fr)) 8 0
def nxFr (Fr : Nat → Bool) : Option Nat → Nat → Bool
  | none => Fr
  | some i => rmF Fr i
def LXc (ma : Nat → Nat → Bool) : Nat → Nat → (Nat → Bool) → Nat → Option Nat
  | 0, _, _, _ => none
  | d + 1, a, Fr, q => if q = a then chO ma d a Fr else LXc ma d (a + 1) (nxFr Fr (chO ma d a Fr)) q
theorem ch_none {ma : Nat → Nat → Bool} {d a : Nat} {Fr : Nat → Bool} (h : chO ma d a Fr = none) : MXc ma (d + 1) a Fr = MXc ma d (a + 1) Fr := by
  have hn := ffR_n 8 0 h
  have e : MXc ma (d + 1) a Fr = max (MXc ma d (a + 1) Fr) (mxO (fun i => ma a i && Fr i) (fun i => 1 + MXc ma d (a + 1) (rmF Fr i)) 8) := rfl
  rcases Nat.le_total (mxO (fun i => ma a i && Fr i) (fun i => 1 + MXc ma d (a + 1) (rmF Fr i)) 8) (MXc ma d (a + 1) Fr) with l | l
  · omega
  · rcases mxO_at (g := fun i => ma a i && Fr i) (v := fun i => 1 + MXc ma d (a + 1) (rmF Fr i)) 8 with h0 | ⟨i, hi, hg, hv⟩
    · omega
    · have hv : 1 + MXc ma d (a + 1) (rmF Fr i) = _ := hv
      have x := hn i (Nat.zero_le _) (by omega)
      have hg : (ma a i && Fr i) = true := hg
      have x : (ma a i && Fr i && decide (1 + MXc ma d (a + 1) (rmF Fr i) = MXc ma (d + 1) a Fr)) = false := x
      rw [hg, Bool.true_and] at x
      have x : ¬ (1 + MXc ma d (a + 1) (rmF Fr i) = MXc ma (d + 1) a Fr) := by simpa using x
      omega
theorem ch_some {ma : Nat → Nat → Bool} {d a i : Nat} {Fr : Nat → Bool} (h : chO ma d a Fr = some i) : i < 8 ∧ MXc ma (d + 1) a Fr = 1 + MXc ma d (a + 1) (rmF Fr i) ∧ ma a i = true ∧ Fr i = true := by
  obtain ⟨-, h1, h2, -⟩ := ffR_s 8 0 h
  have h2 : (ma a i && Fr i && decide (1 + MXc ma d (a + 1) (rmF Fr i) = MXc ma (d + 1) a Fr)) = true := h2
  rw [Bool.and_eq_true, Bool.and_eq_true] at h2
  have := of_decide_eq_true h2.2
  exact ⟨by omega, this.symm, h2.1.1, h2.1.2⟩
section CPAP
variable {w : Wd} {I : Is} {J : Js} {F : Fo} {A : At} {ma : Nat → Nat → Bool} {s : Nat}
theorem c_may (S : Sw w) (HF : FoC I F) (WF : FoW F) (HA : StR I 43 A) (WA : AtW F A) {p : Nat} (hp : p < sz F) : ∃ v, f_X0_mayCarry 33 43 (nn (pls A)) (nn p) (st w I J) = some (.inl v, st w I J) ∧ Bs v (maF F A p) := by
  have h8 := WF.1
  have hpl : pls A ≤ 8 ∧ pls A ≤ hg A := by unfold pls; omega
  have T := StS_43 S
  have l4 := l_4 (I := I) (J := J) (k := p) S (by omega)
  rw [fc_fa HF hp] at l4
  unfold f_X0_mayCarry
  refine loopQ (fun N i (v : Int32) => f_X0_mayCarry_b6 N 33 43 (nn (pls A)) (nn p) v (nn i) (st w I J)) (pls A) (fun i v => ∀ j, j < 8 → (bit v j ↔ j < i ∧ alk F (nn (fa F p)) (nn (pF A j)))) (fun z => ∃ v, z = some (.inl v, st w I J) ∧ Bs v (maF F A p)) ?_ ?_ (pls A) 0 0 NF (by omega) (NF_gt (by omega)) (fun j hj => ⟨fun z => absurd z (bit_0 j hj), fun z => by omega⟩)
  · intro N i v hi hv
    left
    have fo := (v_43 S (F := f_X5_faceOn 43 (nn i))).trans (c_faceOn (J := J) T HA WA h8 (show i < hg A by omega))
    have e0 : f_X0_mayCarry_b6 (N + 1) 33 43 (nn (pls A)) (nn p) v (nn i) (st w I J) = (if (bI (alk F (nn (fa F p)) (nn (pF A i))) = 0 : Prop) then (f_X0_mayCarry_b46 (f_X0_mayCarry_b6 N) 33 43 (nn (pls A)) (nn p) v (nn i)) else f_X0_mayCarry_b46 (f_X0_mayCarry_b6 N) 33 43 (nn (pls A)) (nn p) (v ||| ((1 : Int32) <<< (nn i &&& 31))) (nn i)) (st w I J) := by
      rw [f_X0_mayCarry_b6, if_neg (by rw [nn_le (by omega) (by omega)]; omega), bd_st (r_33_0 S), bd_st (r_33_0 S), bd_st (r_3_0 S), bd_st l4, bd_st fo, bd_st ((v_3 S).trans (c_alike S HF _ _))]
    by_cases c : alk F (nn (fa F p)) (nn (pF A i))
    · refine ⟨v ||| ((1 : Int32) <<< (nn i &&& 31)), ?_, fun j hj => ?_⟩
      · show f_X0_mayCarry_b6 (N + 1) 33 43 (nn (pls A)) (nn p) v (nn i) (st w I J) = _
        rw [e0, bI_t c, if_neg (by decide), f_X0_mayCarry_b46, nn_succ]
      · rw [bit_or _ _ (by omega), bit_1 i (by omega) j hj, hv j hj]
        constructor
        · rintro (⟨x, y⟩ | x)
          · exact ⟨by omega, y⟩
          · exact ⟨by omega, x ▸ c⟩
        · rintro ⟨x, y⟩
          by_cases e : i = j
          · exact Or.inr e
          · exact Or.inl ⟨by omega, y⟩
    · refine ⟨v, ?_, fun j hj => ?_⟩
      · show f_X0_mayCarry_b6 (N + 1) 33 43 (nn (pls A)) (nn p) v (nn i) (st w I J) = _
        rw [e0, bI_f c, if_pos rfl, f_X0_mayCarry_b46, nn_succ]
      · rw [hv j hj]
        constructor
        · exact fun x => ⟨by omega, x.2⟩
        · rintro ⟨x, y⟩
          have : j ≠ i := fun e => c (e ▸ y)
          exact ⟨by omega, y⟩
  · intro N v hv
    refine ⟨v, ?_, fun j hj => ?_⟩
    · show f_X0_mayCarry_b6 (N + 1) 33 43 (nn (pls A)) (nn p) v (nn (pls A)) (st w I J) = _
      rw [f_X0_mayCarry_b6, if_pos (by rw [nn_le (by omega) (by omega)]; omega)]
      rfl
    · rw [hv j hj]
      unfold maF
      simp
theorem c_firstL (S : Sw w) (hs : s ≤ 8) {p left : Nat} {x : Int32} {Fr : Nat → Bool} (hp : p < s) (hl : left ≤ 8) (hB : Bs x Fr) {I0 : Is} (h34 : I0 3 4 = nn s) (hm : ∀ p, p < s → Bs (I0 35 p) (ma p)) : ∀ d i I N, i + d = 8 → d < N → FrF I0 I → ∃ I1, f_X0_firstFor_b3 N 33 (nn p) x (nn left) (nn i) (st w I J) = some (.inl (ohI (ffR (fun i => ma p i && Fr i && decide (1 + MXc ma (s - (p + 1)) (p + 1) (rmF Fr i) = left)) d i)), st w I1 J) ∧ FrF I0 I1 := by
  intro d
  induction d with
  | zero =>
    intro i I N hi hN f
    obtain ⟨N, rfl⟩ : ∃ M, N = M + 1 := ⟨N - 1, by omega⟩
    have hi : i = 8 := by omega
    subst hi
    refine ⟨I, ?_, f⟩
    rw [f_X0_firstFor_b3, if_pos (by decide)]
    rfl
  | succ d ih =>
    intro i I N hi hN f
    obtain ⟨N, rfl⟩ : ∃ M, N = M + 1 := ⟨N - 1, by omega⟩
    have i8 : i < 8 := by omega
    have l35 := l_35 (I := I) (J := J) (k := p) S (by omega)
    have e35 : I 35 = I0 35 := f.1 35 (by decide)
    have tst : (((I 35 p &&& x) &&& ((1 : Int32) <<< (nn i &&& 31))) = 0) = ¬ ((ma p i && Fr i) = true) := by
      refine propext ((and_b0 i8).trans (not_congr ?_))
      rw [bit_and _ _ (by omega), e35, hm p hp i i8, hB i i8, Bool.and_eq_true]
    unfold ffR
    rw [f_X0_firstFor_b3, if_neg (by rw [show (8 : Int32) = nn 8 from rfl, nn_le (by omega) (by omega)]; omega), bd_st (r_33_2 S), bd_st l35]
    by_cases c : (ma p i && Fr i) = true
    rotate_left
    · rw [if_pos (by rw [tst]; exact c), if_neg (show ¬ ((ma p i && Fr i && decide (1 + MXc ma (s - (p + 1)) (p + 1) (rmF Fr i) = left)) = true) from fun z => c (Bool.and_eq_true_iff.1 z).1), f_X0_firstFor_b50, nn_succ]
      exact ih (i + 1) I N (by omega) (by omega) f
    · rw [if_neg (by rw [tst]; exact fun z => z c), nn_succ]
      obtain ⟨I1, e1, f1⟩ := c_most (I := I) (J := J) (ma := ma) (a := p + 1) S hs (by omega) (by rw [f.1 3 (by decide)]; exact h34) (hB.rm i8) (fun q hq => by rw [e35]; exact hm q hq)
      have d8 := MXc_d (ma := ma) (s - (p + 1)) (p + 1) (rmF Fr i)
      rw [bd_st ((v_33 S).trans e1), show (1 : Int32) + nn (MXc ma (s - (p + 1)) (p + 1) (rmF Fr i)) = nn (1 + MXc ma (s - (p + 1)) (p + 1) (rmF Fr i)) from nn_add 1 _]
      have qe : (nn (1 + MXc ma (s - (p + 1)) (p + 1) (rmF Fr i)) = nn left) = (1 + MXc ma (s - (p + 1)) (p + 1) (rmF Fr i) = left) := nn_eq (by omega) (by omega)
      by_cases c' : 1 + MXc ma (s - (p + 1)) (p + 1) (rmF Fr i) = left
      · rw [if_pos (by rw [qe]; exact c'), if_pos (show (ma p i && Fr i && decide (1 + MXc ma (s - (p + 1)) (p + 1) (rmF Fr i) = left)) = true by rw [c, decide_eq_true c']; rfl)]
        exact ⟨I1, rfl, f.trans f1⟩
      · rw [if_neg (by rw [qe]; exact c'), if_neg (show ¬ ((ma p i && Fr i && decide (1 + MXc ma (s - (p + 1)) (p + 1) (rmF Fr i) = left)) = true) from fun z => c' (of_decide_eq_true (Bool.and_eq_true_iff.1 z).2)), f_X0_firstFor_b50, nn_succ]
        exact ih (i + 1) I1 N (by omega) (by omega) (f.trans f1)
def KQ : List Nat := [33, 34, 35, 36]
theorem fr0_s : ∀ n, n ≤ 8 → ∀ i, i < 8 → (bit (((1 : Int32) <<< (nn n &&& 31)) - 1) i ↔ i < n) := by decide +kernel
theorem c_match (S : Sw w) (HF : FoC I F) (WF : FoW F) (HA : StR I 43 A) (WA : AtW F A) : ∃ I1, f_X0_match 33 43 (st w I J) = some (.inl (), st w I1 J) ∧ Ag KQ I I1 ∧ I1 33 4 = nn (MXc (maF F A) (sz F) 0 (Fr0 A)) ∧ ∀ q, q < sz F → I1 34 q = ohI (LXc (maF F A) (sz F) 0 (Fr0 A) q) := by
  have h8 := WF.1
  have h40 := WA.1
  have hpl : pls A ≤ 8 ∧ pls A ≤ hg A := by unfold pls; omega
  have i4 := i_43_4 (I := I) (J := J) S
  rw [sr_hg HA] at i4
  have em : mn32 8 (nn (hg A)) = nn (pls A) := mn_nn (a := 8) (by decide) (by omega)
  have hfr : Bs (((1 : Int32) <<< (nn (pls A) &&& 31)) - 1) (Fr0 A) := fun i hi => by
    rw [fr0_s (pls A) hpl.1 i hi]
    unfold Fr0
    simp
  rw [f_X0_match, bd_st i4, em]
  -- what they may carry
  have first := loopQ (fun N i (I1 : Is) => f_X0_match_b12 N 33 43 (nn (pls A)) (nn i) (st w I1 J)) (sz F) (fun i I1 => Ag [35] I I1 ∧ ∀ p, p < i → Bs (I1 35 p) (maF F A p)) (fun z => ∃ I1, z = (bd (cv 0 33 (f_X0_mostFrom 33 0 (((1 : Int32) <<< (nn (pls A) &&& 31)) - 1))) fun v11 => bd (pf 0 4 33 (.int v11)) fun _ => bd (gI 0 4 33) fun v12 => f_X0_match_b67 NF 33 (((1 : Int32) <<< (nn (pls A) &&& 31)) - 1) v12 0) (st w I1 J) ∧ Ag [35] I I1 ∧ ∀ p, p < sz F → Bs (I1 35 p) (maF F A p)) ?_ ?_ (sz F) 0 I NF (by omega) (NF_gt (by omega)) ⟨Ag.refl _ _, fun p hp => by omega⟩
  rotate_left
  · intro N i I1 hi ⟨a1, b1⟩
    left
    have HF1 : FoC I1 F := HF.ag a1 (by decide)
    have j4 := i_3_4 (I := I1) (J := J) S
    rw [fc_sz HF1] at j4
    obtain ⟨v, ev, bv⟩ := c_may (J := J) S HF1 WF (HA.ag a1 (by decide)) WA hi
    refine ⟨up2 I1 35 i v, ?_, a1.up (by decide), fun p hp => ?_⟩
    · show f_X0_match_b12 (N + 1) 33 43 (nn (pls A)) (nn i) (st w I1 J) = _
      rw [f_X0_match_b12, bd_st (r_33_0 S), bd_st j4, if_neg (by rw [nn_le (by omega) (by omega)]; omega), bd_st (r_33_2 S), bd_st ((v_33 S).trans ev), bd_st (s_35 S (by omega)), nn_succ]
    · by_cases e : p = i
      · rw [e, up2_s]; exact bv
      · rw [up2_k e]; exact b1 p (by omega)
  · intro N I1 ⟨a1, b1⟩
    have HF1 : FoC I1 F := HF.ag a1 (by decide)
    have j4 := i_3_4 (I := I1) (J := J) S
    rw [fc_sz HF1] at j4
    refine ⟨I1, ?_, a1, b1⟩
    show f_X0_match_b12 (N + 1) 33 43 (nn (pls A)) (nn (sz F)) (st w I1 J) = _
    rw [f_X0_match_b12, bd_st (r_33_0 S), bd_st j4, if_pos (by rw [nn_le (by omega) (by omega)]; omega)]
  obtain ⟨I1, e1, a1, b1⟩ := first
  have HF1 : FoC I1 F := HF.ag a1 (by decide)
  obtain ⟨I2, e2, f2⟩ := c_most (I := I1) (J := J) (ma := maF F A) (s := sz F) (a := 0) S h8 (Nat.zero_le _) (fc_sz HF1) hfr b1
  have e2 : f_X0_mostFrom 33 0 (((1 : Int32) <<< (nn (pls A) &&& 31)) - 1) (st w I1 J) = some (.inl (nn (MXc (maF F A) (sz F) 0 (Fr0 A))), st w I2 J) := e2
  obtain ⟨I3, hI3⟩ : ∃ I3, I3 = up2 I2 33 4 (nn (MXc (maF F A) (sz F) 0 (Fr0 A))) := ⟨_, rfl⟩
  have k4 := i_33_4 (I := I3) (J := J) S
  rw [hI3, up2_s, ← hI3] at k4
  have a3 : Ag KQ I I3 := by
    rw [hI3]
    exact ((a1.mono (by decide)).trans (f2.1.mono (by decide))).up (by decide)
  have e3 : f_X0_match_b12 NF 33 43 (nn (pls A)) (nn 0) (st w I J) = f_X0_match_b67 NF 33 (((1 : Int32) <<< (nn (pls A) &&& 31)) - 1) (nn (MXc (maF F A) (sz F) 0 (Fr0 A))) 0 (st w I3 J) := by
    refine e1.trans ?_
    rw [bd_st ((v_33 S).trans e2), bd_st (w_33_4 S), ← hI3, bd_st k4]
  have m3 : ∀ p, p < sz F → Bs (I3 35 p) (maF F A p) := fun p hp => by
    rw [hI3, up2_a (by decide), f2.1 35 (by decide)]
    exact b1 p hp
  have c3 : I3 33 4 = nn (MXc (maF F A) (sz F) 0 (Fr0 A)) := by rw [hI3, up2_s]
  show ∃ I1, f_X0_match_b12 NF 33 43 (nn (pls A)) (nn 0) (st w I J) = _ ∧ _
  rw [e3]
  -- one after the other
  have key := loopQ (fun N i (z : Int32 × (Nat → Bool) × Is) => f_X0_match_b67 N 33 z.1 (nn (MXc (maF F A) (sz F - i) i z.2.1)) (nn i) (st w z.2.2 J)) (sz F) (fun i z => Bs z.1 z.2.1 ∧ (Ag [33, 34, 36] I3 z.2.2 ∧ ∀ j, j ≠ 5 → z.2.2 33 j = I3 33 j) ∧ (∀ q, q < i → z.2.2 34 q = ohI (LXc (maF F A) (sz F) 0 (Fr0 A) q)) ∧ ∀ q, i ≤ q → LXc (maF F A) (sz F) 0 (Fr0 A) q = LXc (maF F A) (sz F - i) i z.2.1 q) (fun z => ∃ I4, z = some (.inl (), st w I4 J) ∧ (Ag [33, 34, 36] I3 I4 ∧ ∀ j, j ≠ 5 → I4 33 j = I3 33 j) ∧ ∀ q, q < sz F → I4 34 q = ohI (LXc (maF F A) (sz F) 0 (Fr0 A) q)) ?_ ?_ (sz F) 0 (((1 : Int32) <<< (nn (pls A) &&& 31)) - 1, Fr0 A, I3) NF (by omega) (NF_gt (by omega)) ⟨hfr, ⟨Ag.refl _ _, fun _ _ => rfl⟩, fun q hq => by omega, fun q hq => rfl⟩
  · obtain ⟨I4, e4, ⟨a4, g4⟩, b4⟩ := key
    refine ⟨I4, e4, a3.trans (a4.mono (by decide)), ?_, b4⟩
    rw [g4 4 (by decide)]
    exact c3
  · intro N i ⟨x, Fr, I4⟩ hi ⟨hB, ⟨a4, g4⟩, b4, l4⟩
    left
    have hB : Bs x Fr := hB
    have a4 : Ag [33, 34, 36] I3 I4 := a4
    have g4 : ∀ j, j ≠ 5 → I4 33 j = I3 33 j := g4
    have b4 : ∀ q, q < i → I4 34 q = ohI (LXc (maF F A) (sz F) 0 (Fr0 A) q) := b4
    have l4 : ∀ q, i ≤ q → LXc (maF F A) (sz F) 0 (Fr0 A) q = LXc (maF F A) (sz F - i) i Fr q := l4
    have s34 : I4 3 4 = nn (sz F) := by rw [a4 3 (by decide), a3 3 (by decide)]; exact fc_sz HF
    have j4 := i_3_4 (I := I4) (J := J) S
    rw [s34] at j4
    obtain ⟨d, hd⟩ : ∃ d, sz F - i = d + 1 := ⟨sz F - i - 1, by omega⟩
    have hd' : sz F - (i + 1) = d := by omega
    have ml := MXc_d (ma := maF F A) (d + 1) i Fr
    obtain ⟨I5, e5, f5⟩ := c_firstL (J := J) (ma := maF F A) (left := MXc (maF F A) (sz F - i) i Fr) S h8 hi (by rw [hd]; omega) hB s34 (fun p hp => by rw [a4 35 (by decide)]; exact m3 p hp) 8 0 I4 NF rfl (NF_gt (by decide)) (FrF.refl I4)
    rw [hd', hd] at e5
    have e5 : f_X0_firstFor 33 (nn i) x (nn (MXc (maF F A) (d + 1) i Fr)) (st w I4 J) = some (.inl (ohI (chO (maF F A) d i Fr)), st w I5 J) := e5
    obtain ⟨I6, hI6⟩ : ∃ I6, I6 = up2 I5 34 i (ohI (chO (maF F A) d i Fr)) := ⟨_, rfl⟩
    have l34 := l_34 (I := I6) (J := J) (k := i) S (by omega)
    rw [hI6, up2_s, ← hI6] at l34
    have A6 : Ag [33, 34, 36] I3 I6 ∧ ∀ j, j ≠ 5 → I6 33 j = I3 33 j := by
      refine ⟨?_, fun j hj => ?_⟩
      · rw [hI6]
        exact (a4.trans (f5.1.mono (by decide))).up (by decide)
      · rw [hI6, up2_a (by decide), f5.2 j hj]
        exact g4 j hj
    have LL : ∀ q, i ≤ q → LXc (maF F A) (sz F) 0 (Fr0 A) q = if q = i then chO (maF F A) d i Fr else LXc (maF F A) d (i + 1) (nxFr Fr (chO (maF F A) d i Fr)) q := fun q hq => by
      rw [l4 q hq, hd]
      rfl
    have b6 : ∀ q, q < i + 1 → I6 34 q = ohI (LXc (maF F A) (sz F) 0 (Fr0 A) q) := fun q hq => by
      by_cases e : q = i
      · rw [LL q (by omega), if_pos e, hI6, e, up2_s]
      · rw [hI6, up2_k e, f5.1 34 (by decide)]
        exact b4 q (by omega)
    have e0 : f_X0_match_b67 (N + 1) 33 x (nn (MXc (maF F A) (sz F - i) i Fr)) (nn i) (st w I4 J) = (if (ohI (chO (maF F A) d i Fr) = (-1) : Prop) then (f_X0_match_b123 (f_X0_match_b67 N) 33 x (nn (MXc (maF F A) (d + 1) i Fr)) (nn i)) else bd (gR 0 1 33) fun r7 => bd (al 0 r7 (nn i)) fun v8 => f_X0_match_b123 (f_X0_match_b67 N) 33 (x &&& (((1 : Int32) <<< (v8 &&& 31)) ^^^ (-1 : Int32))) (nn (MXc (maF F A) (d + 1) i Fr) + (-1)) (nn i)) (st w I6 J) := by
      rw [hd, f_X0_match_b67, bd_st (r_33_0 S), bd_st j4, if_neg (by rw [nn_le (by omega) (by omega)]; omega), bd_st (r_33_1 S), bd_st ((v_33 S).trans e5), bd_st (s_34 S (by omega)), ← hI6, bd_st (r_33_1 S), bd_st l34]
    cases hc : chO (maF F A) d i Fr with
    | none =>
      rw [hc] at e0 LL
      have eq := ch_none hc
      refine ⟨(x, Fr, I6), ?_, hB, A6, b6, fun q hq => ?_⟩
      · show f_X0_match_b67 (N + 1) 33 x (nn (MXc (maF F A) (sz F - i) i Fr)) (nn i) (st w I4 J) = f_X0_match_b67 N 33 x (nn (MXc (maF F A) (sz F - (i + 1)) (i + 1) Fr)) (nn (i + 1)) (st w I6 J)
        rw [e0, show ohI (none : Option Nat) = -1 from rfl, if_pos rfl, f_X0_match_b123, nn_succ, hd', eq]
      · rw [LL q (by omega), if_neg (by omega), hd']
        rfl
    | some k =>
      rw [hc] at e0 LL l34
      have l34 : al 0 34 (nn i) (st w I6 J) = some (.inl (nn k), st w I6 J) := l34
      obtain ⟨k8, eq, -, -⟩ := ch_some hc
      refine ⟨(x &&& (((1 : Int32) <<< (nn k &&& 31)) ^^^ (-1 : Int32)), rmF Fr k, I6), ?_, hB.rm k8, A6, b6, fun q hq => ?_⟩
      · show f_X0_match_b67 (N + 1) 33 x (nn (MXc (maF F A) (sz F - i) i Fr)) (nn i) (st w I4 J) = f_X0_match_b67 N 33 (x &&& (((1 : Int32) <<< (nn k &&& 31)) ^^^ (-1 : Int32))) (nn (MXc (maF F A) (sz F - (i + 1)) (i + 1) (rmF Fr k))) (nn (i + 1)) (st w I6 J)
        rw [e0, show ohI (some k) = nn k from rfl, if_neg (nn_ne_neg (by omega)), bd_st (r_33_1 S), bd_st l34, f_X0_match_b123, nn_succ, hd', eq, nn_m1 (by omega), show 1 + MXc (maF F A) d (i + 1) (rmF Fr k) - 1 = MXc (maF F A) d (i + 1) (rmF Fr k) by omega]
      · rw [LL q (by omega), if_neg (by omega), hd']
        rfl
  · intro N ⟨x, Fr, I4⟩ ⟨hB, ⟨a4, g4⟩, b4, l4⟩
    have a4 : Ag [33, 34, 36] I3 I4 := a4
    have j4 := i_3_4 (I := I4) (J := J) S
    rw [a4 3 (by decide), a3 3 (by decide), fc_sz HF] at j4
    refine ⟨I4, ?_, ⟨a4, g4⟩, b4⟩
    show f_X0_match_b67 (N + 1) 33 x _ (nn (sz F)) (st w I4 J) = _
    rw [f_X0_match_b67, bd_st (r_33_0 S), bd_st j4, if_pos (by rw [nn_le (by omega) (by omega)]; omega)]
    rfl
end CPAP
