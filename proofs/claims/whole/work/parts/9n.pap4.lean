/-! PURE PART: a search that keeps the best, as numbers -/
def stO (cr : Mp) (p : Nat) (v : Option Nat) : Mp := fun q => if q = p then v else cr q
def dfs (ma : Nat → Nat → Bool) : Nat → Nat → (Nat → Bool) → Mp → Nat → Nat × Mp → Nat × Mp
  | 0, p, Fr, cr, k, z => if z.1 ≤ k + min 0 (c8 Fr) then (k + 1, fun q => if q < p then cr q else none) else z
  | d + 1, p, Fr, cr, k, z => if z.1 ≤ k + min (d + 1) (c8 Fr) then dfs ma d (p + 1) Fr (stO cr p none) k (lp (fun i y => if (ma p i && Fr i) = true then dfs ma d (p + 1) (rmF Fr i) (stO cr p (some i)) (k + 1) y else y) 8 0 z) else z
def BS (g : Nat → Bool) (v : Nat → Nat) (n : Nat) : Option Nat → Prop
  | none => ∀ i, i < n → g i = false
  | some j => j < n ∧ g j = true ∧ ∀ i, i < n → g i = true → v i ≤ v j ∧ (i < j → v i < v j)
def fnO (v : Nat → Nat) (k : Nat) (pt : Nat → Mp) (z : Nat × Mp) : Option Nat → Nat × Mp
  | none => z
  | some j => if z.1 ≤ k + v j then (k + v j + 1, pt j) else z
theorem scan {g : Nat → Bool} {v : Nat → Nat} {k : Nat} {pt : Nat → Mp} {z : Nat × Mp} : ∀ n, ∃ o, BS g v n o ∧ lp (fun i (y : Nat × Mp) => if g i = true then (if y.1 ≤ k + v i then (k + v i + 1, pt i) else y) else y) n 0 z = fnO v k pt z o
  | 0 => ⟨none, fun i hi => absurd hi (Nat.not_lt_zero _), rfl⟩
  | n + 1 => by
    obtain ⟨o, b, e⟩ := scan (g := g) (v := v) (k := k) (pt := pt) (z := z) n
    rw [lp_end, e, Nat.zero_add]
    by_cases c : g n = true
    rotate_left
    · refine ⟨o, ?_, if_neg c⟩
      cases o with
      | none =>
        intro i hi
        by_cases x : i = n
        · rw [x]; simpa using c
        · exact b i (by omega)
      | some j =>
        obtain ⟨b1, b2, b3⟩ := b
        refine ⟨by omega, b2, fun i hi hg => ?_⟩
        by_cases x : i = n
        · exact absurd (x ▸ hg) c
        · exact b3 i (by omega) hg
    show ∃ o, BS g v (n + 1) o ∧ (if g n = true then (if (fnO v k pt z _).1 ≤ k + v n then (k + v n + 1, pt n) else fnO v k pt z _) else fnO v k pt z _) = fnO v k pt z o
    rw [if_pos c]
    cases o with
    | none =>
      refine ⟨some n, ⟨Nat.lt_succ_self _, c, fun i hi hg => ?_⟩, rfl⟩
      by_cases x : i = n
      · rw [x]; exact ⟨Nat.le_refl _, fun y => by omega⟩
      · have := b i (by omega)
        rw [hg] at this
        cases this
    | some j =>
      obtain ⟨b1, b2, b3⟩ := b
      by_cases l : v j < v n
      · refine ⟨some n, ⟨Nat.lt_succ_self _, c, fun i hi hg => ?_⟩, ?_⟩
        · by_cases x : i = n
          · rw [x]; exact ⟨Nat.le_refl _, fun y => by omega⟩
          · have := (b3 i (by omega) hg).1
            exact ⟨by omega, fun _ => by omega⟩
        · show (if (if z.1 ≤ k + v j then (k + v j + 1, pt j) else z).1 ≤ k + v n then (k + v n + 1, pt n) else (if z.1 ≤ k + v j then (k + v j + 1, pt j) else z)) = (if z.1 ≤ k + v n then (k + v n + 1, pt n) else z)
          by_cases m : z.1 ≤ k + v j
          · rw [if_pos m, if_pos (show k + v j + 1 ≤ k + v n by omega), if_pos (by omega)]
          · rw [if_neg m]
      · refine ⟨some j, ⟨by omega, b2, fun i hi hg => ?_⟩, ?_⟩
        · by_cases x : i = n
          · rw [x]; exact ⟨by omega, fun y => by omega⟩
          · exact b3 i (by omega) hg
        · show (if (if z.1 ≤ k + v j then (k + v j + 1, pt j) else z).1 ≤ k + v n then (k + v n + 1, pt n) else (if z.1 ≤ k + v j then (k + v j + 1, pt j) else z)) = (if z.1 ≤ k + v j then (k + v j + 1, pt j) else z)
          by_cases m : z.1 ≤ k + v j
          · rw [if_pos m, if_neg (show ¬ k + v j + 1 ≤ k + v n by omega)]
          · rw [if_neg m, if_neg (by omega)]
theorem dfs_s {ma : Nat → Nat → Bool} : ∀ d p Fr cr k (z : Nat × Mp), dfs ma d p Fr cr k z = if z.1 ≤ k + MXc ma d p Fr then (k + MXc ma d p Fr + 1, fun q => if q < p then cr q else LXc ma d p Fr q) else z
  | 0, p, Fr, cr, k, z => by
    unfold dfs
    rw [Nat.zero_min]
    rfl
  | d + 1, p, Fr, cr, k, z => by
    have m1 := MXc_d (ma := ma) (d + 1) p Fr
    have m2 := MXc_c (ma := ma) (d + 1) p Fr
    unfold dfs
    by_cases c : z.1 ≤ k + min (d + 1) (c8 Fr)
    rotate_left
    · rw [if_neg c, if_neg (by omega)]
    rw [if_pos c]
    -- the plates, one after the other
    have e1 : lp (fun i y => if (ma p i && Fr i) = true then dfs ma d (p + 1) (rmF Fr i) (stO cr p (some i)) (k + 1) y else y) 8 0 z = lp (fun i (y : Nat × Mp) => if (ma p i && Fr i) = true then (if y.1 ≤ k + (1 + MXc ma d (p + 1) (rmF Fr i)) then (k + (1 + MXc ma d (p + 1) (rmF Fr i)) + 1, fun q => if q < p + 1 then stO cr p (some i) q else LXc ma d (p + 1) (rmF Fr i) q) else y) else y) 8 0 z := by
      refine lp_congr fun i y _ _ => ?_
      by_cases g : (ma p i && Fr i) = true
      · rw [if_pos g, if_pos g, dfs_s d]
        rw [show k + 1 + MXc ma d (p + 1) (rmF Fr i) = k + (1 + MXc ma d (p + 1) (rmF Fr i)) by omega]
      · rw [if_neg g, if_neg g]
    obtain ⟨o, b, e2⟩ := scan (g := fun i => ma p i && Fr i) (v := fun i => 1 + MXc ma d (p + 1) (rmF Fr i)) (k := k) (pt := fun i q => if q < p + 1 then stO cr p (some i) q else LXc ma d (p + 1) (rmF Fr i) q) (z := z) 8
    rw [e1]
    have e2 : lp (fun i (y : Nat × Mp) => if (ma p i && Fr i) = true then (if y.1 ≤ k + (1 + MXc ma d (p + 1) (rmF Fr i)) then (k + (1 + MXc ma d (p + 1) (rmF Fr i)) + 1, fun q => if q < p + 1 then stO cr p (some i) q else LXc ma d (p + 1) (rmF Fr i) q) else y) else y) 8 0 z = _ := e2
    rw [e2, dfs_s d]
    have eM : MXc ma (d + 1) p Fr = max (MXc ma d (p + 1) Fr) (mxO (fun i => ma p i && Fr i) (fun i => 1 + MXc ma d (p + 1) (rmF Fr i)) 8) := rfl
    -- paths
    have pN : chO ma d p Fr = none → (fun q => if q < p + 1 then stO cr p none q else LXc ma d (p + 1) Fr q) = (fun q => if q < p then cr q else LXc ma (d + 1) p Fr q) := fun hc => by
      funext q
      by_cases q1 : q < p
      · rw [if_pos (by omega), if_pos q1]
        exact if_neg (by omega)
      · rw [if_neg q1]
        show _ = (if q = p then chO ma d p Fr else LXc ma d (p + 1) (nxFr Fr (chO ma d p Fr)) q)
        rw [hc]
        by_cases q2 : q = p
        · rw [if_pos (by omega), if_pos q2]
          exact if_pos q2
        · rw [if_neg (by omega), if_neg q2]
          rfl
    have pS : ∀ j, chO ma d p Fr = some j → (fun q => if q < p + 1 then stO cr p (some j) q else LXc ma d (p + 1) (rmF Fr j) q) = (fun q => if q < p then cr q else LXc ma (d + 1) p Fr q) := fun j hc => by
      funext q
      by_cases q1 : q < p
      · rw [if_pos (by omega), if_pos q1]
        exact if_neg (by omega)
      · rw [if_neg q1]
        show _ = (if q = p then chO ma d p Fr else LXc ma d (p + 1) (nxFr Fr (chO ma d p Fr)) q)
        rw [hc]
        by_cases q2 : q = p
        · rw [if_pos (by omega), if_pos q2]
          exact if_pos q2
        · rw [if_neg (by omega), if_neg q2]
          rfl
    cases o with
    | none =>
      have hn : ∀ i, i < 8 → (ma p i && Fr i) = false := b
      have m0 : mxO (fun i => ma p i && Fr i) (fun i => 1 + MXc ma d (p + 1) (rmF Fr i)) 8 ≤ 0 := mxO_le 8 fun i hi hg => by
        have hg : (ma p i && Fr i) = true := hg
        rw [hn i hi] at hg
        cases hg
      have hc : chO ma d p Fr = none := by
        cases x : chO ma d p Fr with
        | none => rfl
        | some j =>
          obtain ⟨y1, y2, y3, y4⟩ := ch_some x
          have := hn j y1
          rw [y3, y4] at this
          cases this
      rw [pN hc, show MXc ma (d + 1) p Fr = MXc ma d (p + 1) Fr by omega]
      rfl
    | some j =>
      obtain ⟨j8, gj, bj⟩ := b
      have gj : (ma p j && Fr j) = true := gj
      have bj : ∀ i, i < 8 → (ma p i && Fr i) = true → 1 + MXc ma d (p + 1) (rmF Fr i) ≤ 1 + MXc ma d (p + 1) (rmF Fr j) ∧ (i < j → 1 + MXc ma d (p + 1) (rmF Fr i) < 1 + MXc ma d (p + 1) (rmF Fr j)) := bj
      have v1 : mxO (fun i => ma p i && Fr i) (fun i => 1 + MXc ma d (p + 1) (rmF Fr i)) 8 ≤ 1 + MXc ma d (p + 1) (rmF Fr j) := mxO_le 8 fun i hi hg => (bj i hi hg).1
      have v2 : 1 + MXc ma d (p + 1) (rmF Fr j) ≤ mxO (fun i => ma p i && Fr i) (fun i => 1 + MXc ma d (p + 1) (rmF Fr i)) 8 := mxO_ge (g := fun i => ma p i && Fr i) (v := fun i => 1 + MXc ma d (p + 1) (rmF Fr i)) 8 j j8 gj
      show (if (if z.1 ≤ k + (1 + MXc ma d (p + 1) (rmF Fr j)) then (k + (1 + MXc ma d (p + 1) (rmF Fr j)) + 1, fun q => if q < p + 1 then stO cr p (some j) q else LXc ma d (p + 1) (rmF Fr j) q) else z).1 ≤ k + MXc ma d (p + 1) Fr then (k + MXc ma d (p + 1) Fr + 1, fun q => if q < p + 1 then stO cr p none q else LXc ma d (p + 1) Fr q) else (if z.1 ≤ k + (1 + MXc ma d (p + 1) (rmF Fr j)) then (k + (1 + MXc ma d (p + 1) (rmF Fr j)) + 1, fun q => if q < p + 1 then stO cr p (some j) q else LXc ma d (p + 1) (rmF Fr j) q) else z)) = _
      by_cases l : 1 + MXc ma d (p + 1) (rmF Fr j) < MXc ma d (p + 1) Fr
      · have hc : chO ma d p Fr = none := by
          cases x : chO ma d p Fr with
          | none => rfl
          | some i =>
            obtain ⟨y1, y2, y3, y4⟩ := ch_some x
            have := (bj i y1 (by rw [y3, y4]; rfl)).1
            omega
        rw [pN hc, show MXc ma (d + 1) p Fr = MXc ma d (p + 1) Fr by omega]
        by_cases m : z.1 ≤ k + (1 + MXc ma d (p + 1) (rmF Fr j))
        · rw [if_pos m, if_pos (show k + (1 + MXc ma d (p + 1) (rmF Fr j)) + 1 ≤ k + MXc ma d (p + 1) Fr by omega), if_pos (by omega)]
        · rw [if_neg m]
      · have eV : MXc ma (d + 1) p Fr = 1 + MXc ma d (p + 1) (rmF Fr j) := by omega
        have hc : chO ma d p Fr = some j := by
          cases x : chO ma d p Fr with
          | none =>
            have := ffR_n 8 0 x j (Nat.zero_le _) (by omega)
            have this : (ma p j && Fr j && decide (1 + MXc ma d (p + 1) (rmF Fr j) = MXc ma (d + 1) p Fr)) = false := this
            rw [gj, decide_eq_true eV.symm] at this
            cases this
          | some i =>
            obtain ⟨y1, y2, y3, y4⟩ := ch_some x
            obtain ⟨-, -, -, y5⟩ := ffR_s 8 0 x
            have h1 : ¬ i < j := fun t => by
              have := (bj i y1 (by rw [y3, y4]; rfl)).2 t
              omega
            have h2 : ¬ j < i := fun t => by
              have := y5 j (Nat.zero_le _) t
              have this : (ma p j && Fr j && decide (1 + MXc ma d (p + 1) (rmF Fr j) = MXc ma (d + 1) p Fr)) = false := this
              rw [gj, decide_eq_true eV.symm] at this
              cases this
            rw [show i = j by omega]
        rw [pS j hc, eV]
        by_cases m : z.1 ≤ k + (1 + MXc ma d (p + 1) (rmF Fr j))
        · rw [if_pos m, if_neg (show ¬ k + (1 + MXc ma d (p + 1) (rmF Fr j)) + 1 ≤ k + MXc ma d (p + 1) Fr by omega)]
        · rw [if_neg m, if_neg (by omega)]
