def chkR {α : Type} (z : Option ((α ⊕ (Nat × Nat)) × PS)) (p : α → PS → Bool) : Bool := match z with
  | some (.inl r, σ) => p r σ
  | _ => false
theorem chkR_spec {α : Type} {z : Option ((α ⊕ (Nat × Nat)) × PS)} {p : α → PS → Bool} (h : chkR z p = true) : ∃ r σ, z = some (.inl r, σ) ∧ p r σ = true := by
  unfold chkR at h
  split at h
  · exact ⟨_, _, rfl, h⟩
  · exact absurd h (by simp)
def rPairs : List (Nat × Nat) := (List.range 525).flatMap (fun a => ((List.range (match shT a with
  | .inl (3, n, _) => n
  | .inr (11, _) => 13
  | .inr (12, _) => 46
  | .inr (_, _) => 4
  | _ => 0)).filter (fun k => rQ a k)).map (fun k => (a, k)))
theorem rPairs_len : rPairs.length = 530 := by decide +kernel
theorem init_shape : chkR (initP (0, 0, μ00)) (fun r σ => decide (r = (0, 49, 525)) && decide (σ.1 = 526) && decide (σ.2.1 ≤ 50000) && (List.range 526).all (fun a => decide (shE (σ.2.2 a) = shT a))) = true := by decide +kernel
/-- the whole numbers at the start -/
def vT (a k : Nat) : Int32 := match a, k with
  | 1, 6 => -1
  | 3, 5 => 1
  | 8, 5 => 1
  | 13, 2 => 3
  | 16, 2 => 3
  | 14, 0 => 1000
  | 14, 1 => 1002
  | 14, 2 => 2000
  | 17, 0 => 1000
  | 17, 1 => 1002
  | 17, 2 => 2000
  | 25, _ => -1
  | 49, 3 => -1
  | 52, 1 => 1
  | 53, 1 => 1
  | _, _ => 0
def vPairs : List (Nat × Nat) := ([(0, 18), (1, 7), (3, 6), (4, 8), (5, 8), (6, 8), (7, 8), (8, 6), (13, 3), (14, 3), (16, 3), (19, 8), (24, 6), (25, 8), (30, 6), (33, 6), (37, 5), (43, 6), (44, 8), (45, 8), (46, 8), (49, 49), (51, 2), (52, 2), (53, 2), (54, 8), (55, 8), (497, 28)] : List (Nat × Nat)).flatMap (fun p => (List.range p.2).map (fun k => (p.1, k)))
theorem init_vals : chkR (initP (0, 0, μ00)) (fun _ σ => rPairs.all (fun p => decide (reE (σ.2.2 p.1) p.2 = some (rT p.1 p.2))) && vPairs.all (fun p => decide (inE (σ.2.2 p.1) p.2 = vT p.1 p.2)) && decide (loE (σ.2.2 24) 5 = -1) && decide (reE (σ.2.2 0) 13 = none)) = true := by decide +kernel
