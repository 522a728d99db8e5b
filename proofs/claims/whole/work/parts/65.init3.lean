/-- the start, typed -/
theorem init_full : ∃ (q : Nat) (sh : Nat → Shp) (I : Nat → Nat → Int32) (J : Nat → Nat → Int64) (R : Nat → Nat → Option Nat), initP (0, 0, μ00) = some (.inl (0, 49, 525), (526, q, MM sh I J R)) ∧ q ≤ 50000 ∧ (∀ a, a < 526 → sh a = shT a) ∧ (∀ p ∈ rPairs, R p.1 p.2 = some (rT p.1 p.2)) ∧ (∀ p ∈ vPairs, I p.1 p.2 = vT p.1 p.2) ∧ J 24 5 = -1 ∧ R 0 13 = none := by
  obtain ⟨r, ⟨n, q, μ⟩, e1, h1⟩ := chkR_spec init_shape
  obtain ⟨r', σ', e2, h2⟩ := chkR_spec init_vals
  have e3 := e1.symm.trans e2
  simp only [Option.some.injEq, Prod.mk.injEq, Sum.inl.injEq] at e3
  obtain ⟨-, e3⟩ := e3
  rw [← e3] at h2
  simp only [Bool.and_eq_true, decide_eq_true_eq, List.all_eq_true, List.mem_range] at h1 h2
  obtain ⟨⟨⟨a1, a2⟩, a3⟩, a4⟩ := h1
  obtain ⟨⟨⟨b1, b2⟩, b3⟩, b4⟩ := h2
  have pl : Plm (n, q, μ) := Pl_init _ _ _ (fun _ => rfl) e1
  have e := MM_of (μ := μ) pl
  subst a1
  subst a2
  refine ⟨q, fun a => shE (μ a), fun a => inE (μ a), fun a => loE (μ a), fun a => reE (μ a), ?_, a3, a4, b1, b2, b3, b4⟩
  rw [e1, ← e]
