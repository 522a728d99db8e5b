/-! PURE PART: what a clause answers -/
theorem nuR_b {b : Nat → Nat} {n m p : Nat} {v : Nat × Nat} (hp : p ≤ n) (h : nuR b n m p = .inr v) : v.1 < m ∧ v.2 ≤ n := by
  have g := sk_ge (b := b) hp
  have g' := gE_ge (b := b) g.2
  unfold nuR at h
  by_cases q : sk b n p < gE b n (sk b n p) ∧ nuV b n (sk b n p) < m
  · rw [if_pos q] at h
    cases h
    exact ⟨q.2, g'.2⟩
  · rw [if_neg q] at h
    cases h
theorem sgR_b {b : Nat → Nat} {n x p t : Nat} (h : sgR b n x p = .inr t) : t ≤ n := by
  unfold sgR at h
  by_cases q : sk b n p < n ∧ b (sk b n p) = x
  · rw [if_pos q] at h
    cases h
    omega
  · rw [if_neg q] at h
    cases h
theorem wdR_n {b : Nat → Nat} {n k p : Nat} {l : List Nat} {v : Nat × Nat} (hp : p ≤ n) (h : wdR b n k l p = .inr v) : v.2 ≤ n := by
  have g := sk_ge (b := b) hp
  have g' := wE_ge (b := b) g.2
  unfold wdR at h
  cases q : wIx k b (sk b n p) (wE b n (sk b n p)) 0 0 l with
  | none => rw [q] at h; cases h
  | some y =>
    rw [q] at h
    cases h
    exact g'.2
theorem boR_W {b : Nat → Nat} {n y p : Nat} {G : Fo} {u : Nat × Fo} (WG : FoW G) (h8 : ¬ (y = 0 ∧ 8 ≤ sz G)) (hp : p ≤ n) (h : boR b n y p G = .inr u) : FoW u.2 := by
  have z8 := WG.1
  unfold boR at h
  by_cases q0 : y = 0
  · rw [if_pos q0] at h
    unfold peR at h
    cases h1 : nuR b n 64 p with
    | inl r => rw [h1] at h; cases h
    | inr v =>
      rw [h1] at h
      have b1 := nuR_b hp h1
      have h : (match nuR b n 10 v.2 with
        | .inl r => .inl r
        | .inr u => match nuR b n 41 u.2 with
          | .inl r => .inl r
          | .inr x => .inr (x.2, fAdd G v.1 u.1 x.1)) = (.inr u : Er ⊕ (Nat × Fo)) := h
      cases h2 : nuR b n 10 v.2 with
      | inl r => rw [h2] at h; cases h
      | inr t =>
        rw [h2] at h
        have b2 := nuR_b b1.2 h2
        have h : (match nuR b n 41 t.2 with
          | .inl r => .inl r
          | .inr x => .inr (x.2, fAdd G v.1 t.1 x.1)) = (.inr u : Er ⊕ (Nat × Fo)) := h
        cases h3 : nuR b n 41 t.2 with
        | inl r => rw [h3] at h; cases h
        | inr x =>
          rw [h3] at h
          have b3 := nuR_b b2.2 h3
          cases h
          refine ⟨by show sz G + 1 ≤ 8; omega, WG.2.1, fun i hi => ?_⟩
          have hi : i < sz G + 1 := hi
          show (if i = sz G then v.1 else fa G i) < 64 ∧ (if i = sz G then t.1 else te G i) ≤ 9 ∧ (if i = sz G then x.1 else pr G i) ≤ 40 ∧ (if i = sz G then 0 else sy G i) < 256
          by_cases e : i = sz G
          · rw [if_pos e, if_pos e, if_pos e, if_pos e]
            omega
          · rw [if_neg e, if_neg e, if_neg e, if_neg e]
            exact WG.2.2 i (by omega)
  rw [if_neg q0] at h
  by_cases q1 : y = 1
  · rw [if_pos q1] at h
    unfold shR at h
    cases h1 : nuR b n (sz G) p with
    | inl r => rw [h1] at h; cases h
    | inr v =>
      rw [h1] at h
      have b1 := nuR_b hp h1
      have h : (match nuR b n (sz G) v.2 with
        | .inl r => .inl r
        | .inr u => .inr (u.2, fShy G v.1 u.1)) = (.inr u : Er ⊕ (Nat × Fo)) := h
      cases h2 : nuR b n (sz G) v.2 with
      | inl r => rw [h2] at h; cases h
      | inr t =>
        rw [h2] at h
        have b2 := nuR_b b1.2 h2
        cases h
        obtain ⟨o1, o2⟩ := or_s (sy G v.1) (WG.2.2 v.1 b1.1).2.2.2 t.1 (by omega)
        refine ⟨WG.1, WG.2.1, fun i hi => ⟨(WG.2.2 i hi).1, (WG.2.2 i hi).2.1, (WG.2.2 i hi).2.2.1, ?_⟩⟩
        show (if i = v.1 then sy G v.1 ||| 2 ^ t.1 else sy G i) < 256
        split
        · exact o2
        · exact (WG.2.2 i hi).2.2.2
  · rw [if_neg q1] at h
    unfold liR at h
    cases h1 : nuR b n 7 p with
    | inl r => rw [h1] at h; cases h
    | inr v =>
      rw [h1] at h
      have b1 := nuR_b hp h1
      cases h
      exact ⟨WG.1, (by omega : v.1 ≤ 6), WG.2.2⟩
theorem clR_W {b : Nat → Nat} {n c p : Nat} {G : Fo} {u : Nat × Fo} (WG : FoW G) (hp : p ≤ n) (h : clR b n c p G = .inr u) : FoW u.2 ∧ u.1 ≤ n ∧ c < 60 := by
  unfold clR at h
  cases h1 : wdR b n 0 [6, 10, 15] p with
  | inl r => rw [h1] at h; cases h
  | inr v =>
    rw [h1] at h
    have h : (if 60 ≤ c ∨ v.1 = 0 ∧ 8 ≤ sz G then .inl (3, sk b n p) else endR b n (boR b n v.1 v.2 G)) = (.inr u : Er ⊕ (Nat × Fo)) := h
    by_cases q : 60 ≤ c ∨ v.1 = 0 ∧ 8 ≤ sz G
    · rw [if_pos q] at h; cases h
    · rw [if_neg q] at h
      cases h2 : boR b n v.1 v.2 G with
      | inl r => rw [h2] at h; cases h
      | inr t =>
        rw [h2] at h
        have W2 := boR_W WG (fun z => q (Or.inr z)) (wdR_n hp h1) h2
        have h : (match sgR b n 59 t.1 with
          | .inl r => .inl r
          | .inr x => .inr (x, t.2)) = (.inr u : Er ⊕ (Nat × Fo)) := h
        cases h3 : sgR b n 59 t.1 with
        | inl r => rw [h3] at h; cases h
        | inr x =>
          rw [h3] at h
          cases h
          exact ⟨W2, sgR_b h3, Nat.lt_of_not_le fun z => q (Or.inl z)⟩
