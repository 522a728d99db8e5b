/-! PURE PART: readers by steps, both sides against one account -/
abbrev Er : Type := Int32 × Nat
def nuR (b : Nat → Nat) (n m p : Nat) : Er ⊕ (Nat × Nat) := if sk b n p < gE b n (sk b n p) ∧ nuV b n (sk b n p) < m then .inr (nuV b n (sk b n p), gE b n (sk b n p)) else .inl (if sk b n p < gE b n (sk b n p) then 2 else 1, sk b n p)
def sgR (b : Nat → Nat) (n x p : Nat) : Er ⊕ Nat := if sk b n p < n ∧ b (sk b n p) = x then .inr (sk b n p + 1) else .inl (1, sk b n p)
def wdR (b : Nat → Nat) (n k : Nat) (l : List Nat) (p : Nat) : Er ⊕ (Nat × Nat) := match wIx k b (sk b n p) (wE b n (sk b n p)) 0 0 l with
  | some y => .inr (y, wE b n (sk b n p))
  | none => .inl (1, sk b n p)
/-- the class stands at p; has failed -/
def CT (b : Nat → Nat) (n p : Nat) (I : Is) : Prop := TxC I b n ∧ I 1 1 = 0 ∧ I 1 6 = -1 ∧ I 1 3 = nn p ∧ p ≤ n
def CF (r : Er) (I : Is) : Prop := I 1 1 = 0 ∧ I 1 5 = r.1 ∧ I 1 6 = nn r.2
/-- the model stands at p, blanks aside; has failed -/
def MT (b : Nat → Nat) (n p : Nat) (I : Is) : Prop := TxM I b n ∧ I 49 5 = 0 ∧ ∃ q, q ≤ n ∧ I 49 4 = nn q ∧ sk b n q = sk b n p
def MTx (b : Nat → Nat) (n : Nat) (r : Er) (I : Is) : Prop := TxM I b n ∧ I 49 5 = r.1 ∧ ¬ r.1 = 0 ∧ I 49 6 = nn r.2 ∧ ∃ q, q ≤ n ∧ I 49 4 = nn q
/-- only the model's reader moved -/
def MA (I I' : Is) : Prop := Ag [49] I I' ∧ ∀ j, j ≠ 4 → j ≠ 5 → j ≠ 6 → I' 49 j = I 49 j
theorem MA.refl (I : Is) : MA I I := ⟨Ag.refl _ _, fun _ _ _ _ => rfl⟩
theorem MA.trans {I I' I'' : Is} (h : MA I I') (h' : MA I' I'') : MA I I'' := ⟨h.1.trans h'.1, fun j a b c => (h'.2 j a b c).trans (h.2 j a b c)⟩
theorem MA.up {I I' : Is} {j : Nat} {v : Int32} (h : MA I I') (hj : j = 4 ∨ j = 5 ∨ j = 6) : MA I (up2 I' 49 j v) := ⟨h.1.up (by decide), fun i a b c => by
  rw [up2_k (by omega)]
  exact h.2 i a b c⟩
section STEPS
variable {w : Wd} {I : Is} {J : Js} {b : Nat → Nat} {n p : Nat} {r : Er}
theorem CT.ag {I' : Is} {K : List Nat} (C : CT b n p I) (h : Ag K I I') (h1 : 1 ∉ K) (h2 : 2 ∉ K) : CT b n p I' := by
  obtain ⟨a, c, d, e, f⟩ := C
  refine ⟨⟨?_, fun x hx => ?_⟩, ?_, ?_, ?_, f⟩
  · rw [h 1 h1]; exact a.1
  · rw [h 2 h2]; exact a.2 x hx
  · rw [h 1 h1]; exact c
  · rw [h 1 h1]; exact d
  · rw [h 1 h1]; exact e
theorem CF.ag {I' : Is} {K : List Nat} (C : CF r I) (h : Ag K I I') (h1 : 1 ∉ K) : CF r I' := by
  unfold CF at *
  rw [h 1 h1]
  exact C
theorem MT.ag {I' : Is} {K : List Nat} (C : MT b n p I) (h : Ag K I I') (h1 : 49 ∉ K) (h2 : 50 ∉ K) : MT b n p I' := by
  obtain ⟨a, c, d⟩ := C
  refine ⟨⟨?_, fun x hx => ?_⟩, ?_, ?_⟩
  · rw [h 49 h1]; exact a.1
  · rw [h 50 h2]; exact a.2 x hx
  · rw [h 49 h1]; exact c
  · rw [h 49 h1]; exact d
theorem MTx.ag {I' : Is} {K : List Nat} (C : MTx b n r I) (h : Ag K I I') (h1 : 49 ∉ K) (h2 : 50 ∉ K) : MTx b n r I' := by
  obtain ⟨a, c⟩ := C
  refine ⟨⟨?_, fun x hx => ?_⟩, ?_⟩
  · rw [h 49 h1]; exact a.1
  · rw [h 50 h2]; exact a.2 x hx
  · rw [h 49 h1]; exact c
-- the class's number
theorem c_nuI (S : Sw w) (W : TxW b n) (C : CT b n p I) {m : Nat} (hm : m ≤ 1000) (h : nuR b n m p = .inl r) : ∃ I1, f_X8_number 1 (nn m - 1) (st w I J) = some (.inl (-1), st w I1 J) ∧ Ag [1] I I1 ∧ CF r I1 := by
  obtain ⟨T, c1, c6, c3, hp⟩ := C
  unfold nuR at h
  by_cases q : sk b n p < gE b n (sk b n p) ∧ nuV b n (sk b n p) < m
  · rw [if_pos q] at h; cases h
  · rw [if_neg q] at h
    cases h
    refine ⟨_, (c_num S W hp T c3 hm).2 q, ((((Ag.refl _ _).up (by decide)).up (by decide)).up (by decide)).up (by decide), ?_, ?_, ?_⟩
    · simp (disch := decide) only [up2_k]; exact c1
    · simp (disch := decide) only [up2_k, up2_s]
    · rw [up2_s]
theorem c_nuO (S : Sw w) (W : TxW b n) (C : CT b n p I) {m : Nat} {v : Nat × Nat} (hm : m ≤ 1000) (h : nuR b n m p = .inr v) : ∃ I1, f_X8_number 1 (nn m - 1) (st w I J) = some (.inl (nn v.1), st w I1 J) ∧ Ag [1] I I1 ∧ CT b n v.2 I1 ∧ v.1 < m := by
  obtain ⟨T, c1, c6, c3, hp⟩ := C
  have g := sk_ge (b := b) hp
  have g' := gE_ge (b := b) g.2
  unfold nuR at h
  by_cases q : sk b n p < gE b n (sk b n p) ∧ nuV b n (sk b n p) < m
  · rw [if_pos q] at h
    cases h
    refine ⟨_, (c_num S W hp T c3 hm).1 q, ((Ag.refl _ _).up (by decide)).up (by decide), ⟨(T.up ⟨by decide, Or.inr (by decide)⟩).up ⟨by decide, Or.inr (by decide)⟩, ?_, ?_, up2_s, g'.2⟩, q.2⟩
    · simp (disch := decide) only [up2_k]; exact c1
    · simp (disch := decide) only [up2_k]; exact c6
  · rw [if_neg q] at h; cases h
-- a sign
theorem c_sgI (S : Sw w) (W : TxW b n) (C : CT b n p I) {x : Nat} (hx : x < 128) (h : sgR b n x p = .inl r) : ∃ I1, f_X8_need 1 (nn x) (st w I J) = some (.inl 0, st w I1 J) ∧ Ag [1] I I1 ∧ CF r I1 := by
  obtain ⟨T, c1, c6, c3, hp⟩ := C
  unfold sgR at h
  by_cases q : sk b n p < n ∧ b (sk b n p) = x
  · rw [if_pos q] at h; cases h
  · rw [if_neg q] at h
    cases h
    refine ⟨_, c_needNo S W hp hx T c3 q, (((Ag.refl _ _).up (by decide)).up (by decide)).up (by decide), ?_, ?_, ?_⟩
    · simp (disch := decide) only [up2_k]; exact c1
    · simp (disch := decide) only [up2_k, up2_s]
    · rw [up2_s]
theorem c_sgO (S : Sw w) (W : TxW b n) (C : CT b n p I) {x v : Nat} (hx : x < 128) (h : sgR b n x p = .inr v) : ∃ I1, f_X8_need 1 (nn x) (st w I J) = some (.inl 1, st w I1 J) ∧ Ag [1] I I1 ∧ CT b n v I1 := by
  obtain ⟨T, c1, c6, c3, hp⟩ := C
  have g := sk_ge (b := b) hp
  unfold sgR at h
  by_cases q : sk b n p < n ∧ b (sk b n p) = x
  · rw [if_pos q] at h
    cases h
    refine ⟨_, c_needOk S W hp hx T c3 q, (Ag.refl _ _).up (by decide), ⟨T.up ⟨by decide, Or.inr (by decide)⟩, ?_, ?_, up2_s, by omega⟩⟩
    · simp (disch := decide) only [up2_k]; exact c1
    · simp (disch := decide) only [up2_k]; exact c6
  · rw [if_neg q] at h; cases h
-- a known word; its start stays in cell 4
theorem c_wdI (S : Sw w) (W : TxW b n) (C : CT b n p I) {k : Nat} (hk : k < 3) {l : List Nat} (hl : sgO k 0 l) (h : wdR b n k l p = .inl r) : ∃ I1, f_X8_word 1 k (st w I J) = some (.inl (-1), st w I1 J) ∧ Ag [1] I I1 ∧ CF r I1 := by
  obtain ⟨T, c1, c6, c3, hp⟩ := C
  have e := c_word (J := J) S W hk hp T c3 hl
  unfold wdR at h
  cases q : wIx k b (sk b n p) (wE b n (sk b n p)) 0 0 l with
  | some y => rw [q] at h; cases h
  | none =>
    rw [q] at h e
    cases h
    refine ⟨_, e, ((((Ag.refl _ _).up (by decide)).up (by decide)).up (by decide)).up (by decide), ?_, ?_, ?_⟩
    · simp (disch := decide) only [up2_k]; exact c1
    · simp (disch := decide) only [up2_k, up2_s]
    · rw [up2_s]
theorem c_wdO (S : Sw w) (W : TxW b n) (C : CT b n p I) {k : Nat} {v : Nat × Nat} (hk : k < 3) {l : List Nat} (hl : sgO k 0 l) (h : wdR b n k l p = .inr v) : ∃ I1, f_X8_word 1 k (st w I J) = some (.inl (nn v.1), st w I1 J) ∧ Ag [1] I I1 ∧ CT b n v.2 I1 ∧ I1 1 4 = nn (sk b n p) := by
  obtain ⟨T, c1, c6, c3, hp⟩ := C
  have e := c_word (J := J) S W hk hp T c3 hl
  have g := sk_ge (b := b) hp
  have g' := wE_ge (b := b) g.2
  unfold wdR at h
  cases q : wIx k b (sk b n p) (wE b n (sk b n p)) 0 0 l with
  | none => rw [q] at h; cases h
  | some y =>
    rw [q] at h e
    cases h
    refine ⟨_, e, ((Ag.refl _ _).up (by decide)).up (by decide), ⟨(T.up ⟨by decide, Or.inr (by decide)⟩).up ⟨by decide, Or.inr (by decide)⟩, ?_, ?_, up2_s, g'.2⟩, ?_⟩
    · simp (disch := decide) only [up2_k]; exact c1
    · simp (disch := decide) only [up2_k]; exact c6
    · simp (disch := decide) only [up2_k, up2_s]
/-- the class fails at a place -/
theorem c_failR (S : Sw w) (h1 : I 1 1 = 0) (x : Int32) (y : Nat) : ∃ I1, f_X8_fail 1 x (nn y) (st w I J) = some (.inl 0, st w I1 J) ∧ Ag [1] I I1 ∧ CF (x, y) I1 := by
  refine ⟨up2 (up2 I 1 5 x) 1 6 (nn y), ?_, ((Ag.refl _ _).up (by decide)).up (by decide), ?_, ?_, up2_s⟩
  · rw [f_X8_fail, bd_st (w_1_5 S), bd_st (w_1_6 S)]
    rfl
  · simp (disch := decide) only [up2_k]; exact h1
  · simp (disch := decide) only [up2_k, up2_s]
-- the model's number
theorem m_nuI (S : Sw w) (W : TxW b n) (C : MT b n p I) {m : Nat} (hm : m ≤ 1000) (h : nuR b n m p = .inl r) : ∃ I1, f_X12_number 49 0 (nn m - 1) (st w I J) = some (.inl 0, st w I1 J) ∧ MA I I1 ∧ MTx b n r I1 := by
  obtain ⟨T, c5, s, hs, c4, es⟩ := C
  have g := sk_ge (b := b) hs
  have g' := gE_ge (b := b) g.2
  rw [es] at g'
  unfold nuR at h
  by_cases q : sk b n p < gE b n (sk b n p) ∧ nuV b n (sk b n p) < m
  · rw [if_pos q] at h; cases h
  · rw [if_neg q] at h
    cases h
    have e := (m_num (J := J) S W hs T c4 c5 hm).2
    rw [es] at e
    refine ⟨_, e q, (((MA.refl I).up (Or.inl rfl)).up (Or.inr (Or.inl rfl))).up (Or.inr (Or.inr rfl)), ((T.up ⟨by decide, Or.inr (by decide)⟩).up ⟨by decide, Or.inr (by decide)⟩).up ⟨by decide, Or.inr (by decide)⟩, ?_, ?_, up2_s, gE b n (sk b n p), g'.2, ?_⟩
    · simp (disch := decide) only [up2_k, up2_s]
    · show ¬ (if sk b n p < gE b n (sk b n p) then (2 : Int32) else 1) = 0
      split <;> decide
    · simp (disch := decide) only [up2_k, up2_s]
theorem m_nuO (S : Sw w) (W : TxW b n) (C : MT b n p I) {m : Nat} {v : Nat × Nat} (hm : m ≤ 1000) (h : nuR b n m p = .inr v) : ∃ I1, f_X12_number 49 0 (nn m - 1) (st w I J) = some (.inl (nn v.1), st w I1 J) ∧ MA I I1 ∧ MT b n v.2 I1 ∧ v.1 < m := by
  obtain ⟨T, c5, s, hs, c4, es⟩ := C
  have g := sk_ge (b := b) hs
  have g' := gE_ge (b := b) g.2
  rw [es] at g'
  unfold nuR at h
  by_cases q : sk b n p < gE b n (sk b n p) ∧ nuV b n (sk b n p) < m
  · rw [if_pos q] at h
    cases h
    have e := (m_num (J := J) S W hs T c4 c5 hm).1
    rw [es] at e
    refine ⟨_, e q, (MA.refl I).up (Or.inl rfl), ⟨T.up ⟨by decide, Or.inr (by decide)⟩, ?_, gE b n (sk b n p), g'.2, up2_s, rfl⟩, q.2⟩
    simp (disch := decide) only [up2_k]; exact c5
  · rw [if_neg q] at h; cases h
theorem m_sgI (S : Sw w) (W : TxW b n) (C : MT b n p I) {x : Nat} (hx : x < 128) (h : sgR b n x p = .inl r) : ∃ I1, f_X12_sign 49 (nn x) (st w I J) = some (.inl (), st w I1 J) ∧ MA I I1 ∧ MTx b n r I1 := by
  obtain ⟨T, c5, s, hs, c4, es⟩ := C
  have g := sk_ge (b := b) hs
  rw [es] at g
  unfold sgR at h
  by_cases q : sk b n p < n ∧ b (sk b n p) = x
  · rw [if_pos q] at h; cases h
  · rw [if_neg q] at h
    cases h
    have e := m_signNo (J := J) (x := x) S W hs hx T c4 c5
    rw [es] at e
    refine ⟨_, e q, (((MA.refl I).up (Or.inl rfl)).up (Or.inr (Or.inl rfl))).up (Or.inr (Or.inr rfl)), ((T.up ⟨by decide, Or.inr (by decide)⟩).up ⟨by decide, Or.inr (by decide)⟩).up ⟨by decide, Or.inr (by decide)⟩, ?_, (by decide : ¬ (1 : Int32) = 0), up2_s, sk b n p, g.2, ?_⟩
    · simp (disch := decide) only [up2_k, up2_s]
    · simp (disch := decide) only [up2_k, up2_s]
theorem m_sgO (S : Sw w) (W : TxW b n) (C : MT b n p I) {x v : Nat} (hx : x < 128) (h : sgR b n x p = .inr v) : ∃ I1, f_X12_sign 49 (nn x) (st w I J) = some (.inl (), st w I1 J) ∧ MA I I1 ∧ MT b n v I1 := by
  obtain ⟨T, c5, s, hs, c4, es⟩ := C
  have g := sk_ge (b := b) hs
  rw [es] at g
  unfold sgR at h
  by_cases q : sk b n p < n ∧ b (sk b n p) = x
  · rw [if_pos q] at h
    cases h
    have e := m_signOk (J := J) (x := x) S W hs hx T c4 c5
    rw [es] at e
    refine ⟨_, e q, (MA.refl I).up (Or.inl rfl), ⟨T.up ⟨by decide, Or.inr (by decide)⟩, ?_, sk b n p + 1, by omega, up2_s, rfl⟩⟩
    simp (disch := decide) only [up2_k]; exact c5
  · rw [if_neg q] at h; cases h
theorem m_blR (S : Sw w) (W : TxW b n) (C : MT b n p I) : ∃ I1, f_X12_blanks 49 (st w I J) = some (.inl (), st w I1 J) ∧ MA I I1 ∧ MT b n p I1 ∧ I1 49 4 = nn (sk b n p) := by
  obtain ⟨T, c5, s, hs, c4, es⟩ := C
  have g := sk_ge (b := b) hs
  have i := sk_id (b := b) hs
  refine ⟨_, m_blanks S W hs T c4, (MA.refl I).up (Or.inl rfl), ⟨T.up ⟨by decide, Or.inr (by decide)⟩, ?_, sk b n s, g.2, up2_s, by rw [i, es]⟩, by rw [up2_s, es]⟩
  simp (disch := decide) only [up2_k]; exact c5
theorem m_blX (S : Sw w) (W : TxW b n) (C : MTx b n r I) : ∃ I1, f_X12_blanks 49 (st w I J) = some (.inl (), st w I1 J) ∧ MA I I1 ∧ MTx b n r I1 := by
  obtain ⟨T, c5, c0, c6, s, hs, c4⟩ := C
  have g := sk_ge (b := b) hs
  refine ⟨_, m_blanks S W hs T c4, (MA.refl I).up (Or.inl rfl), T.up ⟨by decide, Or.inr (by decide)⟩, ?_, c0, ?_, sk b n s, g.2, up2_s⟩
  · simp (disch := decide) only [up2_k]; exact c5
  · simp (disch := decide) only [up2_k]; exact c6
/-- a word in the model -/
theorem m_isWR (S : Sw w) (W : TxW b n) (C : MT b n p I) {x1 x2 x3 x4 x5 x6 : Int32} {c : Nat} (h6 : f_X12_six x1 x2 x3 x4 x5 x6 = pu (nn c)) : ∃ I1, f_X12_isWord 49 x1 x2 x3 x4 x5 x6 (st w I J) = some (.inl (bI (wcM b (sk b n p) (wE b n (sk b n p)) = nn c)), st w I1 J) ∧ MA I I1 ∧ MT b n p I1 ∧ I1 49 4 = nn (sk b n p) := by
  obtain ⟨T, c5, s, hs, c4, es⟩ := C
  have g := sk_ge (b := b) hs
  have i := sk_id (b := b) hs
  have e := m_isWord (J := J) S W hs T c4 c5 h6
  rw [es] at e i g
  refine ⟨_, e, (MA.refl I).up (Or.inl rfl), ⟨T.up ⟨by decide, Or.inr (by decide)⟩, ?_, sk b n p, g.2, up2_s, i⟩, up2_s⟩
  simp (disch := decide) only [up2_k]; exact c5
theorem m_skW (S : Sw w) (W : TxW b n) (C : MT b n p I) (h4 : I 49 4 = nn (sk b n p)) (hp : p ≤ n) : ∃ I1, f_X12_skipWord 49 (st w I J) = some (.inl (), st w I1 J) ∧ MA I I1 ∧ MT b n (wE b n (sk b n p)) I1 := by
  obtain ⟨T, c5, -⟩ := C
  have g := sk_ge (b := b) hp
  have g' := wE_ge (b := b) g.2
  refine ⟨_, m_skipW S W g.2 T h4, (MA.refl I).up (Or.inl rfl), ⟨T.up ⟨by decide, Or.inr (by decide)⟩, ?_, _, g'.2, up2_s, rfl⟩⟩
  simp (disch := decide) only [up2_k]; exact c5
theorem m_wrR (S : Sw w) (C : MT b n p I) {x : Int32} (hx : ¬ x = 0) (y : Nat) : ∃ I1, f_X12_wrong 49 x (nn y) (st w I J) = some (.inl (), st w I1 J) ∧ MA I I1 ∧ MTx b n (x, y) I1 := by
  obtain ⟨T, c5, s, hs, c4, es⟩ := C
  refine ⟨_, m_wrong S c5 x (nn y), ((MA.refl I).up (Or.inr (Or.inl rfl))).up (Or.inr (Or.inr rfl)), (T.up ⟨by decide, Or.inr (by decide)⟩).up ⟨by decide, Or.inr (by decide)⟩, ?_, hx, up2_s, s, hs, ?_⟩
  · simp (disch := decide) only [up2_k, up2_s]
  · simp (disch := decide) only [up2_k]; exact c4
end STEPS
