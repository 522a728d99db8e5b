/-! PURE PART: reading a text, small steps, in both -/
def scF (f : Nat → Bool) : Nat → Nat → Nat
  | 0, p => p
  | d + 1, p => if f p = true then scF f d (p + 1) else p
def sc (f : Nat → Bool) (n p : Nat) : Nat := scF f (n - p) p
theorem scF_ge (f : Nat → Bool) : ∀ d p, p ≤ scF f d p ∧ scF f d p ≤ p + d
  | 0, p => ⟨Nat.le_refl _, Nat.le_refl _⟩
  | d + 1, p => by
    unfold scF
    have := scF_ge f d (p + 1)
    split <;> omega
theorem scF_in (f : Nat → Bool) : ∀ d p q, p ≤ q → q < scF f d p → f q = true
  | 0, p, q, h1, h2 => by unfold scF at h2; omega
  | d + 1, p, q, h1, h2 => by
    unfold scF at h2
    by_cases h : f p = true
    · rw [if_pos h] at h2
      by_cases e : q = p
      · rw [e]; exact h
      · exact scF_in f d (p + 1) q (by omega) h2
    · rw [if_neg h] at h2
      omega
theorem scF_end (f : Nat → Bool) : ∀ d p, scF f d p < p + d → ¬ f (scF f d p) = true
  | 0, p, h => by unfold scF at h; omega
  | d + 1, p, h => by
    unfold scF at h ⊢
    by_cases q : f p = true
    · rw [if_pos q] at h ⊢
      exact scF_end f d (p + 1) (by omega)
    · rw [if_neg q]
      exact q
theorem sc_ge {f : Nat → Bool} {n p : Nat} (h : p ≤ n) : p ≤ sc f n p ∧ sc f n p ≤ n := by
  have := scF_ge f (n - p) p
  unfold sc
  omega
theorem sc_in {f : Nat → Bool} {n p q : Nat} (h1 : p ≤ q) (h2 : q < sc f n p) : f q = true := scF_in f _ p q h1 h2
theorem sc_end {f : Nat → Bool} {n p : Nat} (hp : p ≤ n) (h : sc f n p < n) : ¬ f (sc f n p) = true := by
  unfold sc at *
  exact scF_end f (n - p) p (by omega)
theorem sc_idem {f : Nat → Bool} {n p : Nat} (hp : p ≤ n) : sc f n (sc f n p) = sc f n p := by
  have g := sc_ge (f := f) hp
  rcases Nat.lt_or_ge (sc f n p) n with h | h
  · have e := sc_end hp h
    obtain ⟨q, hq⟩ : ∃ q, q = sc f n p := ⟨_, rfl⟩
    rw [← hq] at e h ⊢
    unfold sc
    obtain ⟨d, hd⟩ : ∃ d, n - q = d + 1 := ⟨n - q - 1, by omega⟩
    rw [hd]
    unfold scF
    rw [if_neg e]
  · obtain ⟨q, hq⟩ : ∃ q, q = sc f n p := ⟨_, rfl⟩
    rw [← hq] at g h ⊢
    unfold sc
    rw [show n - q = 0 by omega]
    rfl
theorem up2_id {F : Is} {a k : Nat} {v : Int32} (h : F a k = v) : up2 F a k v = F := by
  funext a' k'
  unfold up2
  by_cases q : a' = a ∧ k' = k
  · rw [if_pos q, q.1, q.2, h]
  · rw [if_neg q]
theorem up2_2 {F : Is} {a k : Nat} {u v : Int32} : up2 (up2 F a k u) a k v = up2 F a k v := by
  funext a' k'
  unfold up2
  by_cases q : a' = a ∧ k' = k
  · rw [if_pos q, if_pos q]
  · rw [if_neg q, if_neg q, if_neg q]
theorem up2_cm {F : Is} {a k a' k' : Nat} {u v : Int32} (h : k ≠ k') : up2 (up2 F a k u) a' k' v = up2 (up2 F a' k' v) a k u := by
  funext x y
  unfold up2
  by_cases q : x = a ∧ y = k <;> by_cases q' : x = a' ∧ y = k'
  · exact absurd (q.2.symm.trans q'.2) h
  · rw [if_neg q', if_pos q, if_pos q]
  · rw [if_pos q', if_neg q, if_pos q']
  · rw [if_neg q', if_neg q, if_neg q, if_neg q']
def isB (b : Nat → Nat) (c : Nat) : Bool := b c == 32
def isD (b : Nat → Nat) (c : Nat) : Bool := decide (48 ≤ b c) && decide (b c ≤ 57)
def isS (b : Nat → Nat) (c : Nat) : Bool := decide (97 ≤ b c) && decide (b c ≤ 122)
def sk (b : Nat → Nat) (n p : Nat) : Nat := sc (isB b) n p
/-- the text, in both -/
def TxW (b : Nat → Nat) (n : Nat) : Prop := n ≤ 600 ∧ ∀ c, c < n → b c < 256
def TxC (I : Is) (b : Nat → Nat) (n : Nat) : Prop := I 1 2 = nn n ∧ ∀ c, c < n → I 2 c = sx (b c)
def TxM (I : Is) (b : Nat → Nat) (n : Nat) : Prop := I 49 2 = nn n ∧ ∀ c, c < n → I 50 c = nn (b c)
theorem TxC.up {I : Is} {b : Nat → Nat} {n a k : Nat} {v : Int32} (H : TxC I b n) (h : a ≠ 2 ∧ (a ≠ 1 ∨ k ≠ 2)) : TxC (up2 I a k v) b n := by
  refine ⟨?_, fun c hc => ?_⟩
  · rcases h.2 with q | q
    · rw [up2_a (Ne.symm q)]; exact H.1
    · rw [up2_k (Ne.symm q)]; exact H.1
  · rw [up2_a (Ne.symm h.1)]; exact H.2 c hc
theorem TxM.up {I : Is} {b : Nat → Nat} {n a k : Nat} {v : Int32} (H : TxM I b n) (h : a ≠ 50 ∧ (a ≠ 49 ∨ k ≠ 2)) : TxM (up2 I a k v) b n := by
  refine ⟨?_, fun c hc => ?_⟩
  · rcases h.2 with q | q
    · rw [up2_a (Ne.symm q)]; exact H.1
    · rw [up2_k (Ne.symm q)]; exact H.1
  · rw [up2_a (Ne.symm h.1)]; exact H.2 c hc
theorem sx_eq : ∀ b, b < 256 → ∀ c, c < 128 → (sx b = nn c) = (b = c) := by
  have : ∀ b, b < 256 → ∀ c, c < 128 → (sx b = nn c ↔ b = c) := by decide +kernel
  exact fun b hb c hc => propext (this b hb c hc)
theorem sx_d : ∀ b, b < 256 → ((¬ sx b < 48 ∧ ¬ (57 : Int32) < sx b) ↔ (48 ≤ b ∧ b ≤ 57)) ∧ ((48 ≤ b ∧ b ≤ 57) → sx b = nn b) ∧ ((¬ sx b < 97 ∧ ¬ (122 : Int32) < sx b) ↔ (97 ≤ b ∧ b ≤ 122)) := by decide +kernel
theorem nb_d : ∀ b, b < 256 → ((¬ nn b < 48 ∧ ¬ (57 : Int32) < nn b) ↔ (48 ≤ b ∧ b ≤ 57)) ∧ ((¬ nn b < 97 ∧ ¬ (122 : Int32) < nn b) ↔ (97 ≤ b ∧ b ≤ 122)) := by decide +kernel
section TEXT
variable {w : Wd} {I : Is} {J : Js} {b : Nat → Nat} {n : Nat}
theorem c_isD {x : Nat} (hx : x < 256) {σ : PS} : f_X8_isDigit (sx x) σ = some (.inl (bI (48 ≤ x ∧ x ≤ 57)), σ) := by
  have q := (sx_d x hx).1
  unfold f_X8_isDigit
  by_cases h : 48 ≤ x ∧ x ≤ 57
  · obtain ⟨h1, h2⟩ := q.2 h
    rw [if_neg h1, if_neg h2, bI_t h]; rfl
  · rw [bI_f h]
    by_cases h1 : sx x < 48
    · rw [if_pos h1]; rfl
    · by_cases h2 : (57 : Int32) < sx x
      · rw [if_neg h1, if_pos h2]; rfl
      · exact absurd (q.1 ⟨h1, h2⟩) h
theorem m_isD {x : Nat} (hx : x < 256) {σ : PS} : f_X12_isDigit (nn x) σ = some (.inl (bI (48 ≤ x ∧ x ≤ 57)), σ) := by
  have q := (nb_d x hx).1
  unfold f_X12_isDigit
  by_cases h : 48 ≤ x ∧ x ≤ 57
  · obtain ⟨h1, h2⟩ := q.2 h
    rw [if_neg h1, if_neg h2, bI_t h]; rfl
  · rw [bI_f h]
    by_cases h1 : nn x < 48
    · rw [if_pos h1]; rfl
    · by_cases h2 : (57 : Int32) < nn x
      · rw [if_neg h1, if_pos h2]; rfl
      · exact absurd (q.1 ⟨h1, h2⟩) h
theorem m_isS {x : Nat} (hx : x < 256) {σ : PS} : f_X12_isSmall (nn x) σ = some (.inl (bI (97 ≤ x ∧ x ≤ 122)), σ) := by
  have q := (nb_d x hx).2
  unfold f_X12_isSmall
  by_cases h : 97 ≤ x ∧ x ≤ 122
  · obtain ⟨h1, h2⟩ := q.2 h
    rw [if_neg h1, if_neg h2, bI_t h]; rfl
  · rw [bI_f h]
    by_cases h1 : nn x < 97
    · rw [if_pos h1]; rfl
    · by_cases h2 : (122 : Int32) < nn x
      · rw [if_neg h1, if_pos h2]; rfl
      · exact absurd (q.1 ⟨h1, h2⟩) h
theorem m_isD1 {σ : PS} : f_X12_isDigit (-1) σ = some (.inl 0, σ) := rfl
theorem m_isS1 {σ : PS} : f_X12_isSmall (-1) σ = some (.inl 0, σ) := rfl
/-- a byte of the model's text; -1 behind its end -/
def byM (b : Nat → Nat) (n c : Nat) : Int32 := if c < n then nn (b c) else -1
theorem m_byte (S : Sw w) (T : TxM I b n) (hn : n ≤ 600) {c : Nat} (hc : c < 100000) : f_X12_byteAt 49 (nn c) (st w I J) = some (.inl (byM b n c), st w I J) := by
  have i2 := i_49_2 (I := I) (J := J) S
  rw [T.1] at i2
  have q : (nn c < nn n) = (c < n) := nn_lt (by omega) (by omega)
  unfold f_X12_byteAt byM
  rw [bd_st i2]
  by_cases h : c < n
  · have l := l_50 (I := I) (J := J) (k := c) S (by omega)
    rw [T.2 c h] at l
    rw [if_pos (by rw [q]; exact h), if_pos h, bd_st (r_49_9 S), bd_st l]
    rfl
  · rw [if_neg (by rw [q]; exact h), if_neg h]
    rfl
theorem byM_eq {x : Nat} (W : TxW b n) (hx : x < 128) (c : Nat) : (byM b n c = nn x) = (c < n ∧ b c = x) := by
  unfold byM
  by_cases h : c < n
  · rw [if_pos h, nn_eq (by have := W.2 c h; omega) (by omega)]
    simp [h]
  · rw [if_neg h]
    simp [h]
    exact fun q => nn_ne_neg (by omega) q.symm
theorem c_skip (S : Sw w) (W : TxW b n) : ∀ d p (I : Is) N, n - p = d → p ≤ n → d < N → TxC I b n → I 1 3 = nn p → f_X8_skipBlanks_b0 N 1 (st w I J) = some (.inl (), st w (up2 I 1 3 (nn (scF (isB b) d p))) J) := by
  have hn := W.1
  intro d
  induction d with
  | zero =>
    intro p I N hd hp hN T h3
    obtain ⟨N, rfl⟩ : ∃ M, N = M + 1 := ⟨N - 1, by omega⟩
    have i3 := i_1_3 (I := I) (J := J) S
    rw [h3] at i3
    have i2 := i_1_2 (I := I) (J := J) S
    rw [T.1] at i2
    rw [f_X8_skipBlanks_b0, bd_st i3, bd_st i2, if_pos (by rw [nn_le (by omega) (by omega)]; omega)]
    show some (_, st w I J) = some (_, st w (up2 I 1 3 (nn p)) J)
    rw [up2_id h3]
  | succ d ih =>
    intro p I N hd hp hN T h3
    obtain ⟨N, rfl⟩ : ∃ M, N = M + 1 := ⟨N - 1, by omega⟩
    have i3 := i_1_3 (I := I) (J := J) S
    rw [h3] at i3
    have i2 := i_1_2 (I := I) (J := J) S
    rw [T.1] at i2
    have l := l_2 (I := I) (J := J) (k := p) S (by omega)
    rw [T.2 p (by omega)] at l
    have hb := W.2 p (by omega)
    have qb : (sx (b p) = (32 : Int32)) = (b p = 32) := sx_eq _ hb 32 (by decide)
    have e : f_X8_skipBlanks_b0 (N + 1) 1 (st w I J) = (if (sx (b p) = 32 : Prop) then (bd (gI 8 3 1) fun v6 => bd (pf 8 3 1 (.int (v6 + 1))) fun _ => (f_X8_skipBlanks_b0 N) 1) else pu ()) (st w I J) := by
      rw [f_X8_skipBlanks_b0, bd_st i3, bd_st i2, if_neg (by rw [nn_le (by omega) (by omega)]; omega), bd_st (r_1_0 S), bd_st i3, bd_st l]
    rw [e]
    unfold scF
    by_cases h : b p = 32
    · rw [if_pos (by rw [qb]; exact h), if_pos (by unfold isB; simp [h]), bd_st i3, nn_succ, bd_st (w_1_3 S), ih (p + 1) (up2 I 1 3 (nn (p + 1))) N (by omega) (by omega) (by omega) (T.up ⟨by decide, Or.inr (by decide)⟩) up2_s, up2_2]
    · rw [if_neg (by rw [qb]; exact h), if_neg (by unfold isB; simp [h]), up2_id h3]
      rfl
theorem c_skipB (S : Sw w) (W : TxW b n) {p : Nat} (hp : p ≤ n) (T : TxC I b n) (h3 : I 1 3 = nn p) : f_X8_skipBlanks 1 (st w I J) = some (.inl (), st w (up2 I 1 3 (nn (sk b n p))) J) := by
  have hn := W.1
  exact c_skip S W (n - p) p I NF rfl hp (NF_gt (by omega)) T h3
theorem m_blank (S : Sw w) (W : TxW b n) : ∀ d p (I : Is) N, n - p = d → p ≤ n → d < N → TxM I b n → I 49 4 = nn p → f_X12_blanks_b0 N 49 (st w I J) = some (.inl (), st w (up2 I 49 4 (nn (scF (isB b) d p))) J) := by
  have hn := W.1
  intro d
  induction d with
  | zero =>
    intro p I N hd hp hN T h3
    obtain ⟨N, rfl⟩ : ∃ M, N = M + 1 := ⟨N - 1, by omega⟩
    have i3 := i_49_4 (I := I) (J := J) S
    rw [h3] at i3
    have by0 := (v_49 S (F := f_X12_byteAt 49 (nn p))).trans (m_byte (J := J) S T hn (show p < 100000 by omega))
    rw [f_X12_blanks_b0, bd_st i3, bd_st by0, if_neg (by rw [show (32 : Int32) = nn 32 from rfl, byM_eq W (by decide)]; omega)]
    show some (_, st w I J) = some (_, st w (up2 I 49 4 (nn p)) J)
    rw [up2_id h3]
  | succ d ih =>
    intro p I N hd hp hN T h3
    obtain ⟨N, rfl⟩ : ∃ M, N = M + 1 := ⟨N - 1, by omega⟩
    have i3 := i_49_4 (I := I) (J := J) S
    rw [h3] at i3
    have by0 := (v_49 S (F := f_X12_byteAt 49 (nn p))).trans (m_byte (J := J) S T hn (show p < 100000 by omega))
    rw [f_X12_blanks_b0, bd_st i3, bd_st by0]
    unfold scF
    by_cases h : b p = 32
    · rw [if_pos (by rw [show (32 : Int32) = nn 32 from rfl, byM_eq W (by decide)]; exact ⟨by omega, h⟩), if_pos (by unfold isB; simp [h]), bd_st i3, nn_succ, bd_st (w_49_4 S), ih (p + 1) (up2 I 49 4 (nn (p + 1))) N (by omega) (by omega) (by omega) (T.up ⟨by decide, Or.inr (by decide)⟩) up2_s, up2_2]
    · rw [if_neg (by rw [show (32 : Int32) = nn 32 from rfl, byM_eq W (by decide)]; exact fun q => h q.2), if_neg (by unfold isB; simp [h]), up2_id h3]
      rfl
theorem m_blanks (S : Sw w) (W : TxW b n) {p : Nat} (hp : p ≤ n) (T : TxM I b n) (h3 : I 49 4 = nn p) : f_X12_blanks 49 (st w I J) = some (.inl (), st w (up2 I 49 4 (nn (sk b n p))) J) := by
  have hn := W.1
  exact m_blank S W (n - p) p I NF rfl hp (NF_gt (by omega)) T h3
-- a sign that must stand there
theorem c_needOk (S : Sw w) (W : TxW b n) {p x : Nat} (hp : p ≤ n) (hx : x < 128) (T : TxC I b n) (h3 : I 1 3 = nn p) (h : sk b n p < n ∧ b (sk b n p) = x) : f_X8_need 1 (nn x) (st w I J) = some (.inl 1, st w (up2 I 1 3 (nn (sk b n p + 1))) J) := by
  have hn := W.1
  obtain ⟨s, hs⟩ : ∃ s, s = sk b n p := ⟨_, rfl⟩
  have e0 := (v_1 S (F := f_X8_skipBlanks 1)).trans (c_skipB (J := J) S W hp T h3)
  rw [← hs] at e0 h ⊢
  have i3 := i_1_3 (I := up2 I 1 3 (nn s)) (J := J) S
  rw [up2_s] at i3
  have i2 := i_1_2 (I := up2 I 1 3 (nn s)) (J := J) S
  rw [up2_k (by decide), T.1] at i2
  have l := l_2 (I := up2 I 1 3 (nn s)) (J := J) (k := s) S (by omega)
  rw [up2_a (by decide), T.2 s h.1] at l
  have qb : (sx (b s) = nn x) = (b s = x) := sx_eq _ (W.2 s h.1) x hx
  rw [f_X8_need, bd_st e0, bd_st i3, bd_st i2, if_neg (by rw [nn_le (by omega) (by omega)]; omega), bd_st (r_1_0 S), bd_st i3, bd_st l, if_pos (by rw [qb]; exact h.2), bd_st i3, nn_succ, bd_st (w_1_3 S), up2_2]
  rfl
theorem c_needNo (S : Sw w) (W : TxW b n) {p x : Nat} (hp : p ≤ n) (hx : x < 128) (T : TxC I b n) (h3 : I 1 3 = nn p) (h : ¬ (sk b n p < n ∧ b (sk b n p) = x)) : f_X8_need 1 (nn x) (st w I J) = some (.inl 0, st w (up2 (up2 (up2 I 1 3 (nn (sk b n p))) 1 5 1) 1 6 (nn (sk b n p))) J) := by
  have hn := W.1
  obtain ⟨s, hs⟩ : ∃ s, s = sk b n p := ⟨_, rfl⟩
  have g : s ≤ n := by rw [hs]; exact (sc_ge hp).2
  have e0 := (v_1 S (F := f_X8_skipBlanks 1)).trans (c_skipB (J := J) S W hp T h3)
  rw [← hs] at e0 h ⊢
  have i3 := i_1_3 (I := up2 I 1 3 (nn s)) (J := J) S
  rw [up2_s] at i3
  have i2 := i_1_2 (I := up2 I 1 3 (nn s)) (J := J) S
  rw [up2_k (by decide), T.1] at i2
  have fin : f_X8_need_b28 1 (st w (up2 I 1 3 (nn s)) J) = some (.inl 0, st w (up2 (up2 (up2 I 1 3 (nn s)) 1 5 1) 1 6 (nn s)) J) := by
    rw [f_X8_need_b28, bd_st i3, bd_st ((v_1 S).trans (show f_X8_fail 1 1 (nn s) (st w (up2 I 1 3 (nn s)) J) = some (.inl 0, st w (up2 (up2 (up2 I 1 3 (nn s)) 1 5 1) 1 6 (nn s)) J) from by rw [f_X8_fail, bd_st (w_1_5 S), bd_st (w_1_6 S)]; rfl))]
    exact rz0
  rw [f_X8_need, bd_st e0, bd_st i3, bd_st i2]
  by_cases q : s < n
  · have l := l_2 (I := up2 I 1 3 (nn s)) (J := J) (k := s) S (by omega)
    rw [up2_a (by decide), T.2 s q] at l
    have qb : (sx (b s) = nn x) = (b s = x) := sx_eq _ (W.2 s q) x hx
    rw [if_neg (by rw [nn_le (by omega) (by omega)]; omega), bd_st (r_1_0 S), bd_st i3, bd_st l, if_neg (by rw [qb]; exact fun q' => h ⟨q, q'⟩)]
    exact fin
  · rw [if_pos (by rw [nn_le (by omega) (by omega)]; omega)]
    exact fin
theorem m_wrong (S : Sw w) (h5 : I 49 5 = 0) (x y : Int32) : f_X12_wrong 49 x y (st w I J) = some (.inl (), st w (up2 (up2 I 49 5 x) 49 6 y) J) := by
  have i5 := i_49_5 (I := I) (J := J) S
  rw [h5] at i5
  rw [f_X12_wrong, bd_st i5, if_pos rfl, bd_st (w_49_5 S), bd_st (w_49_6 S)]
  rfl
theorem m_signF (S : Sw w) (h5 : ¬ I 49 5 = 0) (x : Int32) : f_X12_sign 49 x (st w I J) = some (.inl (), st w I J) := by
  rw [f_X12_sign, bd_st (i_49_5 S), if_neg h5]
  rfl
theorem m_signOk (S : Sw w) (W : TxW b n) {p x : Nat} (hp : p ≤ n) (hx : x < 128) (T : TxM I b n) (h3 : I 49 4 = nn p) (h5 : I 49 5 = 0) (h : sk b n p < n ∧ b (sk b n p) = x) : f_X12_sign 49 (nn x) (st w I J) = some (.inl (), st w (up2 I 49 4 (nn (sk b n p + 1))) J) := by
  have hn := W.1
  obtain ⟨s, hs⟩ : ∃ s, s = sk b n p := ⟨_, rfl⟩
  have e0 := (v_49 S (F := f_X12_blanks 49)).trans (m_blanks (J := J) S W hp T h3)
  rw [← hs] at e0 h ⊢
  have i3 := i_49_4 (I := up2 I 49 4 (nn s)) (J := J) S
  rw [up2_s] at i3
  have T' : TxM (up2 I 49 4 (nn s)) b n := T.up ⟨by decide, Or.inr (by decide)⟩
  have by0 := (v_49 S (F := f_X12_byteAt 49 (nn s))).trans (m_byte (J := J) S T' hn (show s < 100000 by omega))
  rw [f_X12_sign, bd_st (i_49_5 S), if_pos h5, bd_st e0, bd_st i3, bd_st by0, if_pos (by rw [byM_eq W hx]; exact h), bd_st i3, nn_succ, bd_st (w_49_4 S), up2_2]
  rfl
theorem m_signNo (S : Sw w) (W : TxW b n) {p x : Nat} (hp : p ≤ n) (hx : x < 128) (T : TxM I b n) (h3 : I 49 4 = nn p) (h5 : I 49 5 = 0) (h : ¬ (sk b n p < n ∧ b (sk b n p) = x)) : f_X12_sign 49 (nn x) (st w I J) = some (.inl (), st w (up2 (up2 (up2 I 49 4 (nn (sk b n p))) 49 5 1) 49 6 (nn (sk b n p))) J) := by
  have hn := W.1
  obtain ⟨s, hs⟩ : ∃ s, s = sk b n p := ⟨_, rfl⟩
  have g : s ≤ n := by rw [hs]; exact (sc_ge hp).2
  have e0 := (v_49 S (F := f_X12_blanks 49)).trans (m_blanks (J := J) S W hp T h3)
  rw [← hs] at e0 h ⊢
  have i3 := i_49_4 (I := up2 I 49 4 (nn s)) (J := J) S
  rw [up2_s] at i3
  have T' : TxM (up2 I 49 4 (nn s)) b n := T.up ⟨by decide, Or.inr (by decide)⟩
  have by0 := (v_49 S (F := f_X12_byteAt 49 (nn s))).trans (m_byte (J := J) S T' hn (show s < 100000 by omega))
  rw [f_X12_sign, bd_st (i_49_5 S), if_pos h5, bd_st e0, bd_st i3, bd_st by0, if_neg (by rw [byM_eq W hx]; exact h), bd_st i3, bd_st ((v_49 S).trans (m_wrong S (by rw [up2_k (by decide)]; exact h5) 1 (nn s)))]
  rfl
theorem c_atEnd (S : Sw w) (W : TxW b n) {p : Nat} (hp : p ≤ n) (T : TxC I b n) (h3 : I 1 3 = nn p) : f_X8_atEnd 1 (st w I J) = some (.inl (bI (¬ sk b n p < n)), st w (up2 I 1 3 (nn (sk b n p))) J) := by
  have hn := W.1
  obtain ⟨s, hs⟩ : ∃ s, s = sk b n p := ⟨_, rfl⟩
  have g : s ≤ n := by rw [hs]; exact (sc_ge hp).2
  have e0 := (v_1 S (F := f_X8_skipBlanks 1)).trans (c_skipB (J := J) S W hp T h3)
  rw [← hs] at e0 ⊢
  have i3 := i_1_3 (I := up2 I 1 3 (nn s)) (J := J) S
  rw [up2_s] at i3
  have i2 := i_1_2 (I := up2 I 1 3 (nn s)) (J := J) S
  rw [up2_k (by decide), T.1] at i2
  have q : (nn s < nn n) = (s < n) := nn_lt (by omega) (by omega)
  rw [f_X8_atEnd, bd_st e0, bd_st i3, bd_st i2]
  by_cases h : s < n
  · rw [if_pos (by rw [q]; exact h), bI_f (fun x => x h)]; rfl
  · rw [if_neg (by rw [q]; exact h), bI_t h]; rfl
end TEXT
