/-! PURE PART: what a text of words says, and the class reads it -/
theorem pigN : ∀ (k m : Nat) (f : Nat → Nat), (∀ j, j < k → f j < m) → (∀ i j, i < k → j < k → f i = f j → i = j) → k ≤ m
  | 0, m, f, _, _ => Nat.zero_le m
  | k + 1, m, f, h1, h2 => by
    have hm := h1 k (Nat.lt_succ_self k)
    have ne : ∀ j, j < k → ¬ f j = f k := fun j hj e => by
      have := h2 j k (by omega) (by omega) e
      omega
    have := pigN k (m - 1) (fun j => if f j < f k then f j else f j - 1) (fun j hj => by
      have a := h1 j (by omega)
      have b := ne j hj
      show (if f j < f k then f j else f j - 1) < m - 1
      split <;> omega) (fun i j hi hj e => by
      have b := ne i hi
      have c := ne j hj
      have e : (if f i < f k then f i else f i - 1) = (if f j < f k then f j else f j - 1) := e
      refine h2 i j (by omega) (by omega) ?_
      split at e <;> split at e <;> omega)
    omega
/-- a line more -/
def wAdd (V : Wo) (p m : Nat) : Wo := (V.1 + 1, (fun j => if j = V.1 then p else V.2.1 j), fun j => if j = V.1 then m else V.2.2 j)
theorem wAdd_W {F : Fo} {V : Wo} {p m : Nat} (H : WoW F V) (hp : p < sz F) (hm : m ≤ 6) (hn : ¬ tld V p) : WoW F (wAdd V p m) := by
  have hn : ∀ k, k < V.1 → ¬ V.2.1 k = p := Classical.not_not.1 hn
  have a : ∀ k, k < V.1 + 1 → (if k = V.1 then p else V.2.1 k) < sz F ∧ (if k = V.1 then m else V.2.2 k) ≤ 6 := fun k hk => by
    by_cases e : k = V.1
    · rw [if_pos e, if_pos e]; exact ⟨hp, hm⟩
    · rw [if_neg e, if_neg e]; exact H.2.1 k (by omega)
  have b : ∀ j k, j < V.1 + 1 → k < V.1 + 1 → (if j = V.1 then p else V.2.1 j) = (if k = V.1 then p else V.2.1 k) → j = k := fun j k hj hk e => by
    by_cases ej : j = V.1 <;> by_cases ek : k = V.1
    · omega
    · rw [if_pos ej, if_neg ek] at e
      exact absurd e.symm (hn k (by omega))
    · rw [if_neg ej, if_pos ek] at e
      exact absurd e (hn j (by omega))
    · rw [if_neg ej, if_neg ek] at e
      exact H.2.2 j k (by omega) (by omega) e
  exact ⟨pigN (V.1 + 1) (sz F) (fun k => if k = V.1 then p else V.2.1 k) (fun j hj => (a j hj).1) b, a, b⟩
theorem wAdd_s {V : Wo} {p m q : Nat} : saidW (wAdd V p m) q = if q = p then nn m else saidW V q := by
  show lp (fun k x => if (if k = V.1 then p else V.2.1 k) = q then nn (if k = V.1 then m else V.2.2 k) else x) (V.1 + 1) 0 (-1) = _
  rw [lp_end, Nat.zero_add, if_pos rfl, if_pos rfl, lp_congr (g := fun k x => if V.2.1 k = q then nn (V.2.2 k) else x) (fun j y h1 h2 => by
    show (if (if j = V.1 then p else V.2.1 j) = q then nn (if j = V.1 then m else V.2.2 j) else y) = _
    rw [if_neg (show ¬ j = V.1 by omega), if_neg (show ¬ j = V.1 by omega)])]
  by_cases h : p = q
  · rw [if_pos h, if_pos h.symm]
  · rw [if_neg h, if_neg (fun e => h e.symm)]
    rfl
/-- what the text says from p on, after V: a fault, or all words -/
def WP (b : Nat → Nat) (n m : Nat) : Nat → Nat → Wo → (Int32 × Nat) ⊕ Wo → Prop
  | 0, _, _, _ => False
  | d + 1, p, V, r => (¬ sk b n p < n ∧ r = .inr V) ∨
    (sk b n p < n ∧ ¬ (sk b n p < gE b n (sk b n p) ∧ nuV b n (sk b n p) < m) ∧ r = .inl (if sk b n p < gE b n (sk b n p) then 2 else 1, sk b n p)) ∨
    (sk b n p < n ∧ (sk b n p < gE b n (sk b n p) ∧ nuV b n (sk b n p) < m) ∧ tld V (nuV b n (sk b n p)) ∧ r = .inl (2, sk b n p)) ∨
    ∃ q, (sk b n p < n ∧ (sk b n p < gE b n (sk b n p) ∧ nuV b n (sk b n p) < m) ∧ ¬ tld V (nuV b n (sk b n p)) ∧ q = gE b n (sk b n p)) ∧
      ((¬ (sk b n q < gE b n (sk b n q) ∧ nuV b n (sk b n q) < 7) ∧ r = .inl (if sk b n q < gE b n (sk b n q) then 2 else 1, sk b n q)) ∨
      ∃ t, (sk b n q < gE b n (sk b n q) ∧ nuV b n (sk b n q) < 7) ∧ t = gE b n (sk b n q) ∧
        ((¬ (sk b n t < n ∧ b (sk b n t) = 59) ∧ r = .inl (1, sk b n t)) ∨
        ((sk b n t < n ∧ b (sk b n t) = 59) ∧ WP b n m d (sk b n t + 1) (wAdd V (nuV b n (sk b n p)) (nuV b n (sk b n q))) r)))
theorem gE_ge {b : Nat → Nat} {n s : Nat} (h : s ≤ n) : s ≤ gE b n s ∧ gE b n s ≤ n := sc_ge h
theorem sk_ge {b : Nat → Nat} {n s : Nat} (h : s ≤ n) : s ≤ sk b n s ∧ sk b n s ≤ n := sc_ge h
theorem sk_id {b : Nat → Nat} {n s : Nat} (h : s ≤ n) : sk b n (sk b n s) = sk b n s := sc_idem h
theorem WP_tot (b : Nat → Nat) (n m : Nat) : ∀ d p V, n - p < d → p ≤ n → ∃ r, WP b n m d p V r
  | 0, p, V, h, hp => by omega
  | d + 1, p, V, h, hp => by
    have g := sk_ge (b := b) hp
    by_cases h1 : sk b n p < n
    rotate_left
    · exact ⟨_, Or.inl ⟨h1, rfl⟩⟩
    by_cases h2 : sk b n p < gE b n (sk b n p) ∧ nuV b n (sk b n p) < m
    rotate_left
    · exact ⟨_, Or.inr (Or.inl ⟨h1, h2, rfl⟩)⟩
    by_cases h3 : tld V (nuV b n (sk b n p))
    · exact ⟨_, Or.inr (Or.inr (Or.inl ⟨h1, h2, h3, rfl⟩))⟩
    obtain ⟨q, hq⟩ : ∃ q, q = gE b n (sk b n p) := ⟨_, rfl⟩
    have gq := gE_ge (b := b) g.2
    have gq' := sk_ge (b := b) (n := n) (s := q) (by omega)
    by_cases h4 : sk b n q < gE b n (sk b n q) ∧ nuV b n (sk b n q) < 7
    rotate_left
    · exact ⟨_, Or.inr (Or.inr (Or.inr ⟨q, ⟨h1, h2, h3, hq⟩, Or.inl ⟨h4, rfl⟩⟩))⟩
    obtain ⟨t, ht⟩ : ∃ t, t = gE b n (sk b n q) := ⟨_, rfl⟩
    have gt := gE_ge (b := b) gq'.2
    have gt' := sk_ge (b := b) (n := n) (s := t) (by omega)
    by_cases h5 : sk b n t < n ∧ b (sk b n t) = 59
    rotate_left
    · exact ⟨_, Or.inr (Or.inr (Or.inr ⟨q, ⟨h1, h2, h3, hq⟩, Or.inr ⟨t, h4, ht, Or.inl ⟨h5, rfl⟩⟩⟩))⟩
    obtain ⟨r, hr⟩ := WP_tot b n m d (sk b n t + 1) (wAdd V (nuV b n (sk b n p)) (nuV b n (sk b n q))) (by omega) (by omega)
    exact ⟨r, Or.inr (Or.inr (Or.inr ⟨q, ⟨h1, h2, h3, hq⟩, Or.inr ⟨t, h4, ht, Or.inr ⟨h5, hr⟩⟩⟩))⟩
section WORDS
variable {w : Wd} {I : Is} {J : Js} {b : Nat → Nat} {n : Nat} {F : Fo}
/-- the class before a line -/
def WCl (I0 : Is) (b : Nat → Nat) (n : Nat) (F : Fo) (p : Nat) (V : Wo) (I : Is) : Prop := Ag [1, 26] I0 I ∧ TxC I b n ∧ I 1 1 = I0 1 1 ∧ I 1 6 = I0 1 6 ∧ I 1 3 = nn p ∧ I 3 4 = nn (sz F) ∧ ∀ q, q < 8 → I 26 q = saidW V q
def WEn (w : Wd) (J : Js) (I0 : Is) (F : Fo) (z : Option ((Int32 ⊕ (Nat × Nat)) × PS)) : (Int32 × Nat) ⊕ Wo → Prop
  | .inl r => ∃ I1, z = some (.inl 0, st w I1 J) ∧ Ag [1, 26] I0 I1 ∧ I1 1 1 = I0 1 1 ∧ I1 1 5 = r.1 ∧ I1 1 6 = nn r.2
  | .inr V => ∃ I1, z = f_X1_read_b52 24 (nn V.1) (st w I1 J) ∧ Ag [1, 26] I0 I1 ∧ I1 1 1 = I0 1 1 ∧ I1 1 6 = I0 1 6 ∧ WoW F V ∧ ∀ q, q < 8 → I1 26 q = saidW V q
theorem c_words (S : Sw w) (W : TxW b n) (WF : FoW F) {I0 : Is} {r : (Int32 × Nat) ⊕ Wo} : ∀ d p V I N, WP b n (sz F) d p V r → WCl I0 b n F p V I → p ≤ n → WoW F V → 8 - V.1 < N → WEn w J I0 F (f_X1_read_b23 N 24 1 (nn V.1) (st w I J)) r := by
  have hn := W.1
  have z8 := WF.1
  intro d
  induction d with
  | zero => intro p V I N H; exact H.elim
  | succ d ih =>
    intro p V I N H ⟨a, T, t1, t6, h3, hz, hdr⟩ hp WV hN
    obtain ⟨N, rfl⟩ : ∃ M, N = M + 1 := ⟨N - 1, by omega⟩
    have v8 := WV.1
    have e0 := (v_1 S (F := f_X8_atEnd 1)).trans (c_atEnd (J := J) S W hp T h3)
    have q8 : ¬ (8 : Int32) < nn V.1 := by rw [show (8 : Int32) = nn 8 from rfl, nn_lt (by omega) (by omega)]; omega
    have g := sk_ge (b := b) hp
    have sid := sk_id (b := b) hp
    obtain ⟨s, hs⟩ : ∃ s, s = sk b n p := ⟨_, rfl⟩
    unfold WP at H
    rw [← hs] at H e0 g sid
    rcases H with ⟨h1, rfl⟩ | H
    · rw [bI_t h1] at e0
      refine ⟨up2 I 1 3 (nn s), ?_, a.up (by decide), by rw [up2_k (by decide)]; exact t1, by rw [up2_k (by decide)]; exact t6, WV, fun q hq => by rw [up2_a (by decide)]; exact hdr q hq⟩
      rw [f_X1_read_b23, if_neg q8, bd_st e0, if_neg (by decide)]
    have h1 : s < n := by
      rcases H with ⟨h1, -⟩ | ⟨h1, -⟩ | ⟨q, ⟨h1, -⟩, -⟩ <;> exact h1
    rw [bI_f (fun x => x h1)] at e0
    have T1 : TxC (up2 I 1 3 (nn s)) b n := T.up ⟨by decide, Or.inr (by decide)⟩
    have j34 := i_3_4 (I := up2 I 1 3 (nn s)) (J := J) S
    rw [up2_a (by decide), hz] at j34
    obtain ⟨n1, n2⟩ := c_num (J := J) (m := sz F) S W (show s ≤ n by omega) T1 up2_s (by omega)
    rw [sid] at n1 n2
    have hd : ∀ x, x = f_X1_readLine 24 1 (st w (up2 I 1 3 (nn s)) J) → f_X1_read_b23 (N + 1) 24 1 (nn V.1) (st w I J) = bd (fun _ => x) (fun v6 => if (v6 = 0 : Prop) then (pu 0) else (f_X1_read_b23 N) 24 1 (nn V.1 + 1)) (st w (up2 I 1 3 (nn s)) J) := fun x hx => by
      rw [f_X1_read_b23, if_neg q8, bd_st e0, if_pos rfl, hx]
      show bd (cv 1 24 (f_X1_readLine 24 1)) _ _ = bd _ _ _
      unfold bd
      rw [v_24 S]
    rcases H with ⟨-, h2, rfl⟩ | ⟨-, h2, ht, rfl⟩ | ⟨q, ⟨-, h2, ht, hq⟩, H⟩
    · refine ⟨up2 (up2 (up2 (up2 (up2 I 1 3 (nn s)) 1 4 (nn s)) 1 3 (nn (gE b n s))) 1 5 (if s < gE b n s then 2 else 1)) 1 6 (nn s), ?_, ((((a.up (by decide)).up (by decide)).up (by decide)).up (by decide)).up (by decide), ?_, ?_, up2_s⟩
      · rw [hd _ rfl]
        show bd (f_X1_readLine 24 1) _ _ = _
        refine (bd_st (x := 0) ?_).trans rfl
        rw [f_X1_readLine, bd_st (r_24_0 S), bd_st j34, bd_st ((v_1 S).trans (n2 h2)), if_pos rfl]
        rfl
      · simp (disch := decide) only [up2_k]
        exact t1
      · simp (disch := decide) only [up2_k, up2_s]
    all_goals
      have hv : nuV b n s < 8 := by omega
    · have i4 := i_1_4 (I := up2 (up2 (up2 I 1 3 (nn s)) 1 4 (nn s)) 1 3 (nn (gE b n s))) (J := J) S
      rw [up2_k (by decide), up2_s] at i4
      have l := l_26 (I := up2 (up2 (up2 I 1 3 (nn s)) 1 4 (nn s)) 1 3 (nn (gE b n s))) (J := J) S hv
      rw [up2_a (by decide), up2_a (by decide), up2_a (by decide), hdr _ hv] at l
      refine ⟨up2 (up2 (up2 (up2 (up2 I 1 3 (nn s)) 1 4 (nn s)) 1 3 (nn (gE b n s))) 1 5 2) 1 6 (nn s), ?_, ((((a.up (by decide)).up (by decide)).up (by decide)).up (by decide)).up (by decide), ?_, ?_, up2_s⟩
      · rw [hd _ rfl]
        show bd (f_X1_readLine 24 1) _ _ = _
        refine (bd_st (x := 0) ?_).trans rfl
        rw [f_X1_readLine, bd_st (r_24_0 S), bd_st j34, bd_st ((v_1 S).trans (n1 h2)), if_neg (nn_ne_neg (by omega)), bd_st (r_24_2 S), bd_st l, if_neg (fun q => (said_t WV _).1 q ht), bd_st i4, bd_st ((v_1 S).trans (show f_X8_fail 1 2 (nn s) (st w _ J) = some (.inl 0, st w (up2 (up2 (up2 (up2 (up2 I 1 3 (nn s)) 1 4 (nn s)) 1 3 (nn (gE b n s))) 1 5 2) 1 6 (nn s)) J) from by rw [f_X8_fail, bd_st (w_1_5 S), bd_st (w_1_6 S)]; rfl))]
        exact rz0
      · simp (disch := decide) only [up2_k]
        exact t1
      · simp (disch := decide) only [up2_k, up2_s]
    · obtain ⟨I2, hI2⟩ : ∃ I2, I2 = up2 (up2 (up2 I 1 3 (nn s)) 1 4 (nn s)) 1 3 (nn (gE b n s)) := ⟨_, rfl⟩
      have ge := gE_ge (b := b) (show s ≤ n by omega)
      have n1 := n1 h2
      rw [← hI2] at n1
      have T2 : TxC I2 b n := by rw [hI2]; exact ((T.up ⟨by decide, Or.inr (by decide)⟩).up ⟨by decide, Or.inr (by decide)⟩).up ⟨by decide, Or.inr (by decide)⟩
      have a2 : Ag [1, 26] I0 I2 := by rw [hI2]; exact ((a.up (by decide)).up (by decide)).up (by decide)
      have k1 : I2 1 1 = I0 1 1 := by rw [hI2]; simp (disch := decide) only [up2_k]; exact t1
      have k6 : I2 1 6 = I0 1 6 := by rw [hI2]; simp (disch := decide) only [up2_k]; exact t6
      have k3 : I2 1 3 = nn q := by rw [hI2, hq, up2_s]
      have kz : I2 3 4 = nn (sz F) := by rw [hI2]; simp (disch := decide) only [up2_a]; exact hz
      have kd : ∀ q, q < 8 → I2 26 q = saidW V q := fun q hq => by rw [hI2]; simp (disch := decide) only [up2_a]; exact hdr q hq
      have l := l_26 (I := I2) (J := J) S hv
      rw [kd _ hv] at l
      obtain ⟨v, hvv⟩ : ∃ v, v = nuV b n s := ⟨_, rfl⟩
      rw [← hvv] at hv ht l n1 H
      have hsd : saidW V v = -1 := (said_t WV _).2 ht
      have gq := sk_ge (b := b) (show q ≤ n by omega)
      obtain ⟨m1, m2⟩ := c_num (I := I2) (J := J) (m := 7) S W (show q ≤ n by omega) T2 k3 (by omega)
      obtain ⟨u, hu⟩ : ∃ u, u = sk b n q := ⟨_, rfl⟩
      rw [← hu] at m1 m2 H gq
      have six : (6 : Int32) = nn 7 - 1 := by decide
      have rl : ∀ x I3, f_X8_number 1 (nn 7 - 1) (st w I2 J) = some (.inl x, st w I3 J) → f_X1_readLine 24 1 (st w (up2 I 1 3 (nn s)) J) = (if (x = (-1) : Prop) then (pu 0) else bd (cv 8 1 (f_X8_need 1 59)) fun v10 => if (v10 = 0 : Prop) then (pu 0) else pu 1) (st w (up2 I3 26 v x) J) := fun x I3 hx => by
        have l' := l_26 (I := up2 I3 26 v x) (J := J) S hv
        rw [up2_s] at l'
        rw [f_X1_readLine, bd_st (r_24_0 S), bd_st j34, bd_st ((v_1 S).trans n1), if_neg (nn_ne_neg (by omega)), bd_st (r_24_2 S), bd_st l, if_pos hsd, bd_st (r_24_2 S), six, bd_st ((v_1 S).trans hx), bd_st (s_26 S hv), bd_st (r_24_2 S), bd_st l']
      rcases H with ⟨h4, rfl⟩ | ⟨t, h4, ht', H⟩
      · refine ⟨up2 (up2 (up2 (up2 (up2 I2 1 4 (nn u)) 1 3 (nn (gE b n u))) 1 5 (if u < gE b n u then 2 else 1)) 1 6 (nn u)) 26 v (-1), ?_, ((((a2.up (by decide)).up (by decide)).up (by decide)).up (by decide)).up (by decide), ?_, ?_, ?_⟩
        · rw [hd _ rfl]
          show bd (f_X1_readLine 24 1) _ _ = _
          refine (bd_st (x := 0) ?_).trans rfl
          rw [rl _ _ (m2 h4), if_pos rfl]
          rfl
        · simp (disch := decide) only [up2_a, up2_k]
          exact k1
        · simp (disch := decide) only [up2_a, up2_k, up2_s]
        · simp (disch := decide) only [up2_a, up2_k, up2_s]
      · have gt := gE_ge (b := b) (show u ≤ n by omega)
        obtain ⟨I4, hI4⟩ : ∃ I4, I4 = up2 (up2 (up2 I2 1 4 (nn u)) 1 3 (nn (gE b n u))) 26 v (nn (nuV b n u)) := ⟨_, rfl⟩
        have r4 := rl _ _ (m1 h4)
        rw [if_neg (nn_ne_neg (by omega)), ← hI4] at r4
        have T4 : TxC I4 b n := by rw [hI4]; exact ((T2.up ⟨by decide, Or.inr (by decide)⟩).up ⟨by decide, Or.inr (by decide)⟩).up ⟨by decide, Or.inl (by decide)⟩
        have a4 : Ag [1, 26] I0 I4 := by rw [hI4]; exact ((a2.up (by decide)).up (by decide)).up (by decide)
        have y1 : I4 1 1 = I0 1 1 := by rw [hI4]; simp (disch := decide) only [up2_a, up2_k]; exact k1
        have y6 : I4 1 6 = I0 1 6 := by rw [hI4]; simp (disch := decide) only [up2_a, up2_k]; exact k6
        have y3 : I4 1 3 = nn t := by rw [hI4, ht']; simp (disch := decide) only [up2_a, up2_s]
        have yz : I4 3 4 = nn (sz F) := by rw [hI4]; simp (disch := decide) only [up2_a]; exact kz
        have yd : ∀ q, q < 8 → I4 26 q = saidW (wAdd V v (nuV b n u)) q := fun q hq => by
          rw [hI4, wAdd_s]
          by_cases e : q = v
          · rw [if_pos e, e, up2_s]
          · rw [if_neg e, up2_k e, up2_a (by decide), up2_a (by decide)]
            exact kd q hq
        rcases H with ⟨h5, rfl⟩ | ⟨h5, H⟩
        · have e5 : f_X8_need 1 59 _ = _ := c_needNo (J := J) (x := 59) S W (show t ≤ n by omega) (by decide) T4 y3 h5
          refine ⟨up2 (up2 (up2 I4 1 3 (nn (sk b n t))) 1 5 1) 1 6 (nn (sk b n t)), ?_, ((a4.up (by decide)).up (by decide)).up (by decide), ?_, ?_, up2_s⟩
          · rw [hd _ rfl]
            show bd (f_X1_readLine 24 1) _ _ = _
            refine (bd_st (x := 0) ?_).trans rfl
            rw [r4, bd_st ((v_1 S).trans e5), if_pos rfl]
            rfl
          · simp (disch := decide) only [up2_k]
            exact y1
          · simp (disch := decide) only [up2_k, up2_s]
        · have e5 : f_X8_need 1 59 _ = _ := c_needOk (J := J) (x := 59) S W (show t ≤ n by omega) (by decide) T4 y3 h5
          have gt' := sk_ge (b := b) (show t ≤ n by omega)
          have WV' := wAdd_W WV (show v < sz F by omega) (show nuV b n u ≤ 6 by omega) ht
          have : f_X1_read_b23 (N + 1) 24 1 (nn V.1) (st w I J) = f_X1_read_b23 N 24 1 (nn (wAdd V v (nuV b n u)).1) (st w (up2 I4 1 3 (nn (sk b n t + 1))) J) := by
            rw [hd _ rfl]
            show bd (f_X1_readLine 24 1) _ _ = _
            refine (bd_st (x := 1) (σ' := st w (up2 I4 1 3 (nn (sk b n t + 1))) J) ?_).trans ?_
            · rw [r4, bd_st ((v_1 S).trans e5), if_neg (by decide)]
              rfl
            · rw [if_neg (by decide), nn_succ]
              rfl
          rw [this]
          refine ih _ _ _ N H ⟨a4.up (by decide), T4.up ⟨by decide, Or.inr (by decide)⟩, ?_, ?_, up2_s, ?_, fun q hq => ?_⟩ (by omega) WV' ?_
          · rw [up2_k (by decide)]; exact y1
          · rw [up2_k (by decide)]; exact y6
          · rw [up2_a (by decide)]; exact yz
          · rw [up2_a (by decide)]; exact yd q hq
          · show 8 - (V.1 + 1) < N
            have := WV'.1
            have : (wAdd V v (nuV b n u)).1 = V.1 + 1 := rfl
            omega
end WORDS
