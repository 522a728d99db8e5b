/-! PURE PART: the whole script -/
theorem and63 (x : Int32) : ∃ j, j < 64 ∧ x &&& 63 = nn j := by
  obtain ⟨j, hj, e⟩ := pk_andE x (m := 63) 6 rfl
  exact ⟨j, by omega, e⟩
theorem Inv.up {k : Nat} {w : Wd} {I : Is} {J : Js} (H : Inv k w I J) : Inv (k + 1) w I J := by
  obtain ⟨S, h1, h2, h3⟩ := H
  exact ⟨S, by omega, by omega, h3⟩
theorem inv_0 : ∃ w I J, initP (0, 0, μ00) = some (.inl (0, 49, 525), st w I J) ∧ Inv 0 w I J := by
  obtain ⟨q, sh, I, J, R, e, hq, hs, hR, hV, hJ, h13⟩ := init_full
  have v : ∀ a k, (a, k) ∈ vPairs → I a k = vT a k := fun a k h => hV (a, k) h
  have z1 : ∀ p, p < 8 → (44, p) ∈ vPairs := by decide +kernel
  have z2 : ∀ p, p < 8 → (45, p) ∈ vPairs := by decide +kernel
  have z3 : ∀ p, p < 8 → (46, p) ∈ vPairs := by decide +kernel
  have z4 : ∀ p, p < 8 → (25, p) ∈ vPairs := by decide +kernel
  have z5 : ∀ p, p < 8 → (497, p) ∈ vPairs := by decide +kernel
  have z6 : ∀ p, p < 8 → (497, 8 + p) ∈ vPairs := by decide +kernel
  have z7 : ∀ p, p < 8 → (497, 16 + p) ∈ vPairs := by decide +kernel
  have z8 : ∀ p, p < 8 → (44, p) ∈ vPairs ∧ (45, p) ∈ vPairs ∧ (46, p) ∈ vPairs ∧ (25, p) ∈ vPairs ∧ (497, p) ∈ vPairs ∧ (497, 8 + p) ∈ vPairs ∧ (497, 16 + p) ∈ vPairs := fun p hp => ⟨z1 p hp, z2 p hp, z3 p hp, z4 p hp, z5 p hp, z6 p hp, z7 p hp⟩
  refine ⟨(526, q, sh, R), I, J, e, ⟨Nat.le_refl _, hs, hR⟩, Nat.le_refl _, hq, ((fo0, at0, lwU, wo0), (0, fun _ => 0), ([], []), (-1, 0, 0, 0)), ⟨⟨⟨?_, ?_, fun p hp => absurd hp (Nat.not_lt_zero _)⟩, ⟨?_, ?_, fun p hp => ⟨?_, ?_, ?_⟩, fun i hi => absurd hi (Nat.not_lt_zero _)⟩, ⟨?_, fun k hk => ?_⟩, ⟨?_, fun p hp => ?_, fun f hf => ⟨fun _ k hk => absurd hk (Nat.not_lt_zero _), fun _ => ?_⟩⟩, ⟨?_, fun c hc => absurd hc (Nat.not_lt_zero _)⟩, h13, ⟨?_, trivial⟩, ?_, ?_⟩, ?_, ?_⟩, ⟨⟨⟨?_, ?_, fun p hp => absurd hp (Nat.not_lt_zero _)⟩, ⟨fun p hp => ⟨?_, ?_, ?_⟩, ⟨?_, ?_, ?_, ?_⟩, fun i hi => absurd hi (Nat.not_lt_zero _)⟩, Or.inr ⟨?_, rfl⟩, ⟨?_, fun k hk => absurd hk (Nat.not_lt_zero _)⟩, ⟨?_, fun c hc => absurd hc (Nat.not_lt_zero _)⟩, ⟨?_, trivial⟩, ⟨?_, trivial⟩, ?_, ?_⟩, ?_, ?_⟩, ⟨fo0_W, ⟨⟨Nat.zero_le _, Nat.zero_le _, fun i hi => absurd hi (Nat.not_lt_zero _)⟩, Nat.zero_le _, fun p hp => ⟨Nat.zero_le _, Nat.zero_le _⟩, trivial⟩, Nat.zero_le _, lwU_W, ⟨Nat.zero_le _, fun k hk => absurd hk (Nat.not_lt_zero _), fun j k hj => absurd hj (Nat.not_lt_zero _)⟩, ⟨Nat.zero_le _, fun c hc => absurd hc (Nat.not_lt_zero _)⟩, Nat.zero_le _, fun q hq => absurd hq List.not_mem_nil⟩⟩
  · rw [v 3 4 (by decide +kernel)]; rfl
  · rw [v 3 5 (by decide +kernel)]; rfl
  · rw [v 43 4 (by decide +kernel)]; rfl
  · rw [v 43 5 (by decide +kernel)]; rfl
  · show I 44 p = _
    rw [v 44 p (z8 p hp).1]; rfl
  · show I 45 p = _
    rw [v 45 p (z8 p hp).2.1]; rfl
  · show I 46 p = _
    rw [v 46 p (z8 p hp).2.2.1]; rfl
  · rw [v 13 2 (by decide +kernel)]; rfl
  · have hk : k < 3 := hk
    rcases (show k = 0 ∨ k = 1 ∨ k = 2 by omega) with h | h | h <;> subst h
    · rw [v 14 0 (by decide +kernel)]; rfl
    · rw [v 14 1 (by decide +kernel)]; rfl
    · rw [v 14 2 (by decide +kernel)]; rfl
  · rw [v 24 4 (by decide +kernel)]; rfl
  · rw [v 25 p (z8 p hp).2.2.2.1]; rfl
  · rw [hJ]
    exact fit0 f hf
  · rw [v 1 1 (by decide +kernel)]; rfl
  · rw [v 0 14 (by decide +kernel)]; rfl
  · rw [v 1 6 (by decide +kernel)]; rfl
  · rw [v 0 15 (by decide +kernel)]; rfl
  · rw [v 0 16 (by decide +kernel)]; rfl
  · rw [v 0 17 (by decide +kernel)]; rfl
  · rw [v 53 0 (by decide +kernel)]; rfl
  · rw [v 53 1 (by decide +kernel)]; rfl
  · rw [Nat.zero_add, v 497 p (z8 p hp).2.2.2.2.1]; rfl
  · rw [Nat.zero_add, v 497 (8 + p) (z8 p hp).2.2.2.2.2.1]; rfl
  · rw [Nat.zero_add, v 497 (16 + p) (z8 p hp).2.2.2.2.2.2]; rfl
  · rw [v 497 (0 + 24) (by decide +kernel)]; rfl
  · rw [v 497 (0 + 25) (by decide +kernel)]; rfl
  · rw [v 497 (0 + 26) (by decide +kernel)]; rfl
  · rw [v 497 (0 + 27) (by decide +kernel)]; rfl
  · rw [v 49 17 (by decide +kernel)]; rfl
  · rw [v 49 31 (by decide +kernel)]; rfl
  · rw [v 49 1 (by decide +kernel)]; rfl
  · rw [v 49 32 (by decide +kernel)]; rfl
  · rw [v 49 34 (by decide +kernel)]; rfl
  · rw [v 49 3 (by decide +kernel)]; rfl
  · rw [v 49 33 (by decide +kernel)]; rfl
  · rw [v 51 0 (by decide +kernel)]; rfl
  · rw [v 51 1 (by decide +kernel)]; rfl
theorem law_loop (g : GW) (hL : (gS g).2.1 ≤ 4608) {w : Wd} {I : Is} {J : Js} (H : Inv 0 w I J) : ∃ σ', f_L_law__b23 g NF 0 49 525 0 (st w I J) = some (.inl 1, σ') := by
  obtain ⟨L, eL⟩ : ∃ L, L = (gS g).2.1 := ⟨_, rfl⟩
  have key := loopQ (fun N i (z : Wd × Is × Js) => f_L_law__b23 g N 0 49 525 (nn (9 * i)) (st z.1 z.2.1 z.2.2)) (L / 9) (fun i z => Inv i z.1 z.2.1 z.2.2) (fun v => ∃ σ', v = some (.inl 1, σ')) ?_ ?_ (L / 9) 0 (w, I, J) NF (by omega) (NF_gt (by omega)) H
  · exact key
  · intro N i ⟨w, I, J⟩ hi H
    left
    have H : Inv i w I J := H
    have hi9 : 9 * i + 9 ≤ (gS g).2.1 := by omega
    have q : ¬ ((Int32.ofNat (gS g).2.1) - (9 : Int32)) < nn (9 * i) := by
      show ¬ (nn (gS g).2.1 - nn 9 < nn (9 * i))
      rw [nn_sub (by omega), nn_lt (by omega) (by omega)]
      omega
    have nx : nn (9 * i) + 9 = nn (9 * (i + 1)) := by
      show nn (9 * i) + nn 9 = _
      rw [nn_add]
      congr 1
    obtain ⟨j, hj, ej⟩ := and63 ((gS g).2.2 (9 * i))
    have e0 : f_L_law__b23 g (N + 1) 0 49 525 (nn (9 * i)) (st w I J) = sw (nn j) 0 [(f_L_law__b236 g (f_L_law__b23 g N) 0 49 525 (nn (9 * i))), (f_L_law__b309 g (f_L_law__b23 g N) 0 49 525 (nn (9 * i))), (f_L_law__b365 g (f_L_law__b23 g N) 0 49 525 (nn (9 * i))), (f_L_law__b421 g (f_L_law__b23 g N) 0 49 525 (nn (9 * i))), (f_L_law__b477 g (f_L_law__b23 g N) 0 49 525 (nn (9 * i))), (f_L_law__b533 g (f_L_law__b23 g N) 0 49 525 (nn (9 * i))), (f_L_law__b546 g (f_L_law__b23 g N) 0 49 525 (nn (9 * i))), (f_L_law__b559 g (f_L_law__b23 g N) 0 49 525 (nn (9 * i))), (f_L_law__b615 g (f_L_law__b23 g N) 0 49 525 (nn (9 * i))), (f_L_law__b683 g (f_L_law__b23 g N) 0 49 525 (nn (9 * i))), (f_L_law__b751 g (f_L_law__b23 g N) 0 49 525 (nn (9 * i))), (f_L_law__b819 g (f_L_law__b23 g N) 0 49 525 (nn (9 * i))), (f_L_law__b899 g (f_L_law__b23 g N) 0 49 525 (nn (9 * i))), (f_L_law__b1045 g (f_L_law__b23 g N) 0 49 525 (nn (9 * i))), (f_L_law__b1113 g (f_L_law__b23 g N) 0 49 525 (nn (9 * i))), (f_L_law__b1126 g (f_L_law__b23 g N) 0 49 525 (nn (9 * i))), (f_L_law__b1139 g (f_L_law__b23 g N) 0 49 525 (nn (9 * i))), (f_L_law__b1195 g (f_L_law__b23 g N) 0 49 525 (nn (9 * i))), (f_L_law__b1251 g (f_L_law__b23 g N) 0 49 525 (nn (9 * i))), (f_L_law__b1307 g (f_L_law__b23 g N) 0 49 525 (nn (9 * i))), (f_L_law__b1375 g (f_L_law__b23 g N) 0 49 525 (nn (9 * i))), (f_L_law__b1443 g (f_L_law__b23 g N) 0 49 525 (nn (9 * i))), (f_L_law__b1499 g (f_L_law__b23 g N) 0 49 525 (nn (9 * i))), (f_L_law__b1555 g (f_L_law__b23 g N) 0 49 525 (nn (9 * i))), (f_L_law__b1611 g (f_L_law__b23 g N) 0 49 525 (nn (9 * i))), (f_L_law__b1624 g (f_L_law__b23 g N) 0 49 525 (nn (9 * i))), (f_L_law__b1680 g (f_L_law__b23 g N) 0 49 525 (nn (9 * i))), (f_L_law__b1772 g (f_L_law__b23 g N) 0 49 525 (nn (9 * i))), (f_L_law__b1852 g (f_L_law__b23 g N) 0 49 525 (nn (9 * i))), (f_L_law__b1908 g (f_L_law__b23 g N) 0 49 525 (nn (9 * i))), (f_L_law__b1921 g (f_L_law__b23 g N) 0 49 525 (nn (9 * i))), (f_L_law__b1977 g (f_L_law__b23 g N) 0 49 525 (nn (9 * i))), (f_L_law__b2033 g (f_L_law__b23 g N) 0 49 525 (nn (9 * i))), (f_L_law__b2101 g (f_L_law__b23 g N) 0 49 525 (nn (9 * i))), (f_L_law__b2169 g (f_L_law__b23 g N) 0 49 525 (nn (9 * i))), (f_L_law__b2237 g (f_L_law__b23 g N) 0 49 525 (nn (9 * i))), (f_L_law__b2293 g (f_L_law__b23 g N) 0 49 525 (nn (9 * i))), (f_L_law__b2361 g (f_L_law__b23 g N) 0 49 525 (nn (9 * i))), (f_L_law__b2417 g (f_L_law__b23 g N) 0 49 525 (nn (9 * i))), (f_L_law__b2485 g (f_L_law__b23 g N) 0 49 525 (nn (9 * i))), (f_L_law__b2577 g (f_L_law__b23 g N) 0 49 525 (nn (9 * i))), (f_L_law__b2695 g (f_L_law__b23 g N) 0 49 525 (nn (9 * i))), (f_L_law__b2708 g (f_L_law__b23 g N) 0 49 525 (nn (9 * i))), (f_L_law__b2721 g (f_L_law__b23 g N) 0 49 525 (nn (9 * i))), (f_L_law__b2746 g (f_L_law__b23 g N) 0 49 525 (nn (9 * i)))] (f_L_law__b2771 g (f_L_law__b23 g N) 0 49 525 (nn (9 * i))) (st w I J) := by
      rw [f_L_law__b23, if_neg q, sL_s hL (by omega), bd_pu, ej]
    have fin : ∀ {b : Mo Int32}, (∃ w1 I2 J', b (st w I J) = f_L_law__b23 g N 0 49 525 (nn (9 * i) + 9) (st w1 I2 J') ∧ Inv (i + 1) w1 I2 J') → f_L_law__b23 g (N + 1) 0 49 525 (nn (9 * i)) (st w I J) = b (st w I J) → ∃ y : Wd × Is × Js, f_L_law__b23 g (N + 1) 0 49 525 (nn (9 * i)) (st w I J) = f_L_law__b23 g N 0 49 525 (nn (9 * (i + 1))) (st y.1 y.2.1 y.2.2) ∧ Inv (i + 1) y.1 y.2.1 y.2.2 := fun {b} hb he => by
      obtain ⟨w1, I2, J', e1, H1⟩ := hb
      refine ⟨(w1, I2, J'), ?_, H1⟩
      rw [he, e1, nx]
    show ∃ y : Wd × Is × Js, f_L_law__b23 g (N + 1) 0 49 525 (nn (9 * i)) (st w I J) = f_L_law__b23 g N 0 49 525 (nn (9 * (i + 1))) (st y.1 y.2.1 y.2.2) ∧ Inv (i + 1) y.1 y.2.1 y.2.2
    have at_ : ∀ t, j = t → (nn j).toInt = 0 + (t : Int) := fun t ht => by
      rw [nn_int (by omega)]
      omega
    by_cases h45 : 45 ≤ j
    · refine ⟨(w, I, J), ?_, H.up⟩
      rw [e0, sw_df rfl hj (by exact h45), f_L_law__b2771, nx]
    by_cases h0 : j = 0
    · exact fin (l_B0 hL hi9 H) (by rw [e0, sw_at 0 (at_ 0 h0)]; rfl)
    by_cases h1 : j = 1
    · exact fin (l_B1 hL hi9 H) (by rw [e0, sw_at 1 (at_ 1 h1)]; rfl)
    by_cases h2 : j = 2
    · exact fin (l_B2 hL hi9 H) (by rw [e0, sw_at 2 (at_ 2 h2)]; rfl)
    by_cases h3 : j = 3
    · exact fin (l_B3 hL hi9 H) (by rw [e0, sw_at 3 (at_ 3 h3)]; rfl)
    by_cases h4 : j = 4
    · exact fin (l_B4 hL hi9 H) (by rw [e0, sw_at 4 (at_ 4 h4)]; rfl)
    by_cases h5 : j = 5
    · exact fin (l_B5 hL hi9 H) (by rw [e0, sw_at 5 (at_ 5 h5)]; rfl)
    by_cases h6 : j = 6
    · exact fin (l_B6 hL hi9 H) (by rw [e0, sw_at 6 (at_ 6 h6)]; rfl)
    by_cases h7 : j = 7
    · exact fin (l_B7 hL hi9 H) (by rw [e0, sw_at 7 (at_ 7 h7)]; rfl)
    by_cases h8 : j = 8
    · exact fin (l_B8 hL hi9 H) (by rw [e0, sw_at 8 (at_ 8 h8)]; rfl)
    by_cases h9 : j = 9
    · exact fin (l_B9 hL hi9 H) (by rw [e0, sw_at 9 (at_ 9 h9)]; rfl)
    by_cases h10 : j = 10
    · exact fin (l_B10 hL hi9 H) (by rw [e0, sw_at 10 (at_ 10 h10)]; rfl)
    by_cases h11 : j = 11
    · exact fin (l_B11 hL hi9 H) (by rw [e0, sw_at 11 (at_ 11 h11)]; rfl)
    by_cases h12 : j = 12
    · exact fin (l_B12 hL hi9 H) (by rw [e0, sw_at 12 (at_ 12 h12)]; rfl)
    by_cases h13 : j = 13
    · exact fin (l_B13 hL hi9 H) (by rw [e0, sw_at 13 (at_ 13 h13)]; rfl)
    by_cases h14 : j = 14
    · exact fin (l_B14 hL hi9 H) (by rw [e0, sw_at 14 (at_ 14 h14)]; rfl)
    by_cases h15 : j = 15
    · exact fin (l_B15 hL hi9 H) (by rw [e0, sw_at 15 (at_ 15 h15)]; rfl)
    by_cases h16 : j = 16
    · exact fin (l_B16 hL hi9 H) (by rw [e0, sw_at 16 (at_ 16 h16)]; rfl)
    by_cases h17 : j = 17
    · exact fin (l_B17 hL hi9 H) (by rw [e0, sw_at 17 (at_ 17 h17)]; rfl)
    by_cases h18 : j = 18
    · exact fin (l_B18 hL hi9 H) (by rw [e0, sw_at 18 (at_ 18 h18)]; rfl)
    by_cases h19 : j = 19
    · exact fin (l_B19 hL hi9 H) (by rw [e0, sw_at 19 (at_ 19 h19)]; rfl)
    by_cases h20 : j = 20
    · exact fin (l_B20 hL hi9 H) (by rw [e0, sw_at 20 (at_ 20 h20)]; rfl)
    by_cases h21 : j = 21
    · exact fin (l_B21 hL hi9 H) (by rw [e0, sw_at 21 (at_ 21 h21)]; rfl)
    by_cases h22 : j = 22
    · exact fin (l_B22 hL hi9 H) (by rw [e0, sw_at 22 (at_ 22 h22)]; rfl)
    by_cases h23 : j = 23
    · exact fin (l_B23 hL hi9 H) (by rw [e0, sw_at 23 (at_ 23 h23)]; rfl)
    by_cases h24 : j = 24
    · exact fin (l_B24 hL hi9 H) (by rw [e0, sw_at 24 (at_ 24 h24)]; rfl)
    by_cases h25 : j = 25
    · exact fin (l_B25 hL hi9 H) (by rw [e0, sw_at 25 (at_ 25 h25)]; rfl)
    by_cases h26 : j = 26
    · exact fin (l_B26 hL hi9 H) (by rw [e0, sw_at 26 (at_ 26 h26)]; rfl)
    by_cases h27 : j = 27
    · exact fin (l_B27 hL hi9 H) (by rw [e0, sw_at 27 (at_ 27 h27)]; rfl)
    by_cases h28 : j = 28
    · exact fin (l_B28 hL hi9 H) (by rw [e0, sw_at 28 (at_ 28 h28)]; rfl)
    by_cases h29 : j = 29
    · exact fin (l_B29 hL hi9 H) (by rw [e0, sw_at 29 (at_ 29 h29)]; rfl)
    by_cases h30 : j = 30
    · exact fin (l_B30 hL hi9 H) (by rw [e0, sw_at 30 (at_ 30 h30)]; rfl)
    by_cases h31 : j = 31
    · exact fin (l_B31 hL hi9 H) (by rw [e0, sw_at 31 (at_ 31 h31)]; rfl)
    by_cases h32 : j = 32
    · exact fin (l_B32 hL hi9 H) (by rw [e0, sw_at 32 (at_ 32 h32)]; rfl)
    by_cases h33 : j = 33
    · exact fin (l_B33 hL hi9 H) (by rw [e0, sw_at 33 (at_ 33 h33)]; rfl)
    by_cases h34 : j = 34
    · exact fin (l_B34 hL hi9 H) (by rw [e0, sw_at 34 (at_ 34 h34)]; rfl)
    by_cases h35 : j = 35
    · exact fin (l_B35 hL hi9 H) (by rw [e0, sw_at 35 (at_ 35 h35)]; rfl)
    by_cases h36 : j = 36
    · exact fin (l_B36 hL hi9 H) (by rw [e0, sw_at 36 (at_ 36 h36)]; rfl)
    by_cases h37 : j = 37
    · exact fin (l_B37 hL hi9 H) (by rw [e0, sw_at 37 (at_ 37 h37)]; rfl)
    by_cases h38 : j = 38
    · exact fin (l_B38 hL hi9 H) (by rw [e0, sw_at 38 (at_ 38 h38)]; rfl)
    by_cases h39 : j = 39
    · exact fin (l_B39 hL hi9 H) (by rw [e0, sw_at 39 (at_ 39 h39)]; rfl)
    by_cases h40 : j = 40
    · exact fin (l_B40 hL hi9 H) (by rw [e0, sw_at 40 (at_ 40 h40)]; rfl)
    by_cases h41 : j = 41
    · exact fin (l_B41 hL hi9 H) (by rw [e0, sw_at 41 (at_ 41 h41)]; rfl)
    by_cases h42 : j = 42
    · exact fin (l_B42 hL hi9 H) (by rw [e0, sw_at 42 (at_ 42 h42)]; rfl)
    by_cases h43 : j = 43
    · exact fin (l_B43 hL hi9 H) (by rw [e0, sw_at 43 (at_ 43 h43)]; rfl)
    by_cases h44 : j = 44
    · exact fin (l_B44 hL hi9 H) (by rw [e0, sw_at 44 (at_ 44 h44)]; rfl)
    omega
  · intro N ⟨w, I, J⟩ H
    refine ⟨st w I J, ?_⟩
    show f_L_law__b23 g (N + 1) 0 49 525 (nn (9 * (L / 9))) (st w I J) = _
    have q : ((Int32.ofNat (gS g).2.1) - (9 : Int32)) < nn (9 * (L / 9)) := by
      show (nn (gS g).2.1 - nn 9 < nn (9 * (L / 9)))
      rw [← eL]
      by_cases h : 9 ≤ L
      · rw [nn_sub h, nn_lt (by omega) (by omega)]
        omega
      · have e9 : L / 9 = 0 := by omega
        rw [e9]
        have : ∀ x, x < 9 → nn x - nn 9 < nn (9 * 0) := by decide +kernel
        exact this L (by omega)
    rw [f_L_law__b23, if_pos q]
    rfl
theorem pure_law : PureLaw := by
  intro g hL
  obtain ⟨w, I, J, e, H⟩ := inv_0
  obtain ⟨σ', e2⟩ := law_loop g hL H
  refine ⟨σ', ?_⟩
  rw [law_split]
  show bd initP _ (0, 0, μ00) = _
  rw [bd_st e]
  exact e2
