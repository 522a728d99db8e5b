/-! PURE PART: the start, the loop, the law -/
section LOOP
variable {w : Wd} {I : Is} {J : Js} {c m : Mo Int32} {k : Nat} {K : Mo Int32}
theorem t14 (H : Inv k w I J) (C : CallA w I J c m) : ∃ w1 I2 J', tlT c m (hn1 14 (pu 1)) K (st w I J) = K (st w1 I2 J') ∧ Inv (k + 1) w1 I2 J' := by
  have C' : Call w I J 1 c m := by
    rcases C with C | C
    · exact Or.inl C
    · exact Or.inr (Or.inr C)
  refine tlT_ok (code := 1) (fun a σ => Or.inr fun σ' e => ?_) (fun a σ => Or.inl rfl) (by decide) H.1 (C'.ok H)
  rcases C with ⟨v, I1, e1, -⟩ | ⟨e1, -⟩
  · rw [e1] at e; cases e
  · rw [e1] at e; cases e
theorem t13 (H : Inv k w I J) (C : CallN w I J c m) : ∃ w1 I2 J', tlT c m (hn1 13 (pu 1)) K (st w I J) = K (st w1 I2 J') ∧ Inv (k + 1) w1 I2 J' := by
  have C' : Call w I J 1 c m := by
    rcases C with C | C
    · exact Or.inl C
    · exact Or.inr (Or.inl C)
  refine tlT_ok (code := 1) (fun a σ => Or.inl rfl) (fun a σ => Or.inr fun σ' e => ?_) (by decide) H.1 (C'.ok H)
  rcases C with ⟨v, I1, e1, -⟩ | ⟨e1, -⟩
  · rw [e1] at e; cases e
  · rw [e1] at e; cases e
theorem t12 (H : Inv k w I J) (C : Call w I J 2 c m) : ∃ w1 I2 J', tlT c m (hn2 (pu 1) (pu 2)) K (st w I J) = K (st w1 I2 J') ∧ Inv (k + 1) w1 I2 J' :=
  tlT_ok (code := 2) (fun a σ => Or.inl rfl) (fun a σ => Or.inl rfl) (by decide) H.1 (C.ok H)
theorem tK (H : Inv k w I J) (C : CallI k w I J c m ∨ CallE k w I J 14 1 c m) : ∃ w1 I2 J', tlT c m (hn1 14 (pu 1)) K (st w I J) = K (st w1 I2 J') ∧ Inv (k + 1) w1 I2 J' := by
  have C' : CallK k w I J 1 c m := by
    rcases C with C | C
    · exact Or.inl C
    · exact Or.inr (Or.inr C)
  refine tlT_ok (code := 1) (fun a σ => Or.inr fun σ' e => ?_) (fun a σ => Or.inl rfl) (by decide) H.1 C'
  rcases C with ⟨v, w1, I1, J1, e1, -⟩ | ⟨w1, I1, J1, b, e1, -⟩
  · rw [e1] at e; cases e
  · rw [e1] at e; cases e
theorem tD (H : Inv k w I J) (C : CallG w I J c m) : ∃ w1 I2 J', tlD c m K (st w I J) = K (st w1 I2 J') ∧ Inv (k + 1) w1 I2 J' := tlD_ok H.1 (C.ok H)
end LOOP
theorem sL_s {g : GW} {i : Nat} (hL : (gS g).2.1 ≤ 4608) (hi : i < (gS g).2.1) : sL g (nn i) = pu ((gS g).2.2 i) := by
  unfold sL
  rw [if_pos (nn_inN hi (by omega)), nn_cl (by omega)]
theorem sw_df {α : Type} {x : Int32} {bs : List (Mo α)} {d : Mo α} {j : Nat} (hx : x = nn j) (hj : j < 64) (hl : bs.length ≤ j) : sw x 0 bs d = d := by
  have e : x.toInt = 0 + (j : Int) := by
    rw [hx, nn_int (by omega)]
    omega
  rw [sw_at j e, List.getElem?_eq_none hl]
  rfl
section BLOCKS
variable {g : GW} {k23 : Nat → Nat → Nat → Int32 → Mo Int32} {w : Wd} {I : Is} {J : Js} {i : Nat}
theorem sN (hL : (gS g).2.1 ≤ 4608) (hi : 9 * i + 9 ≤ (gS g).2.1) {t : Nat} (ht : t < 9) {y : Int32} (hy : y = nn t) : sL g (nn (9 * i) + y) = pu ((gS g).2.2 (9 * i + t)) := by
  rw [hy, nn_add]
  exact sL_s hL (by omega)
theorem l_B0 (hL : (gS g).2.1 ≤ 4608) (hi : 9 * i + 9 ≤ (gS g).2.1) (H : Inv i w I J) : ∃ w1 I2 J', f_L_law__b236 g k23 0 49 525 (nn (9 * i)) (st w I J) = k23 0 49 525 (nn (9 * i) + 9) (st w1 I2 J') ∧ Inv (i + 1) w1 I2 J' := by
  have hr := H.rm (by omega)
  obtain ⟨S, -, -, D, HC, HM, W⟩ := id H
  rw [k_0 (g := g) (k23 := k23) (x := nn (9 * i)) (s := fun t => (gS g).2.2 (9 * i + t)) (sN hL hi (t := 1) (by decide) rfl) (sN hL hi (t := 2) (by decide) rfl) (sN hL hi (t := 3) (by decide) rfl) (sN hL hi (t := 4) (by decide) rfl) (sN hL hi (t := 5) (by decide) rfl)]
  exact tlD_ok H.1 (g_feed H (fun t => (gS g).2.2 (9 * i + (t + 1))))
theorem l_B1 (hL : (gS g).2.1 ≤ 4608) (hi : 9 * i + 9 ≤ (gS g).2.1) (H : Inv i w I J) : ∃ w1 I2 J', f_L_law__b309 g k23 0 49 525 (nn (9 * i)) (st w I J) = k23 0 49 525 (nn (9 * i) + 9) (st w1 I2 J') ∧ Inv (i + 1) w1 I2 J' := by
  have hr := H.rm (by omega)
  obtain ⟨S, -, -, D, HC, HM, W⟩ := id H
  rw [k_1 (g := g) (k23 := k23) (x := nn (9 * i)) (s := fun t => (gS g).2.2 (9 * i + t)) (sN hL hi (t := 1) (by decide) rfl)]
  exact tK H (a_town H (by omega) _)
theorem l_B2 (hL : (gS g).2.1 ≤ 4608) (hi : 9 * i + 9 ≤ (gS g).2.1) (H : Inv i w I J) : ∃ w1 I2 J', f_L_law__b365 g k23 0 49 525 (nn (9 * i)) (st w I J) = k23 0 49 525 (nn (9 * i) + 9) (st w1 I2 J') ∧ Inv (i + 1) w1 I2 J' := by
  have hr := H.rm (by omega)
  obtain ⟨S, -, -, D, HC, HM, W⟩ := id H
  rw [k_2 (g := g) (k23 := k23) (x := nn (9 * i)) (s := fun t => (gS g).2.2 (9 * i + t)) (sN hL hi (t := 1) (by decide) rfl)]
  exact tK H (a_law H (by omega) _)
theorem l_B3 (hL : (gS g).2.1 ≤ 4608) (hi : 9 * i + 9 ≤ (gS g).2.1) (H : Inv i w I J) : ∃ w1 I2 J', f_L_law__b421 g k23 0 49 525 (nn (9 * i)) (st w I J) = k23 0 49 525 (nn (9 * i) + 9) (st w1 I2 J') ∧ Inv (i + 1) w1 I2 J' := by
  have hr := H.rm (by omega)
  obtain ⟨S, -, -, D, HC, HM, W⟩ := id H
  rw [k_3 (g := g) (k23 := k23) (x := nn (9 * i)) (s := fun t => (gS g).2.2 (9 * i + t)) (sN hL hi (t := 1) (by decide) rfl)]
  exact tK H (a_work H (by omega) _)
theorem l_B4 (hL : (gS g).2.1 ≤ 4608) (hi : 9 * i + 9 ≤ (gS g).2.1) (H : Inv i w I J) : ∃ w1 I2 J', f_L_law__b477 g k23 0 49 525 (nn (9 * i)) (st w I J) = k23 0 49 525 (nn (9 * i) + 9) (st w1 I2 J') ∧ Inv (i + 1) w1 I2 J' := by
  have hr := H.rm (by omega)
  obtain ⟨S, -, -, D, HC, HM, W⟩ := id H
  rw [k_4 (g := g) (k23 := k23) (x := nn (9 * i)) (s := fun t => (gS g).2.2 (9 * i + t)) (sN hL hi (t := 1) (by decide) rfl)]
  exact tK H (a_words H (by omega) _)
theorem l_B5 (hL : (gS g).2.1 ≤ 4608) (hi : 9 * i + 9 ≤ (gS g).2.1) (H : Inv i w I J) : ∃ w1 I2 J', f_L_law__b533 g k23 0 49 525 (nn (9 * i)) (st w I J) = k23 0 49 525 (nn (9 * i) + 9) (st w1 I2 J') ∧ Inv (i + 1) w1 I2 J' := by
  have hr := H.rm (by omega)
  obtain ⟨S, -, -, D, HC, HM, W⟩ := id H
  rw [k_5 (g := g) (k23 := k23) (x := nn (9 * i))]
  exact tD H (a_fault S hr HC HM W )
theorem l_B6 (hL : (gS g).2.1 ≤ 4608) (hi : 9 * i + 9 ≤ (gS g).2.1) (H : Inv i w I J) : ∃ w1 I2 J', f_L_law__b546 g k23 0 49 525 (nn (9 * i)) (st w I J) = k23 0 49 525 (nn (9 * i) + 9) (st w1 I2 J') ∧ Inv (i + 1) w1 I2 J' := by
  have hr := H.rm (by omega)
  obtain ⟨S, -, -, D, HC, HM, W⟩ := id H
  rw [k_6 (g := g) (k23 := k23) (x := nn (9 * i))]
  exact tlD_ok H.1 (g_undo H)
theorem l_B7 (hL : (gS g).2.1 ≤ 4608) (hi : 9 * i + 9 ≤ (gS g).2.1) (H : Inv i w I J) : ∃ w1 I2 J', f_L_law__b559 g k23 0 49 525 (nn (9 * i)) (st w I J) = k23 0 49 525 (nn (9 * i) + 9) (st w1 I2 J') ∧ Inv (i + 1) w1 I2 J' := by
  have hr := H.rm (by omega)
  obtain ⟨S, -, -, D, HC, HM, W⟩ := id H
  rw [k_7 (g := g) (k23 := k23) (x := nn (9 * i)) (s := fun t => (gS g).2.2 (9 * i + t)) (sN hL hi (t := 1) (by decide) rfl)]
  exact t14 H (a_told S hr HC HM W _)
theorem l_B8 (hL : (gS g).2.1 ≤ 4608) (hi : 9 * i + 9 ≤ (gS g).2.1) (H : Inv i w I J) : ∃ w1 I2 J', f_L_law__b615 g k23 0 49 525 (nn (9 * i)) (st w I J) = k23 0 49 525 (nn (9 * i) + 9) (st w1 I2 J') ∧ Inv (i + 1) w1 I2 J' := by
  have hr := H.rm (by omega)
  obtain ⟨S, -, -, D, HC, HM, W⟩ := id H
  rw [k_8 (g := g) (k23 := k23) (x := nn (9 * i)) (s := fun t => (gS g).2.2 (9 * i + t)) (sN hL hi (t := 1) (by decide) rfl) (sN hL hi (t := 2) (by decide) rfl)]
  exact t12 H (g_person S hr HC HM W _ _)
theorem l_B9 (hL : (gS g).2.1 ≤ 4608) (hi : 9 * i + 9 ≤ (gS g).2.1) (H : Inv i w I J) : ∃ w1 I2 J', f_L_law__b683 g k23 0 49 525 (nn (9 * i)) (st w I J) = k23 0 49 525 (nn (9 * i) + 9) (st w1 I2 J') ∧ Inv (i + 1) w1 I2 J' := by
  have hr := H.rm (by omega)
  obtain ⟨S, -, -, D, HC, HM, W⟩ := id H
  rw [k_9 (g := g) (k23 := k23) (x := nn (9 * i)) (s := fun t => (gS g).2.2 (9 * i + t)) (sN hL hi (t := 1) (by decide) rfl) (sN hL hi (t := 2) (by decide) rfl)]
  exact t12 H (g_plate S hr HC HM W _ _)
theorem l_B10 (hL : (gS g).2.1 ≤ 4608) (hi : 9 * i + 9 ≤ (gS g).2.1) (H : Inv i w I J) : ∃ w1 I2 J', f_L_law__b751 g k23 0 49 525 (nn (9 * i)) (st w I J) = k23 0 49 525 (nn (9 * i) + 9) (st w1 I2 J') ∧ Inv (i + 1) w1 I2 J' := by
  have hr := H.rm (by omega)
  obtain ⟨S, -, -, D, HC, HM, W⟩ := id H
  rw [k_10 (g := g) (k23 := k23) (x := nn (9 * i)) (s := fun t => (gS g).2.2 (9 * i + t)) (sN hL hi (t := 1) (by decide) rfl) (sN hL hi (t := 2) (by decide) rfl)]
  exact t12 H (g_hall S hr HC HM W _ _)
theorem l_B11 (hL : (gS g).2.1 ≤ 4608) (hi : 9 * i + 9 ≤ (gS g).2.1) (H : Inv i w I J) : ∃ w1 I2 J', f_L_law__b819 g k23 0 49 525 (nn (9 * i)) (st w I J) = k23 0 49 525 (nn (9 * i) + 9) (st w1 I2 J') ∧ Inv (i + 1) w1 I2 J' := by
  have hr := H.rm (by omega)
  obtain ⟨S, -, -, D, HC, HM, W⟩ := id H
  rw [k_11 (g := g) (k23 := k23) (x := nn (9 * i)) (s := fun t => (gS g).2.2 (9 * i + t)) (sN hL hi (t := 1) (by decide) rfl) (sN hL hi (t := 2) (by decide) rfl) (sN hL hi (t := 3) (by decide) rfl)]
  exact t13 H (a_shown S hr HC HM W _ _ _)
theorem l_B12 (hL : (gS g).2.1 ≤ 4608) (hi : 9 * i + 9 ≤ (gS g).2.1) (H : Inv i w I J) : ∃ w1 I2 J', f_L_law__b899 g k23 0 49 525 (nn (9 * i)) (st w I J) = k23 0 49 525 (nn (9 * i) + 9) (st w1 I2 J') ∧ Inv (i + 1) w1 I2 J' := by
  have hr := H.rm (by omega)
  obtain ⟨S, -, -, D, HC, HM, W⟩ := id H
  rw [k_12 (g := g) (k23 := k23) (x := nn (9 * i)) (s := fun t => (gS g).2.2 (9 * i + t)) (sN hL hi (t := 1) (by decide) rfl) (sN hL hi (t := 2) (by decide) rfl) (sN hL hi (t := 3) (by decide) rfl) (sN hL hi (t := 4) (by decide) rfl) (sN hL hi (t := 5) (by decide) rfl) (sN hL hi (t := 6) (by decide) rfl) (sN hL hi (t := 7) (by decide) rfl) (sN hL hi (t := 8) (by decide) rfl)]
  exact t14 H (a_would S hr HC HM W _ _ _ _ _ _ _ _)
theorem l_B13 (hL : (gS g).2.1 ≤ 4608) (hi : 9 * i + 9 ≤ (gS g).2.1) (H : Inv i w I J) : ∃ w1 I2 J', f_L_law__b1045 g k23 0 49 525 (nn (9 * i)) (st w I J) = k23 0 49 525 (nn (9 * i) + 9) (st w1 I2 J') ∧ Inv (i + 1) w1 I2 J' := by
  have hr := H.rm (by omega)
  obtain ⟨S, -, -, D, HC, HM, W⟩ := id H
  rw [k_13 (g := g) (k23 := k23) (x := nn (9 * i)) (s := fun t => (gS g).2.2 (9 * i + t)) (sN hL hi (t := 1) (by decide) rfl) (sN hL hi (t := 2) (by decide) rfl)]
  exact t14 H (a_unlike S hr HC HM W _ _)
theorem l_B14 (hL : (gS g).2.1 ≤ 4608) (hi : 9 * i + 9 ≤ (gS g).2.1) (H : Inv i w I J) : ∃ w1 I2 J', f_L_law__b1113 g k23 0 49 525 (nn (9 * i)) (st w I J) = k23 0 49 525 (nn (9 * i) + 9) (st w1 I2 J') ∧ Inv (i + 1) w1 I2 J' := by
  have hr := H.rm (by omega)
  obtain ⟨S, -, -, D, HC, HM, W⟩ := id H
  rw [k_14 (g := g) (k23 := k23) (x := nn (9 * i))]
  exact tD H (a_had S hr HC HM W )
theorem l_B15 (hL : (gS g).2.1 ≤ 4608) (hi : 9 * i + 9 ≤ (gS g).2.1) (H : Inv i w I J) : ∃ w1 I2 J', f_L_law__b1126 g k23 0 49 525 (nn (9 * i)) (st w I J) = k23 0 49 525 (nn (9 * i) + 9) (st w1 I2 J') ∧ Inv (i + 1) w1 I2 J' := by
  have hr := H.rm (by omega)
  obtain ⟨S, -, -, D, HC, HM, W⟩ := id H
  rw [k_15 (g := g) (k23 := k23) (x := nn (9 * i))]
  exact tD H (a_mistaken S hr HC HM W )
theorem l_B16 (hL : (gS g).2.1 ≤ 4608) (hi : 9 * i + 9 ≤ (gS g).2.1) (H : Inv i w I J) : ∃ w1 I2 J', f_L_law__b1139 g k23 0 49 525 (nn (9 * i)) (st w I J) = k23 0 49 525 (nn (9 * i) + 9) (st w1 I2 J') ∧ Inv (i + 1) w1 I2 J' := by
  have hr := H.rm (by omega)
  obtain ⟨S, -, -, D, HC, HM, W⟩ := id H
  rw [k_16 (g := g) (k23 := k23) (x := nn (9 * i)) (s := fun t => (gS g).2.2 (9 * i + t)) (sN hL hi (t := 1) (by decide) rfl)]
  exact t13 H (a_can S hr HC HM W _)
theorem l_B17 (hL : (gS g).2.1 ≤ 4608) (hi : 9 * i + 9 ≤ (gS g).2.1) (H : Inv i w I J) : ∃ w1 I2 J', f_L_law__b1195 g k23 0 49 525 (nn (9 * i)) (st w I J) = k23 0 49 525 (nn (9 * i) + 9) (st w1 I2 J') ∧ Inv (i + 1) w1 I2 J' := by
  have hr := H.rm (by omega)
  obtain ⟨S, -, -, D, HC, HM, W⟩ := id H
  rw [k_17 (g := g) (k23 := k23) (x := nn (9 * i)) (s := fun t => (gS g).2.2 (9 * i + t)) (sN hL hi (t := 1) (by decide) rfl)]
  exact t14 H (a_fewest S hr HC HM W _)
theorem l_B18 (hL : (gS g).2.1 ≤ 4608) (hi : 9 * i + 9 ≤ (gS g).2.1) (H : Inv i w I J) : ∃ w1 I2 J', f_L_law__b1251 g k23 0 49 525 (nn (9 * i)) (st w I J) = k23 0 49 525 (nn (9 * i) + 9) (st w1 I2 J') ∧ Inv (i + 1) w1 I2 J' := by
  have hr := H.rm (by omega)
  obtain ⟨S, -, -, D, HC, HM, W⟩ := id H
  rw [k_18 (g := g) (k23 := k23) (x := nn (9 * i)) (s := fun t => (gS g).2.2 (9 * i + t)) (sN hL hi (t := 1) (by decide) rfl)]
  exact t14 H (a_nobody S hr HC HM W _)
theorem l_B19 (hL : (gS g).2.1 ≤ 4608) (hi : 9 * i + 9 ≤ (gS g).2.1) (H : Inv i w I J) : ∃ w1 I2 J', f_L_law__b1307 g k23 0 49 525 (nn (9 * i)) (st w I J) = k23 0 49 525 (nn (9 * i) + 9) (st w1 I2 J') ∧ Inv (i + 1) w1 I2 J' := by
  have hr := H.rm (by omega)
  obtain ⟨S, -, -, D, HC, HM, W⟩ := id H
  rw [k_19 (g := g) (k23 := k23) (x := nn (9 * i)) (s := fun t => (gS g).2.2 (9 * i + t)) (sN hL hi (t := 1) (by decide) rfl) (sN hL hi (t := 2) (by decide) rfl)]
  exact t14 H (a_ring S hr HC HM W _ _)
theorem l_B20 (hL : (gS g).2.1 ≤ 4608) (hi : 9 * i + 9 ≤ (gS g).2.1) (H : Inv i w I J) : ∃ w1 I2 J', f_L_law__b1375 g k23 0 49 525 (nn (9 * i)) (st w I J) = k23 0 49 525 (nn (9 * i) + 9) (st w1 I2 J') ∧ Inv (i + 1) w1 I2 J' := by
  have hr := H.rm (by omega)
  obtain ⟨S, -, -, D, HC, HM, W⟩ := id H
  rw [k_20 (g := g) (k23 := k23) (x := nn (9 * i)) (s := fun t => (gS g).2.2 (9 * i + t)) (sN hL hi (t := 1) (by decide) rfl) (sN hL hi (t := 2) (by decide) rfl)]
  exact t12 H (g_who S hr HC HM W _ _)
theorem l_B21 (hL : (gS g).2.1 ≤ 4608) (hi : 9 * i + 9 ≤ (gS g).2.1) (H : Inv i w I J) : ∃ w1 I2 J', f_L_law__b1443 g k23 0 49 525 (nn (9 * i)) (st w I J) = k23 0 49 525 (nn (9 * i) + 9) (st w1 I2 J') ∧ Inv (i + 1) w1 I2 J' := by
  have hr := H.rm (by omega)
  obtain ⟨S, -, -, D, HC, HM, W⟩ := id H
  rw [k_21 (g := g) (k23 := k23) (x := nn (9 * i)) (s := fun t => (gS g).2.2 (9 * i + t)) (sN hL hi (t := 1) (by decide) rfl)]
  exact t14 H (a_made S hr HC HM W _)
theorem l_B22 (hL : (gS g).2.1 ≤ 4608) (hi : 9 * i + 9 ≤ (gS g).2.1) (H : Inv i w I J) : ∃ w1 I2 J', f_L_law__b1499 g k23 0 49 525 (nn (9 * i)) (st w I J) = k23 0 49 525 (nn (9 * i) + 9) (st w1 I2 J') ∧ Inv (i + 1) w1 I2 J' := by
  have hr := H.rm (by omega)
  obtain ⟨S, -, -, D, HC, HM, W⟩ := id H
  rw [k_22 (g := g) (k23 := k23) (x := nn (9 * i)) (s := fun t => (gS g).2.2 (9 * i + t)) (sN hL hi (t := 1) (by decide) rfl)]
  exact t14 H (a_unknown S hr HC HM W _)
theorem l_B23 (hL : (gS g).2.1 ≤ 4608) (hi : 9 * i + 9 ≤ (gS g).2.1) (H : Inv i w I J) : ∃ w1 I2 J', f_L_law__b1555 g k23 0 49 525 (nn (9 * i)) (st w I J) = k23 0 49 525 (nn (9 * i) + 9) (st w1 I2 J') ∧ Inv (i + 1) w1 I2 J' := by
  have hr := H.rm (by omega)
  obtain ⟨S, -, -, D, HC, HM, W⟩ := id H
  rw [k_23 (g := g) (k23 := k23) (x := nn (9 * i)) (s := fun t => (gS g).2.2 (9 * i + t)) (sN hL hi (t := 1) (by decide) rfl)]
  exact t14 H (a_hold S hr HC HM W _)
theorem l_B24 (hL : (gS g).2.1 ≤ 4608) (hi : 9 * i + 9 ≤ (gS g).2.1) (H : Inv i w I J) : ∃ w1 I2 J', f_L_law__b1611 g k23 0 49 525 (nn (9 * i)) (st w I J) = k23 0 49 525 (nn (9 * i) + 9) (st w1 I2 J') ∧ Inv (i + 1) w1 I2 J' := by
  have hr := H.rm (by omega)
  obtain ⟨S, -, -, D, HC, HM, W⟩ := id H
  rw [k_24 (g := g) (k23 := k23) (x := nn (9 * i))]
  exact tD H (g_papers S HC HM W)
theorem l_B25 (hL : (gS g).2.1 ≤ 4608) (hi : 9 * i + 9 ≤ (gS g).2.1) (H : Inv i w I J) : ∃ w1 I2 J', f_L_law__b1624 g k23 0 49 525 (nn (9 * i)) (st w I J) = k23 0 49 525 (nn (9 * i) + 9) (st w1 I2 J') ∧ Inv (i + 1) w1 I2 J' := by
  have hr := H.rm (by omega)
  obtain ⟨S, -, -, D, HC, HM, W⟩ := id H
  rw [k_25 (g := g) (k23 := k23) (x := nn (9 * i)) (s := fun t => (gS g).2.2 (9 * i + t)) (sN hL hi (t := 1) (by decide) rfl)]
  exact t13 H (a_paper S hr HC HM W _)
theorem l_B26 (hL : (gS g).2.1 ≤ 4608) (hi : 9 * i + 9 ≤ (gS g).2.1) (H : Inv i w I J) : ∃ w1 I2 J', f_L_law__b1680 g k23 0 49 525 (nn (9 * i)) (st w I J) = k23 0 49 525 (nn (9 * i) + 9) (st w1 I2 J') ∧ Inv (i + 1) w1 I2 J' := by
  have hr := H.rm (by omega)
  obtain ⟨S, -, -, D, HC, HM, W⟩ := id H
  rw [k_26 (g := g) (k23 := k23) (x := nn (9 * i)) (s := fun t => (gS g).2.2 (9 * i + t)) (sN hL hi (t := 1) (by decide) rfl) (sN hL hi (t := 2) (by decide) rfl) (sN hL hi (t := 3) (by decide) rfl) (sN hL hi (t := 4) (by decide) rfl)]
  exact t14 H (a_bids S hr HC HM W _ _ _ _)
theorem l_B27 (hL : (gS g).2.1 ≤ 4608) (hi : 9 * i + 9 ≤ (gS g).2.1) (H : Inv i w I J) : ∃ w1 I2 J', f_L_law__b1772 g k23 0 49 525 (nn (9 * i)) (st w I J) = k23 0 49 525 (nn (9 * i) + 9) (st w1 I2 J') ∧ Inv (i + 1) w1 I2 J' := by
  have hr := H.rm (by omega)
  obtain ⟨S, -, -, D, HC, HM, W⟩ := id H
  rw [k_27 (g := g) (k23 := k23) (x := nn (9 * i)) (s := fun t => (gS g).2.2 (9 * i + t)) (sN hL hi (t := 1) (by decide) rfl) (sN hL hi (t := 2) (by decide) rfl) (sN hL hi (t := 3) (by decide) rfl)]
  exact t12 H (g_share S hr HC HM W _ _ _)
theorem l_B28 (hL : (gS g).2.1 ≤ 4608) (hi : 9 * i + 9 ≤ (gS g).2.1) (H : Inv i w I J) : ∃ w1 I2 J', f_L_law__b1852 g k23 0 49 525 (nn (9 * i)) (st w I J) = k23 0 49 525 (nn (9 * i) + 9) (st w1 I2 J') ∧ Inv (i + 1) w1 I2 J' := by
  have hr := H.rm (by omega)
  obtain ⟨S, -, -, D, HC, HM, W⟩ := id H
  rw [k_28 (g := g) (k23 := k23) (x := nn (9 * i)) (s := fun t => (gS g).2.2 (9 * i + t)) (sN hL hi (t := 1) (by decide) rfl)]
  exact t14 H (a_busiest S hr HC HM W _)
theorem l_B29 (hL : (gS g).2.1 ≤ 4608) (hi : 9 * i + 9 ≤ (gS g).2.1) (H : Inv i w I J) : ∃ w1 I2 J', f_L_law__b1908 g k23 0 49 525 (nn (9 * i)) (st w I J) = k23 0 49 525 (nn (9 * i) + 9) (st w1 I2 J') ∧ Inv (i + 1) w1 I2 J' := by
  have hr := H.rm (by omega)
  obtain ⟨S, -, -, D, HC, HM, W⟩ := id H
  rw [k_29 (g := g) (k23 := k23) (x := nn (9 * i))]
  exact tD H (a_unseen S hr HC HM W )
theorem l_B30 (hL : (gS g).2.1 ≤ 4608) (hi : 9 * i + 9 ≤ (gS g).2.1) (H : Inv i w I J) : ∃ w1 I2 J', f_L_law__b1921 g k23 0 49 525 (nn (9 * i)) (st w I J) = k23 0 49 525 (nn (9 * i) + 9) (st w1 I2 J') ∧ Inv (i + 1) w1 I2 J' := by
  have hr := H.rm (by omega)
  obtain ⟨S, -, -, D, HC, HM, W⟩ := id H
  rw [k_30 (g := g) (k23 := k23) (x := nn (9 * i)) (s := fun t => (gS g).2.2 (9 * i + t)) (sN hL hi (t := 1) (by decide) rfl)]
  exact t13 H (a_where S hr HC HM W _)
theorem l_B31 (hL : (gS g).2.1 ≤ 4608) (hi : 9 * i + 9 ≤ (gS g).2.1) (H : Inv i w I J) : ∃ w1 I2 J', f_L_law__b1977 g k23 0 49 525 (nn (9 * i)) (st w I J) = k23 0 49 525 (nn (9 * i) + 9) (st w1 I2 J') ∧ Inv (i + 1) w1 I2 J' := by
  have hr := H.rm (by omega)
  obtain ⟨S, -, -, D, HC, HM, W⟩ := id H
  rw [k_31 (g := g) (k23 := k23) (x := nn (9 * i)) (s := fun t => (gS g).2.2 (9 * i + t)) (sN hL hi (t := 1) (by decide) rfl)]
  exact t13 H (a_twins S hr HC HM W _)
theorem l_B32 (hL : (gS g).2.1 ≤ 4608) (hi : 9 * i + 9 ≤ (gS g).2.1) (H : Inv i w I J) : ∃ w1 I2 J', f_L_law__b2033 g k23 0 49 525 (nn (9 * i)) (st w I J) = k23 0 49 525 (nn (9 * i) + 9) (st w1 I2 J') ∧ Inv (i + 1) w1 I2 J' := by
  have hr := H.rm (by omega)
  obtain ⟨S, -, -, D, HC, HM, W⟩ := id H
  rw [k_32 (g := g) (k23 := k23) (x := nn (9 * i)) (s := fun t => (gS g).2.2 (9 * i + t)) (sN hL hi (t := 1) (by decide) rfl) (sN hL hi (t := 2) (by decide) rfl)]
  exact t13 H (a_chain S hr HC HM W _ _)
theorem l_B33 (hL : (gS g).2.1 ≤ 4608) (hi : 9 * i + 9 ≤ (gS g).2.1) (H : Inv i w I J) : ∃ w1 I2 J', f_L_law__b2101 g k23 0 49 525 (nn (9 * i)) (st w I J) = k23 0 49 525 (nn (9 * i) + 9) (st w1 I2 J') ∧ Inv (i + 1) w1 I2 J' := by
  have hr := H.rm (by omega)
  obtain ⟨S, -, -, D, HC, HM, W⟩ := id H
  rw [k_33 (g := g) (k23 := k23) (x := nn (9 * i)) (s := fun t => (gS g).2.2 (9 * i + t)) (sN hL hi (t := 1) (by decide) rfl) (sN hL hi (t := 2) (by decide) rfl)]
  exact t12 H (g_looks S hr HC HM W _ _)
theorem l_B34 (hL : (gS g).2.1 ≤ 4608) (hi : 9 * i + 9 ≤ (gS g).2.1) (H : Inv i w I J) : ∃ w1 I2 J', f_L_law__b2169 g k23 0 49 525 (nn (9 * i)) (st w I J) = k23 0 49 525 (nn (9 * i) + 9) (st w1 I2 J') ∧ Inv (i + 1) w1 I2 J' := by
  have hr := H.rm (by omega)
  obtain ⟨S, -, -, D, HC, HM, W⟩ := id H
  rw [k_34 (g := g) (k23 := k23) (x := nn (9 * i)) (s := fun t => (gS g).2.2 (9 * i + t)) (sN hL hi (t := 1) (by decide) rfl) (sN hL hi (t := 2) (by decide) rfl)]
  exact t14 H (a_cheapest S hr HC HM W _ _)
theorem l_B35 (hL : (gS g).2.1 ≤ 4608) (hi : 9 * i + 9 ≤ (gS g).2.1) (H : Inv i w I J) : ∃ w1 I2 J', f_L_law__b2237 g k23 0 49 525 (nn (9 * i)) (st w I J) = k23 0 49 525 (nn (9 * i) + 9) (st w1 I2 J') ∧ Inv (i + 1) w1 I2 J' := by
  have hr := H.rm (by omega)
  obtain ⟨S, -, -, D, HC, HM, W⟩ := id H
  rw [k_35 (g := g) (k23 := k23) (x := nn (9 * i)) (s := fun t => (gS g).2.2 (9 * i + t)) (sN hL hi (t := 1) (by decide) rfl)]
  exact t14 H (a_common S hr HC HM W _)
theorem l_B36 (hL : (gS g).2.1 ≤ 4608) (hi : 9 * i + 9 ≤ (gS g).2.1) (H : Inv i w I J) : ∃ w1 I2 J', f_L_law__b2293 g k23 0 49 525 (nn (9 * i)) (st w I J) = k23 0 49 525 (nn (9 * i) + 9) (st w1 I2 J') ∧ Inv (i + 1) w1 I2 J' := by
  have hr := H.rm (by omega)
  obtain ⟨S, -, -, D, HC, HM, W⟩ := id H
  rw [k_36 (g := g) (k23 := k23) (x := nn (9 * i)) (s := fun t => (gS g).2.2 (9 * i + t)) (sN hL hi (t := 1) (by decide) rfl) (sN hL hi (t := 2) (by decide) rfl)]
  exact t13 H (a_moodFor S hr HC HM W _ _)
theorem l_B37 (hL : (gS g).2.1 ≤ 4608) (hi : 9 * i + 9 ≤ (gS g).2.1) (H : Inv i w I J) : ∃ w1 I2 J', f_L_law__b2361 g k23 0 49 525 (nn (9 * i)) (st w I J) = k23 0 49 525 (nn (9 * i) + 9) (st w1 I2 J') ∧ Inv (i + 1) w1 I2 J' := by
  have hr := H.rm (by omega)
  obtain ⟨S, -, -, D, HC, HM, W⟩ := id H
  rw [k_37 (g := g) (k23 := k23) (x := nn (9 * i)) (s := fun t => (gS g).2.2 (9 * i + t)) (sN hL hi (t := 1) (by decide) rfl)]
  exact t13 H (a_lost S hr HC HM W _)
theorem l_B38 (hL : (gS g).2.1 ≤ 4608) (hi : 9 * i + 9 ≤ (gS g).2.1) (H : Inv i w I J) : ∃ w1 I2 J', f_L_law__b2417 g k23 0 49 525 (nn (9 * i)) (st w I J) = k23 0 49 525 (nn (9 * i) + 9) (st w1 I2 J') ∧ Inv (i + 1) w1 I2 J' := by
  have hr := H.rm (by omega)
  obtain ⟨S, -, -, D, HC, HM, W⟩ := id H
  rw [k_38 (g := g) (k23 := k23) (x := nn (9 * i)) (s := fun t => (gS g).2.2 (9 * i + t)) (sN hL hi (t := 1) (by decide) rfl) (sN hL hi (t := 2) (by decide) rfl)]
  exact t12 H (g_faces S hr HC HM W _ _)
theorem l_B39 (hL : (gS g).2.1 ≤ 4608) (hi : 9 * i + 9 ≤ (gS g).2.1) (H : Inv i w I J) : ∃ w1 I2 J', f_L_law__b2485 g k23 0 49 525 (nn (9 * i)) (st w I J) = k23 0 49 525 (nn (9 * i) + 9) (st w1 I2 J') ∧ Inv (i + 1) w1 I2 J' := by
  have hr := H.rm (by omega)
  obtain ⟨S, -, -, D, HC, HM, W⟩ := id H
  rw [k_39 (g := g) (k23 := k23) (x := nn (9 * i)) (s := fun t => (gS g).2.2 (9 * i + t)) (sN hL hi (t := 1) (by decide) rfl) (sN hL hi (t := 2) (by decide) rfl) (sN hL hi (t := 3) (by decide) rfl) (sN hL hi (t := 4) (by decide) rfl)]
  exact t14 H (a_years S hr HC HM W _ _ _ _)
theorem l_B40 (hL : (gS g).2.1 ≤ 4608) (hi : 9 * i + 9 ≤ (gS g).2.1) (H : Inv i w I J) : ∃ w1 I2 J', f_L_law__b2577 g k23 0 49 525 (nn (9 * i)) (st w I J) = k23 0 49 525 (nn (9 * i) + 9) (st w1 I2 J') ∧ Inv (i + 1) w1 I2 J' := by
  have hr := H.rm (by omega)
  obtain ⟨S, -, -, D, HC, HM, W⟩ := id H
  rw [k_40 (g := g) (k23 := k23) (x := nn (9 * i)) (s := fun t => (gS g).2.2 (9 * i + t)) (sN hL hi (t := 1) (by decide) rfl) (sN hL hi (t := 2) (by decide) rfl) (sN hL hi (t := 3) (by decide) rfl) (sN hL hi (t := 4) (by decide) rfl) (sN hL hi (t := 5) (by decide) rfl) (sN hL hi (t := 6) (by decide) rfl)]
  exact t14 H (a_span S hr HC HM W _ _ _ _ _ _)
theorem l_B41 (hL : (gS g).2.1 ≤ 4608) (hi : 9 * i + 9 ≤ (gS g).2.1) (H : Inv i w I J) : ∃ w1 I2 J', f_L_law__b2695 g k23 0 49 525 (nn (9 * i)) (st w I J) = k23 0 49 525 (nn (9 * i) + 9) (st w1 I2 J') ∧ Inv (i + 1) w1 I2 J' := by
  have hr := H.rm (by omega)
  obtain ⟨S, -, -, D, HC, HM, W⟩ := id H
  rw [k_41 (g := g) (k23 := k23) (x := nn (9 * i))]
  exact tlD_ok H.1 (g_image H (by omega))
theorem l_B42 (hL : (gS g).2.1 ≤ 4608) (hi : 9 * i + 9 ≤ (gS g).2.1) (H : Inv i w I J) : ∃ w1 I2 J', f_L_law__b2708 g k23 0 49 525 (nn (9 * i)) (st w I J) = k23 0 49 525 (nn (9 * i) + 9) (st w1 I2 J') ∧ Inv (i + 1) w1 I2 J' := by
  have hr := H.rm (by omega)
  obtain ⟨S, -, -, D, HC, HM, W⟩ := id H
  rw [k_42 (g := g) (k23 := k23) (x := nn (9 * i))]
  exact tlD_ok H.1 (g_restore H)
theorem l_B43 (hL : (gS g).2.1 ≤ 4608) (hi : 9 * i + 9 ≤ (gS g).2.1) (H : Inv i w I J) : ∃ w1 I2 J', f_L_law__b2721 g k23 0 49 525 (nn (9 * i)) (st w I J) = k23 0 49 525 (nn (9 * i) + 9) (st w1 I2 J') ∧ Inv (i + 1) w1 I2 J' := by
  have hr := H.rm (by omega)
  obtain ⟨S, -, -, D, HC, HM, W⟩ := id H
  rw [k_43 (g := g) (k23 := k23) (x := nn (9 * i)) (s := fun t => (gS g).2.2 (9 * i + t)) (sN hL hi (t := 1) (by decide) rfl)]
  exact tD H (a_status S hr HC HM W _)
theorem l_B44 (hL : (gS g).2.1 ≤ 4608) (hi : 9 * i + 9 ≤ (gS g).2.1) (H : Inv i w I J) : ∃ w1 I2 J', f_L_law__b2746 g k23 0 49 525 (nn (9 * i)) (st w I J) = k23 0 49 525 (nn (9 * i) + 9) (st w1 I2 J') ∧ Inv (i + 1) w1 I2 J' := by
  have hr := H.rm (by omega)
  obtain ⟨S, -, -, D, HC, HM, W⟩ := id H
  rw [k_44 (g := g) (k23 := k23) (x := nn (9 * i)) (s := fun t => (gS g).2.2 (9 * i + t)) (sN hL hi (t := 1) (by decide) rfl)]
  exact tD H (a_count S hr HC HM W _)
end BLOCKS
