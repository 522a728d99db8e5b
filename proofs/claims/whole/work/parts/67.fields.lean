/-! PURE PART: the fixed cells, a row each (mkfld.py) -/
section FLD
variable {w : Wd} {I : Is} {J : Js}
theorem v_0 (S : Sw w) {α : Type} {F : Mo α} : cv 11 0 F (st w I J) = F (st w I J) := b_cv (kd := 2) S (by decide)
theorem r_0_0 (S : Sw w) : gR 11 0 0 (st w I J) = some (.inl 1, st w I J) := b_gR S (by decide) (by decide +kernel)
theorem r_0_1 (S : Sw w) : gR 11 1 0 (st w I J) = some (.inl 3, st w I J) := b_gR S (by decide) (by decide +kernel)
theorem r_0_2 (S : Sw w) : gR 11 2 0 (st w I J) = some (.inl 8, st w I J) := b_gR S (by decide) (by decide +kernel)
theorem r_0_3 (S : Sw w) : gR 11 3 0 (st w I J) = some (.inl 13, st w I J) := b_gR S (by decide) (by decide +kernel)
theorem r_0_4 (S : Sw w) : gR 11 4 0 (st w I J) = some (.inl 16, st w I J) := b_gR S (by decide) (by decide +kernel)
theorem r_0_5 (S : Sw w) : gR 11 5 0 (st w I J) = some (.inl 19, st w I J) := b_gR S (by decide) (by decide +kernel)
theorem r_0_6 (S : Sw w) : gR 11 6 0 (st w I J) = some (.inl 24, st w I J) := b_gR S (by decide) (by decide +kernel)
theorem r_0_7 (S : Sw w) : gR 11 7 0 (st w I J) = some (.inl 28, st w I J) := b_gR S (by decide) (by decide +kernel)
theorem r_0_8 (S : Sw w) : gR 11 8 0 (st w I J) = some (.inl 30, st w I J) := b_gR S (by decide) (by decide +kernel)
theorem r_0_9 (S : Sw w) : gR 11 9 0 (st w I J) = some (.inl 33, st w I J) := b_gR S (by decide) (by decide +kernel)
theorem r_0_10 (S : Sw w) : gR 11 10 0 (st w I J) = some (.inl 37, st w I J) := b_gR S (by decide) (by decide +kernel)
theorem r_0_11 (S : Sw w) : gR 11 11 0 (st w I J) = some (.inl 43, st w I J) := b_gR S (by decide) (by decide +kernel)
theorem r_0_12 (S : Sw w) : gR 11 12 0 (st w I J) = some (.inl 48, st w I J) := b_gR S (by decide) (by decide +kernel)
theorem n_0_13 (S : Sw w) : gN 11 13 0 (st w I J) = some (.inl (w.2.2.2 0 13), st w I J) := b_gN S (by decide)
theorem i_0_14 (S : Sw w) : gI 11 14 0 (st w I J) = some (.inl (I 0 14), st w I J) := b_gI S (by decide)
theorem w_0_14 (S : Sw w) {v : Int32} : pf 11 14 0 (.int v) (st w I J) = some (.inl (), st w (up2 I 0 14 v) J) := b_pfI S (by decide)
theorem i_0_15 (S : Sw w) : gI 11 15 0 (st w I J) = some (.inl (I 0 15), st w I J) := b_gI S (by decide)
theorem w_0_15 (S : Sw w) {v : Int32} : pf 11 15 0 (.int v) (st w I J) = some (.inl (), st w (up2 I 0 15 v) J) := b_pfI S (by decide)
theorem i_0_16 (S : Sw w) : gI 11 16 0 (st w I J) = some (.inl (I 0 16), st w I J) := b_gI S (by decide)
theorem w_0_16 (S : Sw w) {v : Int32} : pf 11 16 0 (.int v) (st w I J) = some (.inl (), st w (up2 I 0 16 v) J) := b_pfI S (by decide)
theorem i_0_17 (S : Sw w) : gI 11 17 0 (st w I J) = some (.inl (I 0 17), st w I J) := b_gI S (by decide)
theorem w_0_17 (S : Sw w) {v : Int32} : pf 11 17 0 (.int v) (st w I J) = some (.inl (), st w (up2 I 0 17 v) J) := b_pfI S (by decide)
theorem v_1 (S : Sw w) {α : Type} {F : Mo α} : cv 8 1 F (st w I J) = F (st w I J) := b_cv (kd := 2) S (by decide)
theorem r_1_0 (S : Sw w) : gR 8 0 1 (st w I J) = some (.inl 2, st w I J) := b_gR S (by decide) (by decide +kernel)
theorem i_1_1 (S : Sw w) : gI 8 1 1 (st w I J) = some (.inl (I 1 1), st w I J) := b_gI S (by decide)
theorem w_1_1 (S : Sw w) {v : Int32} : pf 8 1 1 (.int v) (st w I J) = some (.inl (), st w (up2 I 1 1 v) J) := b_pfI S (by decide)
theorem i_1_2 (S : Sw w) : gI 8 2 1 (st w I J) = some (.inl (I 1 2), st w I J) := b_gI S (by decide)
theorem w_1_2 (S : Sw w) {v : Int32} : pf 8 2 1 (.int v) (st w I J) = some (.inl (), st w (up2 I 1 2 v) J) := b_pfI S (by decide)
theorem i_1_3 (S : Sw w) : gI 8 3 1 (st w I J) = some (.inl (I 1 3), st w I J) := b_gI S (by decide)
theorem w_1_3 (S : Sw w) {v : Int32} : pf 8 3 1 (.int v) (st w I J) = some (.inl (), st w (up2 I 1 3 v) J) := b_pfI S (by decide)
theorem i_1_4 (S : Sw w) : gI 8 4 1 (st w I J) = some (.inl (I 1 4), st w I J) := b_gI S (by decide)
theorem w_1_4 (S : Sw w) {v : Int32} : pf 8 4 1 (.int v) (st w I J) = some (.inl (), st w (up2 I 1 4 v) J) := b_pfI S (by decide)
theorem i_1_5 (S : Sw w) : gI 8 5 1 (st w I J) = some (.inl (I 1 5), st w I J) := b_gI S (by decide)
theorem w_1_5 (S : Sw w) {v : Int32} : pf 8 5 1 (.int v) (st w I J) = some (.inl (), st w (up2 I 1 5 v) J) := b_pfI S (by decide)
theorem i_1_6 (S : Sw w) : gI 8 6 1 (st w I J) = some (.inl (I 1 6), st w I J) := b_gI S (by decide)
theorem w_1_6 (S : Sw w) {v : Int32} : pf 8 6 1 (.int v) (st w I J) = some (.inl (), st w (up2 I 1 6 v) J) := b_pfI S (by decide)
theorem l_2 (S : Sw w) {k : Nat} (h : k < 600) : al 1 2 (nn k) (st w I J) = some (.inl (I 2 k), st w I J) := b_al 600 S (by decide) rfl (by decide) h
theorem s_2 (S : Sw w) {k : Nat} {v : Int32} (h : k < 600) : bs_ 2 (nn k) v (st w I J) = some (.inl (), st w (up2 I 2 k (vp_nar .byte v)) J) := b_bs 600 S (by decide) rfl (by decide) h
theorem ln_2 (S : Sw w) : aLen 2 (st w I J) = some (.inl (nn 600), st w I J) := b_len S (by decide) rfl (by decide)
theorem v_3 (S : Sw w) {α : Type} {F : Mo α} : cv 2 3 F (st w I J) = F (st w I J) := b_cv (kd := 2) S (by decide)
theorem r_3_0 (S : Sw w) : gR 2 0 3 (st w I J) = some (.inl 4, st w I J) := b_gR S (by decide) (by decide +kernel)
theorem r_3_1 (S : Sw w) : gR 2 1 3 (st w I J) = some (.inl 5, st w I J) := b_gR S (by decide) (by decide +kernel)
theorem r_3_2 (S : Sw w) : gR 2 2 3 (st w I J) = some (.inl 6, st w I J) := b_gR S (by decide) (by decide +kernel)
theorem r_3_3 (S : Sw w) : gR 2 3 3 (st w I J) = some (.inl 7, st w I J) := b_gR S (by decide) (by decide +kernel)
theorem i_3_4 (S : Sw w) : gI 2 4 3 (st w I J) = some (.inl (I 3 4), st w I J) := b_gI S (by decide)
theorem w_3_4 (S : Sw w) {v : Int32} : pf 2 4 3 (.int v) (st w I J) = some (.inl (), st w (up2 I 3 4 v) J) := b_pfI S (by decide)
theorem i_3_5 (S : Sw w) : gI 2 5 3 (st w I J) = some (.inl (I 3 5), st w I J) := b_gI S (by decide)
theorem w_3_5 (S : Sw w) {v : Int32} : pf 2 5 3 (.int v) (st w I J) = some (.inl (), st w (up2 I 3 5 v) J) := b_pfI S (by decide)
theorem l_4 (S : Sw w) {k : Nat} (h : k < 8) : al 0 4 (nn k) (st w I J) = some (.inl (I 4 k), st w I J) := b_al 8 S (by decide) rfl (by decide) h
theorem s_4 (S : Sw w) {k : Nat} {v : Int32} (h : k < 8) : as_ 4 (nn k) v (st w I J) = some (.inl (), st w (up2 I 4 k v) J) := b_as 8 S (by decide) rfl (by decide) h
theorem ln_4 (S : Sw w) : aLen 4 (st w I J) = some (.inl (nn 8), st w I J) := b_len S (by decide) rfl (by decide)
theorem l_5 (S : Sw w) {k : Nat} (h : k < 8) : al 0 5 (nn k) (st w I J) = some (.inl (I 5 k), st w I J) := b_al 8 S (by decide) rfl (by decide) h
theorem s_5 (S : Sw w) {k : Nat} {v : Int32} (h : k < 8) : as_ 5 (nn k) v (st w I J) = some (.inl (), st w (up2 I 5 k v) J) := b_as 8 S (by decide) rfl (by decide) h
theorem ln_5 (S : Sw w) : aLen 5 (st w I J) = some (.inl (nn 8), st w I J) := b_len S (by decide) rfl (by decide)
theorem l_6 (S : Sw w) {k : Nat} (h : k < 8) : al 0 6 (nn k) (st w I J) = some (.inl (I 6 k), st w I J) := b_al 8 S (by decide) rfl (by decide) h
theorem s_6 (S : Sw w) {k : Nat} {v : Int32} (h : k < 8) : as_ 6 (nn k) v (st w I J) = some (.inl (), st w (up2 I 6 k v) J) := b_as 8 S (by decide) rfl (by decide) h
theorem ln_6 (S : Sw w) : aLen 6 (st w I J) = some (.inl (nn 8), st w I J) := b_len S (by decide) rfl (by decide)
theorem l_7 (S : Sw w) {k : Nat} (h : k < 8) : al 0 7 (nn k) (st w I J) = some (.inl (I 7 k), st w I J) := b_al 8 S (by decide) rfl (by decide) h
theorem s_7 (S : Sw w) {k : Nat} {v : Int32} (h : k < 8) : as_ 7 (nn k) v (st w I J) = some (.inl (), st w (up2 I 7 k v) J) := b_as 8 S (by decide) rfl (by decide) h
theorem ln_7 (S : Sw w) : aLen 7 (st w I J) = some (.inl (nn 8), st w I J) := b_len S (by decide) rfl (by decide)
theorem v_8 (S : Sw w) {α : Type} {F : Mo α} : cv 2 8 F (st w I J) = F (st w I J) := b_cv (kd := 2) S (by decide)
theorem r_8_0 (S : Sw w) : gR 2 0 8 (st w I J) = some (.inl 9, st w I J) := b_gR S (by decide) (by decide +kernel)
theorem r_8_1 (S : Sw w) : gR 2 1 8 (st w I J) = some (.inl 10, st w I J) := b_gR S (by decide) (by decide +kernel)
theorem r_8_2 (S : Sw w) : gR 2 2 8 (st w I J) = some (.inl 11, st w I J) := b_gR S (by decide) (by decide +kernel)
theorem r_8_3 (S : Sw w) : gR 2 3 8 (st w I J) = some (.inl 12, st w I J) := b_gR S (by decide) (by decide +kernel)
theorem i_8_4 (S : Sw w) : gI 2 4 8 (st w I J) = some (.inl (I 8 4), st w I J) := b_gI S (by decide)
theorem w_8_4 (S : Sw w) {v : Int32} : pf 2 4 8 (.int v) (st w I J) = some (.inl (), st w (up2 I 8 4 v) J) := b_pfI S (by decide)
theorem i_8_5 (S : Sw w) : gI 2 5 8 (st w I J) = some (.inl (I 8 5), st w I J) := b_gI S (by decide)
theorem w_8_5 (S : Sw w) {v : Int32} : pf 2 5 8 (.int v) (st w I J) = some (.inl (), st w (up2 I 8 5 v) J) := b_pfI S (by decide)
theorem l_9 (S : Sw w) {k : Nat} (h : k < 8) : al 0 9 (nn k) (st w I J) = some (.inl (I 9 k), st w I J) := b_al 8 S (by decide) rfl (by decide) h
theorem s_9 (S : Sw w) {k : Nat} {v : Int32} (h : k < 8) : as_ 9 (nn k) v (st w I J) = some (.inl (), st w (up2 I 9 k v) J) := b_as 8 S (by decide) rfl (by decide) h
theorem ln_9 (S : Sw w) : aLen 9 (st w I J) = some (.inl (nn 8), st w I J) := b_len S (by decide) rfl (by decide)
theorem l_10 (S : Sw w) {k : Nat} (h : k < 8) : al 0 10 (nn k) (st w I J) = some (.inl (I 10 k), st w I J) := b_al 8 S (by decide) rfl (by decide) h
theorem s_10 (S : Sw w) {k : Nat} {v : Int32} (h : k < 8) : as_ 10 (nn k) v (st w I J) = some (.inl (), st w (up2 I 10 k v) J) := b_as 8 S (by decide) rfl (by decide) h
theorem ln_10 (S : Sw w) : aLen 10 (st w I J) = some (.inl (nn 8), st w I J) := b_len S (by decide) rfl (by decide)
theorem l_11 (S : Sw w) {k : Nat} (h : k < 8) : al 0 11 (nn k) (st w I J) = some (.inl (I 11 k), st w I J) := b_al 8 S (by decide) rfl (by decide) h
theorem s_11 (S : Sw w) {k : Nat} {v : Int32} (h : k < 8) : as_ 11 (nn k) v (st w I J) = some (.inl (), st w (up2 I 11 k v) J) := b_as 8 S (by decide) rfl (by decide) h
theorem ln_11 (S : Sw w) : aLen 11 (st w I J) = some (.inl (nn 8), st w I J) := b_len S (by decide) rfl (by decide)
theorem l_12 (S : Sw w) {k : Nat} (h : k < 8) : al 0 12 (nn k) (st w I J) = some (.inl (I 12 k), st w I J) := b_al 8 S (by decide) rfl (by decide) h
theorem s_12 (S : Sw w) {k : Nat} {v : Int32} (h : k < 8) : as_ 12 (nn k) v (st w I J) = some (.inl (), st w (up2 I 12 k v) J) := b_as 8 S (by decide) rfl (by decide) h
theorem ln_12 (S : Sw w) : aLen 12 (st w I J) = some (.inl (nn 8), st w I J) := b_len S (by decide) rfl (by decide)
theorem v_13 (S : Sw w) {α : Type} {F : Mo α} : cv 4 13 F (st w I J) = F (st w I J) := b_cv (kd := 2) S (by decide)
theorem r_13_0 (S : Sw w) : gR 4 0 13 (st w I J) = some (.inl 14, st w I J) := b_gR S (by decide) (by decide +kernel)
theorem r_13_1 (S : Sw w) : gR 4 1 13 (st w I J) = some (.inl 15, st w I J) := b_gR S (by decide) (by decide +kernel)
theorem i_13_2 (S : Sw w) : gI 4 2 13 (st w I J) = some (.inl (I 13 2), st w I J) := b_gI S (by decide)
theorem w_13_2 (S : Sw w) {v : Int32} : pf 4 2 13 (.int v) (st w I J) = some (.inl (), st w (up2 I 13 2 v) J) := b_pfI S (by decide)
theorem l_14 (S : Sw w) {k : Nat} (h : k < 150) : al 0 14 (nn k) (st w I J) = some (.inl (I 14 k), st w I J) := b_al 150 S (by decide) rfl (by decide) h
theorem s_14 (S : Sw w) {k : Nat} {v : Int32} (h : k < 150) : as_ 14 (nn k) v (st w I J) = some (.inl (), st w (up2 I 14 k v) J) := b_as 150 S (by decide) rfl (by decide) h
theorem ln_14 (S : Sw w) : aLen 14 (st w I J) = some (.inl (nn 150), st w I J) := b_len S (by decide) rfl (by decide)
theorem l_15 (S : Sw w) {k : Nat} (h : k < 24) : al 0 15 (nn k) (st w I J) = some (.inl (I 15 k), st w I J) := b_al 24 S (by decide) rfl (by decide) h
theorem s_15 (S : Sw w) {k : Nat} {v : Int32} (h : k < 24) : as_ 15 (nn k) v (st w I J) = some (.inl (), st w (up2 I 15 k v) J) := b_as 24 S (by decide) rfl (by decide) h
theorem ln_15 (S : Sw w) : aLen 15 (st w I J) = some (.inl (nn 24), st w I J) := b_len S (by decide) rfl (by decide)
theorem l_15_0 (S : Sw w) : al 0 15 0 (st w I J) = some (.inl (I 15 0), st w I J) := l_15 S (k := 0) (by decide)
theorem s_15_0 (S : Sw w) {v : Int32} : as_ 15 0 v (st w I J) = some (.inl (), st w (up2 I 15 0 v) J) := s_15 S (k := 0) (by decide)
theorem v_16 (S : Sw w) {α : Type} {F : Mo α} : cv 4 16 F (st w I J) = F (st w I J) := b_cv (kd := 2) S (by decide)
theorem r_16_0 (S : Sw w) : gR 4 0 16 (st w I J) = some (.inl 17, st w I J) := b_gR S (by decide) (by decide +kernel)
theorem r_16_1 (S : Sw w) : gR 4 1 16 (st w I J) = some (.inl 18, st w I J) := b_gR S (by decide) (by decide +kernel)
theorem i_16_2 (S : Sw w) : gI 4 2 16 (st w I J) = some (.inl (I 16 2), st w I J) := b_gI S (by decide)
theorem w_16_2 (S : Sw w) {v : Int32} : pf 4 2 16 (.int v) (st w I J) = some (.inl (), st w (up2 I 16 2 v) J) := b_pfI S (by decide)
theorem l_17 (S : Sw w) {k : Nat} (h : k < 150) : al 0 17 (nn k) (st w I J) = some (.inl (I 17 k), st w I J) := b_al 150 S (by decide) rfl (by decide) h
theorem s_17 (S : Sw w) {k : Nat} {v : Int32} (h : k < 150) : as_ 17 (nn k) v (st w I J) = some (.inl (), st w (up2 I 17 k v) J) := b_as 150 S (by decide) rfl (by decide) h
theorem ln_17 (S : Sw w) : aLen 17 (st w I J) = some (.inl (nn 150), st w I J) := b_len S (by decide) rfl (by decide)
theorem l_18 (S : Sw w) {k : Nat} (h : k < 24) : al 0 18 (nn k) (st w I J) = some (.inl (I 18 k), st w I J) := b_al 24 S (by decide) rfl (by decide) h
theorem s_18 (S : Sw w) {k : Nat} {v : Int32} (h : k < 24) : as_ 18 (nn k) v (st w I J) = some (.inl (), st w (up2 I 18 k v) J) := b_as 24 S (by decide) rfl (by decide) h
theorem ln_18 (S : Sw w) : aLen 18 (st w I J) = some (.inl (nn 24), st w I J) := b_len S (by decide) rfl (by decide)
theorem v_19 (S : Sw w) {α : Type} {F : Mo α} : cv 9 19 F (st w I J) = F (st w I J) := b_cv (kd := 2) S (by decide)
theorem r_19_0 (S : Sw w) : gR 9 0 19 (st w I J) = some (.inl 20, st w I J) := b_gR S (by decide) (by decide +kernel)
theorem r_19_1 (S : Sw w) : gR 9 1 19 (st w I J) = some (.inl 21, st w I J) := b_gR S (by decide) (by decide +kernel)
theorem r_19_2 (S : Sw w) : gR 9 2 19 (st w I J) = some (.inl 22, st w I J) := b_gR S (by decide) (by decide +kernel)
theorem r_19_3 (S : Sw w) : gR 9 3 19 (st w I J) = some (.inl 23, st w I J) := b_gR S (by decide) (by decide +kernel)
theorem i_19_4 (S : Sw w) : gI 9 4 19 (st w I J) = some (.inl (I 19 4), st w I J) := b_gI S (by decide)
theorem w_19_4 (S : Sw w) {v : Int32} : pf 9 4 19 (.int v) (st w I J) = some (.inl (), st w (up2 I 19 4 v) J) := b_pfI S (by decide)
theorem i_19_5 (S : Sw w) : gI 9 5 19 (st w I J) = some (.inl (I 19 5), st w I J) := b_gI S (by decide)
theorem w_19_5 (S : Sw w) {v : Int32} : pf 9 5 19 (.int v) (st w I J) = some (.inl (), st w (up2 I 19 5 v) J) := b_pfI S (by decide)
theorem i_19_6 (S : Sw w) : gI 9 6 19 (st w I J) = some (.inl (I 19 6), st w I J) := b_gI S (by decide)
theorem w_19_6 (S : Sw w) {v : Int32} : pf 9 6 19 (.int v) (st w I J) = some (.inl (), st w (up2 I 19 6 v) J) := b_pfI S (by decide)
theorem i_19_7 (S : Sw w) : gI 9 7 19 (st w I J) = some (.inl (I 19 7), st w I J) := b_gI S (by decide)
theorem w_19_7 (S : Sw w) {v : Int32} : pf 9 7 19 (.int v) (st w I J) = some (.inl (), st w (up2 I 19 7 v) J) := b_pfI S (by decide)
theorem l_20 (S : Sw w) {k : Nat} (h : k < 30) : al 0 20 (nn k) (st w I J) = some (.inl (I 20 k), st w I J) := b_al 30 S (by decide) rfl (by decide) h
theorem s_20 (S : Sw w) {k : Nat} {v : Int32} (h : k < 30) : as_ 20 (nn k) v (st w I J) = some (.inl (), st w (up2 I 20 k v) J) := b_as 30 S (by decide) rfl (by decide) h
theorem ln_20 (S : Sw w) : aLen 20 (st w I J) = some (.inl (nn 30), st w I J) := b_len S (by decide) rfl (by decide)
theorem l_21 (S : Sw w) {k : Nat} (h : k < 30) : al 0 21 (nn k) (st w I J) = some (.inl (I 21 k), st w I J) := b_al 30 S (by decide) rfl (by decide) h
theorem s_21 (S : Sw w) {k : Nat} {v : Int32} (h : k < 30) : as_ 21 (nn k) v (st w I J) = some (.inl (), st w (up2 I 21 k v) J) := b_as 30 S (by decide) rfl (by decide) h
theorem ln_21 (S : Sw w) : aLen 21 (st w I J) = some (.inl (nn 30), st w I J) := b_len S (by decide) rfl (by decide)
theorem l_22 (S : Sw w) {k : Nat} (h : k < 30) : al 0 22 (nn k) (st w I J) = some (.inl (I 22 k), st w I J) := b_al 30 S (by decide) rfl (by decide) h
theorem s_22 (S : Sw w) {k : Nat} {v : Int32} (h : k < 30) : as_ 22 (nn k) v (st w I J) = some (.inl (), st w (up2 I 22 k v) J) := b_as 30 S (by decide) rfl (by decide) h
theorem ln_22 (S : Sw w) : aLen 22 (st w I J) = some (.inl (nn 30), st w I J) := b_len S (by decide) rfl (by decide)
theorem l_23 (S : Sw w) {k : Nat} (h : k < 30) : al 0 23 (nn k) (st w I J) = some (.inl (I 23 k), st w I J) := b_al 30 S (by decide) rfl (by decide) h
theorem s_23 (S : Sw w) {k : Nat} {v : Int32} (h : k < 30) : as_ 23 (nn k) v (st w I J) = some (.inl (), st w (up2 I 23 k v) J) := b_as 30 S (by decide) rfl (by decide) h
theorem ln_23 (S : Sw w) : aLen 23 (st w I J) = some (.inl (nn 30), st w I J) := b_len S (by decide) rfl (by decide)
theorem v_24 (S : Sw w) {α : Type} {F : Mo α} : cv 1 24 F (st w I J) = F (st w I J) := b_cv (kd := 2) S (by decide)
theorem r_24_0 (S : Sw w) : gR 1 0 24 (st w I J) = some (.inl 3, st w I J) := b_gR S (by decide) (by decide +kernel)
theorem r_24_1 (S : Sw w) : gR 1 1 24 (st w I J) = some (.inl 25, st w I J) := b_gR S (by decide) (by decide +kernel)
theorem r_24_2 (S : Sw w) : gR 1 2 24 (st w I J) = some (.inl 26, st w I J) := b_gR S (by decide) (by decide +kernel)
theorem r_24_3 (S : Sw w) : gR 1 3 24 (st w I J) = some (.inl 27, st w I J) := b_gR S (by decide) (by decide +kernel)
theorem i_24_4 (S : Sw w) : gI 1 4 24 (st w I J) = some (.inl (I 24 4), st w I J) := b_gI S (by decide)
theorem w_24_4 (S : Sw w) {v : Int32} : pf 1 4 24 (.int v) (st w I J) = some (.inl (), st w (up2 I 24 4 v) J) := b_pfI S (by decide)
theorem j_24_5 (S : Sw w) : gJ 1 5 24 (st w I J) = some (.inl (J 24 5), st w I J) := b_gJ S (by decide)
theorem wj_24_5 (S : Sw w) {v : Int64} : pf 1 5 24 (.long v) (st w I J) = some (.inl (), st w I (up2 J 24 5 v)) := b_pfJ S (by decide)
theorem l_25 (S : Sw w) {k : Nat} (h : k < 8) : al 0 25 (nn k) (st w I J) = some (.inl (I 25 k), st w I J) := b_al 8 S (by decide) rfl (by decide) h
theorem s_25 (S : Sw w) {k : Nat} {v : Int32} (h : k < 8) : as_ 25 (nn k) v (st w I J) = some (.inl (), st w (up2 I 25 k v) J) := b_as 8 S (by decide) rfl (by decide) h
theorem ln_25 (S : Sw w) : aLen 25 (st w I J) = some (.inl (nn 8), st w I J) := b_len S (by decide) rfl (by decide)
theorem l_26 (S : Sw w) {k : Nat} (h : k < 8) : al 0 26 (nn k) (st w I J) = some (.inl (I 26 k), st w I J) := b_al 8 S (by decide) rfl (by decide) h
theorem s_26 (S : Sw w) {k : Nat} {v : Int32} (h : k < 8) : as_ 26 (nn k) v (st w I J) = some (.inl (), st w (up2 I 26 k v) J) := b_as 8 S (by decide) rfl (by decide) h
theorem ln_26 (S : Sw w) : aLen 26 (st w I J) = some (.inl (nn 8), st w I J) := b_len S (by decide) rfl (by decide)
theorem l_27 (S : Sw w) {k : Nat} (h : k < 7) : al 0 27 (nn k) (st w I J) = some (.inl (I 27 k), st w I J) := b_al 7 S (by decide) rfl (by decide) h
theorem s_27 (S : Sw w) {k : Nat} {v : Int32} (h : k < 7) : as_ 27 (nn k) v (st w I J) = some (.inl (), st w (up2 I 27 k v) J) := b_as 7 S (by decide) rfl (by decide) h
theorem ln_27 (S : Sw w) : aLen 27 (st w I J) = some (.inl (nn 7), st w I J) := b_len S (by decide) rfl (by decide)
theorem v_28 (S : Sw w) {α : Type} {F : Mo α} : cv 6 28 F (st w I J) = F (st w I J) := b_cv (kd := 2) S (by decide)
theorem r_28_0 (S : Sw w) : gR 6 0 28 (st w I J) = some (.inl 3, st w I J) := b_gR S (by decide) (by decide +kernel)
theorem r_28_1 (S : Sw w) : gR 6 1 28 (st w I J) = some (.inl 13, st w I J) := b_gR S (by decide) (by decide +kernel)
theorem r_28_2 (S : Sw w) : gR 6 2 28 (st w I J) = some (.inl 29, st w I J) := b_gR S (by decide) (by decide +kernel)
theorem l_29 (S : Sw w) {k : Nat} (h : k < 8) : al 0 29 (nn k) (st w I J) = some (.inl (I 29 k), st w I J) := b_al 8 S (by decide) rfl (by decide) h
theorem s_29 (S : Sw w) {k : Nat} {v : Int32} (h : k < 8) : as_ 29 (nn k) v (st w I J) = some (.inl (), st w (up2 I 29 k v) J) := b_as 8 S (by decide) rfl (by decide) h
theorem ln_29 (S : Sw w) : aLen 29 (st w I J) = some (.inl (nn 8), st w I J) := b_len S (by decide) rfl (by decide)
theorem l_29_0 (S : Sw w) : al 0 29 0 (st w I J) = some (.inl (I 29 0), st w I J) := l_29 S (k := 0) (by decide)
theorem s_29_0 (S : Sw w) {v : Int32} : as_ 29 0 v (st w I J) = some (.inl (), st w (up2 I 29 0 v) J) := s_29 S (k := 0) (by decide)
theorem l_29_1 (S : Sw w) : al 0 29 1 (st w I J) = some (.inl (I 29 1), st w I J) := l_29 S (k := 1) (by decide)
theorem s_29_1 (S : Sw w) {v : Int32} : as_ 29 1 v (st w I J) = some (.inl (), st w (up2 I 29 1 v) J) := s_29 S (k := 1) (by decide)
theorem l_29_2 (S : Sw w) : al 0 29 2 (st w I J) = some (.inl (I 29 2), st w I J) := l_29 S (k := 2) (by decide)
theorem s_29_2 (S : Sw w) {v : Int32} : as_ 29 2 v (st w I J) = some (.inl (), st w (up2 I 29 2 v) J) := s_29 S (k := 2) (by decide)
theorem l_29_3 (S : Sw w) : al 0 29 3 (st w I J) = some (.inl (I 29 3), st w I J) := l_29 S (k := 3) (by decide)
theorem s_29_3 (S : Sw w) {v : Int32} : as_ 29 3 v (st w I J) = some (.inl (), st w (up2 I 29 3 v) J) := s_29 S (k := 3) (by decide)
theorem l_29_4 (S : Sw w) : al 0 29 4 (st w I J) = some (.inl (I 29 4), st w I J) := l_29 S (k := 4) (by decide)
theorem s_29_4 (S : Sw w) {v : Int32} : as_ 29 4 v (st w I J) = some (.inl (), st w (up2 I 29 4 v) J) := s_29 S (k := 4) (by decide)
theorem l_29_5 (S : Sw w) : al 0 29 5 (st w I J) = some (.inl (I 29 5), st w I J) := l_29 S (k := 5) (by decide)
theorem s_29_5 (S : Sw w) {v : Int32} : as_ 29 5 v (st w I J) = some (.inl (), st w (up2 I 29 5 v) J) := s_29 S (k := 5) (by decide)
theorem l_29_6 (S : Sw w) : al 0 29 6 (st w I J) = some (.inl (I 29 6), st w I J) := l_29 S (k := 6) (by decide)
theorem s_29_6 (S : Sw w) {v : Int32} : as_ 29 6 v (st w I J) = some (.inl (), st w (up2 I 29 6 v) J) := s_29 S (k := 6) (by decide)
theorem l_29_7 (S : Sw w) : al 0 29 7 (st w I J) = some (.inl (I 29 7), st w I J) := l_29 S (k := 7) (by decide)
theorem s_29_7 (S : Sw w) {v : Int32} : as_ 29 7 v (st w I J) = some (.inl (), st w (up2 I 29 7 v) J) := s_29 S (k := 7) (by decide)
theorem v_30 (S : Sw w) {α : Type} {F : Mo α} : cv 7 30 F (st w I J) = F (st w I J) := b_cv (kd := 2) S (by decide)
theorem r_30_0 (S : Sw w) : gR 7 0 30 (st w I J) = some (.inl 28, st w I J) := b_gR S (by decide) (by decide +kernel)
theorem r_30_1 (S : Sw w) : gR 7 1 30 (st w I J) = some (.inl 3, st w I J) := b_gR S (by decide) (by decide +kernel)
theorem r_30_2 (S : Sw w) : gR 7 2 30 (st w I J) = some (.inl 31, st w I J) := b_gR S (by decide) (by decide +kernel)
theorem r_30_3 (S : Sw w) : gR 7 3 30 (st w I J) = some (.inl 32, st w I J) := b_gR S (by decide) (by decide +kernel)
theorem i_30_4 (S : Sw w) : gI 7 4 30 (st w I J) = some (.inl (I 30 4), st w I J) := b_gI S (by decide)
theorem w_30_4 (S : Sw w) {v : Int32} : pf 7 4 30 (.int v) (st w I J) = some (.inl (), st w (up2 I 30 4 v) J) := b_pfI S (by decide)
theorem i_30_5 (S : Sw w) : gI 7 5 30 (st w I J) = some (.inl (I 30 5), st w I J) := b_gI S (by decide)
theorem w_30_5 (S : Sw w) {v : Int32} : pf 7 5 30 (.int v) (st w I J) = some (.inl (), st w (up2 I 30 5 v) J) := b_pfI S (by decide)
theorem l_31 (S : Sw w) {k : Nat} (h : k < 8) : al 0 31 (nn k) (st w I J) = some (.inl (I 31 k), st w I J) := b_al 8 S (by decide) rfl (by decide) h
theorem s_31 (S : Sw w) {k : Nat} {v : Int32} (h : k < 8) : as_ 31 (nn k) v (st w I J) = some (.inl (), st w (up2 I 31 k v) J) := b_as 8 S (by decide) rfl (by decide) h
theorem ln_31 (S : Sw w) : aLen 31 (st w I J) = some (.inl (nn 8), st w I J) := b_len S (by decide) rfl (by decide)
theorem l_32 (S : Sw w) {k : Nat} (h : k < 5) : al 0 32 (nn k) (st w I J) = some (.inl (I 32 k), st w I J) := b_al 5 S (by decide) rfl (by decide) h
theorem s_32 (S : Sw w) {k : Nat} {v : Int32} (h : k < 5) : as_ 32 (nn k) v (st w I J) = some (.inl (), st w (up2 I 32 k v) J) := b_as 5 S (by decide) rfl (by decide) h
theorem ln_32 (S : Sw w) : aLen 32 (st w I J) = some (.inl (nn 5), st w I J) := b_len S (by decide) rfl (by decide)
theorem l_32_0 (S : Sw w) : al 0 32 0 (st w I J) = some (.inl (I 32 0), st w I J) := l_32 S (k := 0) (by decide)
theorem s_32_0 (S : Sw w) {v : Int32} : as_ 32 0 v (st w I J) = some (.inl (), st w (up2 I 32 0 v) J) := s_32 S (k := 0) (by decide)
theorem v_33 (S : Sw w) {α : Type} {F : Mo α} : cv 0 33 F (st w I J) = F (st w I J) := b_cv (kd := 2) S (by decide)
theorem r_33_0 (S : Sw w) : gR 0 0 33 (st w I J) = some (.inl 3, st w I J) := b_gR S (by decide) (by decide +kernel)
theorem r_33_1 (S : Sw w) : gR 0 1 33 (st w I J) = some (.inl 34, st w I J) := b_gR S (by decide) (by decide +kernel)
theorem r_33_2 (S : Sw w) : gR 0 2 33 (st w I J) = some (.inl 35, st w I J) := b_gR S (by decide) (by decide +kernel)
theorem r_33_3 (S : Sw w) : gR 0 3 33 (st w I J) = some (.inl 36, st w I J) := b_gR S (by decide) (by decide +kernel)
theorem i_33_4 (S : Sw w) : gI 0 4 33 (st w I J) = some (.inl (I 33 4), st w I J) := b_gI S (by decide)
theorem w_33_4 (S : Sw w) {v : Int32} : pf 0 4 33 (.int v) (st w I J) = some (.inl (), st w (up2 I 33 4 v) J) := b_pfI S (by decide)
theorem i_33_5 (S : Sw w) : gI 0 5 33 (st w I J) = some (.inl (I 33 5), st w I J) := b_gI S (by decide)
theorem w_33_5 (S : Sw w) {v : Int32} : pf 0 5 33 (.int v) (st w I J) = some (.inl (), st w (up2 I 33 5 v) J) := b_pfI S (by decide)
theorem l_34 (S : Sw w) {k : Nat} (h : k < 8) : al 0 34 (nn k) (st w I J) = some (.inl (I 34 k), st w I J) := b_al 8 S (by decide) rfl (by decide) h
theorem s_34 (S : Sw w) {k : Nat} {v : Int32} (h : k < 8) : as_ 34 (nn k) v (st w I J) = some (.inl (), st w (up2 I 34 k v) J) := b_as 8 S (by decide) rfl (by decide) h
theorem ln_34 (S : Sw w) : aLen 34 (st w I J) = some (.inl (nn 8), st w I J) := b_len S (by decide) rfl (by decide)
theorem l_35 (S : Sw w) {k : Nat} (h : k < 8) : al 0 35 (nn k) (st w I J) = some (.inl (I 35 k), st w I J) := b_al 8 S (by decide) rfl (by decide) h
theorem s_35 (S : Sw w) {k : Nat} {v : Int32} (h : k < 8) : as_ 35 (nn k) v (st w I J) = some (.inl (), st w (up2 I 35 k v) J) := b_as 8 S (by decide) rfl (by decide) h
theorem ln_35 (S : Sw w) : aLen 35 (st w I J) = some (.inl (nn 8), st w I J) := b_len S (by decide) rfl (by decide)
theorem l_36 (S : Sw w) {k : Nat} (h : k < 8) : al 0 36 (nn k) (st w I J) = some (.inl (I 36 k), st w I J) := b_al 8 S (by decide) rfl (by decide) h
theorem s_36 (S : Sw w) {k : Nat} {v : Int32} (h : k < 8) : as_ 36 (nn k) v (st w I J) = some (.inl (), st w (up2 I 36 k v) J) := b_as 8 S (by decide) rfl (by decide) h
theorem ln_36 (S : Sw w) : aLen 36 (st w I J) = some (.inl (nn 8), st w I J) := b_len S (by decide) rfl (by decide)
theorem v_37 (S : Sw w) {α : Type} {F : Mo α} : cv 10 37 F (st w I J) = F (st w I J) := b_cv (kd := 2) S (by decide)
theorem r_37_0 (S : Sw w) : gR 10 0 37 (st w I J) = some (.inl 28, st w I J) := b_gR S (by decide) (by decide +kernel)
theorem r_37_1 (S : Sw w) : gR 10 1 37 (st w I J) = some (.inl 38, st w I J) := b_gR S (by decide) (by decide +kernel)
theorem i_37_2 (S : Sw w) : gI 10 2 37 (st w I J) = some (.inl (I 37 2), st w I J) := b_gI S (by decide)
theorem w_37_2 (S : Sw w) {v : Int32} : pf 10 2 37 (.int v) (st w I J) = some (.inl (), st w (up2 I 37 2 v) J) := b_pfI S (by decide)
theorem i_37_3 (S : Sw w) : gI 10 3 37 (st w I J) = some (.inl (I 37 3), st w I J) := b_gI S (by decide)
theorem w_37_3 (S : Sw w) {v : Int32} : pf 10 3 37 (.int v) (st w I J) = some (.inl (), st w (up2 I 37 3 v) J) := b_pfI S (by decide)
theorem i_37_4 (S : Sw w) : gI 10 4 37 (st w I J) = some (.inl (I 37 4), st w I J) := b_gI S (by decide)
theorem w_37_4 (S : Sw w) {v : Int32} : pf 10 4 37 (.int v) (st w I J) = some (.inl (), st w (up2 I 37 4 v) J) := b_pfI S (by decide)
theorem v_38 (S : Sw w) {α : Type} {F : Mo α} : cv 5 38 F (st w I J) = F (st w I J) := b_cv (kd := 2) S (by decide)
theorem r_38_0 (S : Sw w) : gR 5 0 38 (st w I J) = some (.inl 39, st w I J) := b_gR S (by decide) (by decide +kernel)
theorem r_38_1 (S : Sw w) : gR 5 1 38 (st w I J) = some (.inl 40, st w I J) := b_gR S (by decide) (by decide +kernel)
theorem r_38_2 (S : Sw w) : gR 5 2 38 (st w I J) = some (.inl 41, st w I J) := b_gR S (by decide) (by decide +kernel)
theorem r_38_3 (S : Sw w) : gR 5 3 38 (st w I J) = some (.inl 42, st w I J) := b_gR S (by decide) (by decide +kernel)
theorem i_38_4 (S : Sw w) : gI 5 4 38 (st w I J) = some (.inl (I 38 4), st w I J) := b_gI S (by decide)
theorem w_38_4 (S : Sw w) {v : Int32} : pf 5 4 38 (.int v) (st w I J) = some (.inl (), st w (up2 I 38 4 v) J) := b_pfI S (by decide)
theorem i_38_5 (S : Sw w) : gI 5 5 38 (st w I J) = some (.inl (I 38 5), st w I J) := b_gI S (by decide)
theorem w_38_5 (S : Sw w) {v : Int32} : pf 5 5 38 (.int v) (st w I J) = some (.inl (), st w (up2 I 38 5 v) J) := b_pfI S (by decide)
theorem l_39 (S : Sw w) {k : Nat} (h : k < 8) : al 0 39 (nn k) (st w I J) = some (.inl (I 39 k), st w I J) := b_al 8 S (by decide) rfl (by decide) h
theorem s_39 (S : Sw w) {k : Nat} {v : Int32} (h : k < 8) : as_ 39 (nn k) v (st w I J) = some (.inl (), st w (up2 I 39 k v) J) := b_as 8 S (by decide) rfl (by decide) h
theorem ln_39 (S : Sw w) : aLen 39 (st w I J) = some (.inl (nn 8), st w I J) := b_len S (by decide) rfl (by decide)
theorem l_40 (S : Sw w) {k : Nat} (h : k < 8) : al 0 40 (nn k) (st w I J) = some (.inl (I 40 k), st w I J) := b_al 8 S (by decide) rfl (by decide) h
theorem s_40 (S : Sw w) {k : Nat} {v : Int32} (h : k < 8) : as_ 40 (nn k) v (st w I J) = some (.inl (), st w (up2 I 40 k v) J) := b_as 8 S (by decide) rfl (by decide) h
theorem ln_40 (S : Sw w) : aLen 40 (st w I J) = some (.inl (nn 8), st w I J) := b_len S (by decide) rfl (by decide)
theorem l_41 (S : Sw w) {k : Nat} (h : k < 8) : al 0 41 (nn k) (st w I J) = some (.inl (I 41 k), st w I J) := b_al 8 S (by decide) rfl (by decide) h
theorem s_41 (S : Sw w) {k : Nat} {v : Int32} (h : k < 8) : as_ 41 (nn k) v (st w I J) = some (.inl (), st w (up2 I 41 k v) J) := b_as 8 S (by decide) rfl (by decide) h
theorem ln_41 (S : Sw w) : aLen 41 (st w I J) = some (.inl (nn 8), st w I J) := b_len S (by decide) rfl (by decide)
theorem l_42 (S : Sw w) {k : Nat} (h : k < 40) : al 0 42 (nn k) (st w I J) = some (.inl (I 42 k), st w I J) := b_al 40 S (by decide) rfl (by decide) h
theorem s_42 (S : Sw w) {k : Nat} {v : Int32} (h : k < 40) : as_ 42 (nn k) v (st w I J) = some (.inl (), st w (up2 I 42 k v) J) := b_as 40 S (by decide) rfl (by decide) h
theorem ln_42 (S : Sw w) : aLen 42 (st w I J) = some (.inl (nn 40), st w I J) := b_len S (by decide) rfl (by decide)
theorem v_43 (S : Sw w) {α : Type} {F : Mo α} : cv 5 43 F (st w I J) = F (st w I J) := b_cv (kd := 2) S (by decide)
theorem r_43_0 (S : Sw w) : gR 5 0 43 (st w I J) = some (.inl 44, st w I J) := b_gR S (by decide) (by decide +kernel)
theorem r_43_1 (S : Sw w) : gR 5 1 43 (st w I J) = some (.inl 45, st w I J) := b_gR S (by decide) (by decide +kernel)
theorem r_43_2 (S : Sw w) : gR 5 2 43 (st w I J) = some (.inl 46, st w I J) := b_gR S (by decide) (by decide +kernel)
theorem r_43_3 (S : Sw w) : gR 5 3 43 (st w I J) = some (.inl 47, st w I J) := b_gR S (by decide) (by decide +kernel)
theorem i_43_4 (S : Sw w) : gI 5 4 43 (st w I J) = some (.inl (I 43 4), st w I J) := b_gI S (by decide)
theorem w_43_4 (S : Sw w) {v : Int32} : pf 5 4 43 (.int v) (st w I J) = some (.inl (), st w (up2 I 43 4 v) J) := b_pfI S (by decide)
theorem i_43_5 (S : Sw w) : gI 5 5 43 (st w I J) = some (.inl (I 43 5), st w I J) := b_gI S (by decide)
theorem w_43_5 (S : Sw w) {v : Int32} : pf 5 5 43 (.int v) (st w I J) = some (.inl (), st w (up2 I 43 5 v) J) := b_pfI S (by decide)
theorem l_44 (S : Sw w) {k : Nat} (h : k < 8) : al 0 44 (nn k) (st w I J) = some (.inl (I 44 k), st w I J) := b_al 8 S (by decide) rfl (by decide) h
theorem s_44 (S : Sw w) {k : Nat} {v : Int32} (h : k < 8) : as_ 44 (nn k) v (st w I J) = some (.inl (), st w (up2 I 44 k v) J) := b_as 8 S (by decide) rfl (by decide) h
theorem ln_44 (S : Sw w) : aLen 44 (st w I J) = some (.inl (nn 8), st w I J) := b_len S (by decide) rfl (by decide)
theorem l_45 (S : Sw w) {k : Nat} (h : k < 8) : al 0 45 (nn k) (st w I J) = some (.inl (I 45 k), st w I J) := b_al 8 S (by decide) rfl (by decide) h
theorem s_45 (S : Sw w) {k : Nat} {v : Int32} (h : k < 8) : as_ 45 (nn k) v (st w I J) = some (.inl (), st w (up2 I 45 k v) J) := b_as 8 S (by decide) rfl (by decide) h
theorem ln_45 (S : Sw w) : aLen 45 (st w I J) = some (.inl (nn 8), st w I J) := b_len S (by decide) rfl (by decide)
theorem l_46 (S : Sw w) {k : Nat} (h : k < 8) : al 0 46 (nn k) (st w I J) = some (.inl (I 46 k), st w I J) := b_al 8 S (by decide) rfl (by decide) h
theorem s_46 (S : Sw w) {k : Nat} {v : Int32} (h : k < 8) : as_ 46 (nn k) v (st w I J) = some (.inl (), st w (up2 I 46 k v) J) := b_as 8 S (by decide) rfl (by decide) h
theorem ln_46 (S : Sw w) : aLen 46 (st w I J) = some (.inl (nn 8), st w I J) := b_len S (by decide) rfl (by decide)
theorem l_47 (S : Sw w) {k : Nat} (h : k < 40) : al 0 47 (nn k) (st w I J) = some (.inl (I 47 k), st w I J) := b_al 40 S (by decide) rfl (by decide) h
theorem s_47 (S : Sw w) {k : Nat} {v : Int32} (h : k < 40) : as_ 47 (nn k) v (st w I J) = some (.inl (), st w (up2 I 47 k v) J) := b_as 40 S (by decide) rfl (by decide) h
theorem ln_47 (S : Sw w) : aLen 47 (st w I J) = some (.inl (nn 40), st w I J) := b_len S (by decide) rfl (by decide)
theorem v_49 (S : Sw w) {α : Type} {F : Mo α} : cv 12 49 F (st w I J) = F (st w I J) := b_cv (kd := 0) S (by decide)
theorem i_49_0 (S : Sw w) : gI 12 0 49 (st w I J) = some (.inl (I 49 0), st w I J) := b_gI S (by decide)
theorem w_49_0 (S : Sw w) {v : Int32} : pf 12 0 49 (.int v) (st w I J) = some (.inl (), st w (up2 I 49 0 v) J) := b_pfI S (by decide)
theorem i_49_1 (S : Sw w) : gI 12 1 49 (st w I J) = some (.inl (I 49 1), st w I J) := b_gI S (by decide)
theorem w_49_1 (S : Sw w) {v : Int32} : pf 12 1 49 (.int v) (st w I J) = some (.inl (), st w (up2 I 49 1 v) J) := b_pfI S (by decide)
theorem i_49_2 (S : Sw w) : gI 12 2 49 (st w I J) = some (.inl (I 49 2), st w I J) := b_gI S (by decide)
theorem w_49_2 (S : Sw w) {v : Int32} : pf 12 2 49 (.int v) (st w I J) = some (.inl (), st w (up2 I 49 2 v) J) := b_pfI S (by decide)
theorem i_49_3 (S : Sw w) : gI 12 3 49 (st w I J) = some (.inl (I 49 3), st w I J) := b_gI S (by decide)
theorem w_49_3 (S : Sw w) {v : Int32} : pf 12 3 49 (.int v) (st w I J) = some (.inl (), st w (up2 I 49 3 v) J) := b_pfI S (by decide)
theorem i_49_4 (S : Sw w) : gI 12 4 49 (st w I J) = some (.inl (I 49 4), st w I J) := b_gI S (by decide)
theorem w_49_4 (S : Sw w) {v : Int32} : pf 12 4 49 (.int v) (st w I J) = some (.inl (), st w (up2 I 49 4 v) J) := b_pfI S (by decide)
theorem i_49_5 (S : Sw w) : gI 12 5 49 (st w I J) = some (.inl (I 49 5), st w I J) := b_gI S (by decide)
theorem w_49_5 (S : Sw w) {v : Int32} : pf 12 5 49 (.int v) (st w I J) = some (.inl (), st w (up2 I 49 5 v) J) := b_pfI S (by decide)
theorem i_49_6 (S : Sw w) : gI 12 6 49 (st w I J) = some (.inl (I 49 6), st w I J) := b_gI S (by decide)
theorem w_49_6 (S : Sw w) {v : Int32} : pf 12 6 49 (.int v) (st w I J) = some (.inl (), st w (up2 I 49 6 v) J) := b_pfI S (by decide)
theorem i_49_7 (S : Sw w) : gI 12 7 49 (st w I J) = some (.inl (I 49 7), st w I J) := b_gI S (by decide)
theorem w_49_7 (S : Sw w) {v : Int32} : pf 12 7 49 (.int v) (st w I J) = some (.inl (), st w (up2 I 49 7 v) J) := b_pfI S (by decide)
theorem i_49_8 (S : Sw w) : gI 12 8 49 (st w I J) = some (.inl (I 49 8), st w I J) := b_gI S (by decide)
theorem w_49_8 (S : Sw w) {v : Int32} : pf 12 8 49 (.int v) (st w I J) = some (.inl (), st w (up2 I 49 8 v) J) := b_pfI S (by decide)
theorem r_49_9 (S : Sw w) : gR 12 9 49 (st w I J) = some (.inl 50, st w I J) := b_gR S (by decide) (by decide +kernel)
theorem r_49_10 (S : Sw w) : gR 12 10 49 (st w I J) = some (.inl 51, st w I J) := b_gR S (by decide) (by decide +kernel)
theorem r_49_11 (S : Sw w) : gR 12 11 49 (st w I J) = some (.inl 52, st w I J) := b_gR S (by decide) (by decide +kernel)
theorem r_49_12 (S : Sw w) : gR 12 12 49 (st w I J) = some (.inl 53, st w I J) := b_gR S (by decide) (by decide +kernel)
theorem r_49_13 (S : Sw w) : gR 12 13 49 (st w I J) = some (.inl 54, st w I J) := b_gR S (by decide) (by decide +kernel)
theorem r_49_14 (S : Sw w) : gR 12 14 49 (st w I J) = some (.inl 55, st w I J) := b_gR S (by decide) (by decide +kernel)
theorem r_49_15 (S : Sw w) : gR 12 15 49 (st w I J) = some (.inl 56, st w I J) := b_gR S (by decide) (by decide +kernel)
theorem r_49_16 (S : Sw w) : gR 12 16 49 (st w I J) = some (.inl 65, st w I J) := b_gR S (by decide) (by decide +kernel)
theorem i_49_17 (S : Sw w) : gI 12 17 49 (st w I J) = some (.inl (I 49 17), st w I J) := b_gI S (by decide)
theorem w_49_17 (S : Sw w) {v : Int32} : pf 12 17 49 (.int v) (st w I J) = some (.inl (), st w (up2 I 49 17 v) J) := b_pfI S (by decide)
theorem i_49_18 (S : Sw w) : gI 12 18 49 (st w I J) = some (.inl (I 49 18), st w I J) := b_gI S (by decide)
theorem w_49_18 (S : Sw w) {v : Int32} : pf 12 18 49 (.int v) (st w I J) = some (.inl (), st w (up2 I 49 18 v) J) := b_pfI S (by decide)
theorem r_49_19 (S : Sw w) : gR 12 19 49 (st w I J) = some (.inl 74, st w I J) := b_gR S (by decide) (by decide +kernel)
theorem r_49_20 (S : Sw w) : gR 12 20 49 (st w I J) = some (.inl 235, st w I J) := b_gR S (by decide) (by decide +kernel)
theorem r_49_21 (S : Sw w) : gR 12 21 49 (st w I J) = some (.inl 396, st w I J) := b_gR S (by decide) (by decide +kernel)
theorem r_49_22 (S : Sw w) : gR 12 22 49 (st w I J) = some (.inl 405, st w I J) := b_gR S (by decide) (by decide +kernel)
theorem r_49_23 (S : Sw w) : gR 12 23 49 (st w I J) = some (.inl 414, st w I J) := b_gR S (by decide) (by decide +kernel)
theorem r_49_24 (S : Sw w) : gR 12 24 49 (st w I J) = some (.inl 415, st w I J) := b_gR S (by decide) (by decide +kernel)
theorem r_49_25 (S : Sw w) : gR 12 25 49 (st w I J) = some (.inl 416, st w I J) := b_gR S (by decide) (by decide +kernel)
theorem i_49_26 (S : Sw w) : gI 12 26 49 (st w I J) = some (.inl (I 49 26), st w I J) := b_gI S (by decide)
theorem w_49_26 (S : Sw w) {v : Int32} : pf 12 26 49 (.int v) (st w I J) = some (.inl (), st w (up2 I 49 26 v) J) := b_pfI S (by decide)
theorem r_49_27 (S : Sw w) : gR 12 27 49 (st w I J) = some (.inl 497, st w I J) := b_gR S (by decide) (by decide +kernel)
theorem r_49_28 (S : Sw w) : gR 12 28 49 (st w I J) = some (.inl 498, st w I J) := b_gR S (by decide) (by decide +kernel)
theorem r_49_29 (S : Sw w) : gR 12 29 49 (st w I J) = some (.inl 499, st w I J) := b_gR S (by decide) (by decide +kernel)
theorem r_49_30 (S : Sw w) : gR 12 30 49 (st w I J) = some (.inl 516, st w I J) := b_gR S (by decide) (by decide +kernel)
theorem i_49_31 (S : Sw w) : gI 12 31 49 (st w I J) = some (.inl (I 49 31), st w I J) := b_gI S (by decide)
theorem w_49_31 (S : Sw w) {v : Int32} : pf 12 31 49 (.int v) (st w I J) = some (.inl (), st w (up2 I 49 31 v) J) := b_pfI S (by decide)
theorem i_49_32 (S : Sw w) : gI 12 32 49 (st w I J) = some (.inl (I 49 32), st w I J) := b_gI S (by decide)
theorem w_49_32 (S : Sw w) {v : Int32} : pf 12 32 49 (.int v) (st w I J) = some (.inl (), st w (up2 I 49 32 v) J) := b_pfI S (by decide)
theorem i_49_33 (S : Sw w) : gI 12 33 49 (st w I J) = some (.inl (I 49 33), st w I J) := b_gI S (by decide)
theorem w_49_33 (S : Sw w) {v : Int32} : pf 12 33 49 (.int v) (st w I J) = some (.inl (), st w (up2 I 49 33 v) J) := b_pfI S (by decide)
theorem i_49_34 (S : Sw w) : gI 12 34 49 (st w I J) = some (.inl (I 49 34), st w I J) := b_gI S (by decide)
theorem w_49_34 (S : Sw w) {v : Int32} : pf 12 34 49 (.int v) (st w I J) = some (.inl (), st w (up2 I 49 34 v) J) := b_pfI S (by decide)
theorem i_49_35 (S : Sw w) : gI 12 35 49 (st w I J) = some (.inl (I 49 35), st w I J) := b_gI S (by decide)
theorem w_49_35 (S : Sw w) {v : Int32} : pf 12 35 49 (.int v) (st w I J) = some (.inl (), st w (up2 I 49 35 v) J) := b_pfI S (by decide)
theorem i_49_36 (S : Sw w) : gI 12 36 49 (st w I J) = some (.inl (I 49 36), st w I J) := b_gI S (by decide)
theorem w_49_36 (S : Sw w) {v : Int32} : pf 12 36 49 (.int v) (st w I J) = some (.inl (), st w (up2 I 49 36 v) J) := b_pfI S (by decide)
theorem i_49_37 (S : Sw w) : gI 12 37 49 (st w I J) = some (.inl (I 49 37), st w I J) := b_gI S (by decide)
theorem w_49_37 (S : Sw w) {v : Int32} : pf 12 37 49 (.int v) (st w I J) = some (.inl (), st w (up2 I 49 37 v) J) := b_pfI S (by decide)
theorem r_49_38 (S : Sw w) : gR 12 38 49 (st w I J) = some (.inl 520, st w I J) := b_gR S (by decide) (by decide +kernel)
theorem i_49_39 (S : Sw w) : gI 12 39 49 (st w I J) = some (.inl (I 49 39), st w I J) := b_gI S (by decide)
theorem w_49_39 (S : Sw w) {v : Int32} : pf 12 39 49 (.int v) (st w I J) = some (.inl (), st w (up2 I 49 39 v) J) := b_pfI S (by decide)
theorem i_49_40 (S : Sw w) : gI 12 40 49 (st w I J) = some (.inl (I 49 40), st w I J) := b_gI S (by decide)
theorem w_49_40 (S : Sw w) {v : Int32} : pf 12 40 49 (.int v) (st w I J) = some (.inl (), st w (up2 I 49 40 v) J) := b_pfI S (by decide)
theorem r_49_41 (S : Sw w) : gR 12 41 49 (st w I J) = some (.inl 521, st w I J) := b_gR S (by decide) (by decide +kernel)
theorem r_49_42 (S : Sw w) : gR 12 42 49 (st w I J) = some (.inl 522, st w I J) := b_gR S (by decide) (by decide +kernel)
theorem r_49_43 (S : Sw w) : gR 12 43 49 (st w I J) = some (.inl 523, st w I J) := b_gR S (by decide) (by decide +kernel)
theorem i_49_44 (S : Sw w) : gI 12 44 49 (st w I J) = some (.inl (I 49 44), st w I J) := b_gI S (by decide)
theorem w_49_44 (S : Sw w) {v : Int32} : pf 12 44 49 (.int v) (st w I J) = some (.inl (), st w (up2 I 49 44 v) J) := b_pfI S (by decide)
theorem r_49_45 (S : Sw w) : gR 12 45 49 (st w I J) = some (.inl 524, st w I J) := b_gR S (by decide) (by decide +kernel)
theorem i_49_46 (S : Sw w) : gI 12 46 49 (st w I J) = some (.inl (I 49 46), st w I J) := b_gI S (by decide)
theorem w_49_46 (S : Sw w) {v : Int32} : pf 12 46 49 (.int v) (st w I J) = some (.inl (), st w (up2 I 49 46 v) J) := b_pfI S (by decide)
theorem i_49_47 (S : Sw w) : gI 12 47 49 (st w I J) = some (.inl (I 49 47), st w I J) := b_gI S (by decide)
theorem w_49_47 (S : Sw w) {v : Int32} : pf 12 47 49 (.int v) (st w I J) = some (.inl (), st w (up2 I 49 47 v) J) := b_pfI S (by decide)
theorem i_49_48 (S : Sw w) : gI 12 48 49 (st w I J) = some (.inl (I 49 48), st w I J) := b_gI S (by decide)
theorem w_49_48 (S : Sw w) {v : Int32} : pf 12 48 49 (.int v) (st w I J) = some (.inl (), st w (up2 I 49 48 v) J) := b_pfI S (by decide)
theorem l_50 (S : Sw w) {k : Nat} (h : k < 600) : al 0 50 (nn k) (st w I J) = some (.inl (I 50 k), st w I J) := b_al 600 S (by decide) rfl (by decide) h
theorem s_50 (S : Sw w) {k : Nat} {v : Int32} (h : k < 600) : as_ 50 (nn k) v (st w I J) = some (.inl (), st w (up2 I 50 k v) J) := b_as 600 S (by decide) rfl (by decide) h
theorem ln_50 (S : Sw w) : aLen 50 (st w I J) = some (.inl (nn 600), st w I J) := b_len S (by decide) rfl (by decide)
theorem l_51 (S : Sw w) {k : Nat} (h : k < 2) : al 0 51 (nn k) (st w I J) = some (.inl (I 51 k), st w I J) := b_al 2 S (by decide) rfl (by decide) h
theorem s_51 (S : Sw w) {k : Nat} {v : Int32} (h : k < 2) : as_ 51 (nn k) v (st w I J) = some (.inl (), st w (up2 I 51 k v) J) := b_as 2 S (by decide) rfl (by decide) h
theorem ln_51 (S : Sw w) : aLen 51 (st w I J) = some (.inl (nn 2), st w I J) := b_len S (by decide) rfl (by decide)
theorem l_51_0 (S : Sw w) : al 0 51 0 (st w I J) = some (.inl (I 51 0), st w I J) := l_51 S (k := 0) (by decide)
theorem s_51_0 (S : Sw w) {v : Int32} : as_ 51 0 v (st w I J) = some (.inl (), st w (up2 I 51 0 v) J) := s_51 S (k := 0) (by decide)
theorem l_51_1 (S : Sw w) : al 0 51 1 (st w I J) = some (.inl (I 51 1), st w I J) := l_51 S (k := 1) (by decide)
theorem s_51_1 (S : Sw w) {v : Int32} : as_ 51 1 v (st w I J) = some (.inl (), st w (up2 I 51 1 v) J) := s_51 S (k := 1) (by decide)
theorem l_52 (S : Sw w) {k : Nat} (h : k < 2) : al 0 52 (nn k) (st w I J) = some (.inl (I 52 k), st w I J) := b_al 2 S (by decide) rfl (by decide) h
theorem s_52 (S : Sw w) {k : Nat} {v : Int32} (h : k < 2) : as_ 52 (nn k) v (st w I J) = some (.inl (), st w (up2 I 52 k v) J) := b_as 2 S (by decide) rfl (by decide) h
theorem ln_52 (S : Sw w) : aLen 52 (st w I J) = some (.inl (nn 2), st w I J) := b_len S (by decide) rfl (by decide)
theorem l_52_0 (S : Sw w) : al 0 52 0 (st w I J) = some (.inl (I 52 0), st w I J) := l_52 S (k := 0) (by decide)
theorem s_52_0 (S : Sw w) {v : Int32} : as_ 52 0 v (st w I J) = some (.inl (), st w (up2 I 52 0 v) J) := s_52 S (k := 0) (by decide)
theorem l_52_1 (S : Sw w) : al 0 52 1 (st w I J) = some (.inl (I 52 1), st w I J) := l_52 S (k := 1) (by decide)
theorem s_52_1 (S : Sw w) {v : Int32} : as_ 52 1 v (st w I J) = some (.inl (), st w (up2 I 52 1 v) J) := s_52 S (k := 1) (by decide)
theorem l_53 (S : Sw w) {k : Nat} (h : k < 2) : al 0 53 (nn k) (st w I J) = some (.inl (I 53 k), st w I J) := b_al 2 S (by decide) rfl (by decide) h
theorem s_53 (S : Sw w) {k : Nat} {v : Int32} (h : k < 2) : as_ 53 (nn k) v (st w I J) = some (.inl (), st w (up2 I 53 k v) J) := b_as 2 S (by decide) rfl (by decide) h
theorem ln_53 (S : Sw w) : aLen 53 (st w I J) = some (.inl (nn 2), st w I J) := b_len S (by decide) rfl (by decide)
theorem l_53_0 (S : Sw w) : al 0 53 0 (st w I J) = some (.inl (I 53 0), st w I J) := l_53 S (k := 0) (by decide)
theorem s_53_0 (S : Sw w) {v : Int32} : as_ 53 0 v (st w I J) = some (.inl (), st w (up2 I 53 0 v) J) := s_53 S (k := 0) (by decide)
theorem l_53_1 (S : Sw w) : al 0 53 1 (st w I J) = some (.inl (I 53 1), st w I J) := l_53 S (k := 1) (by decide)
theorem s_53_1 (S : Sw w) {v : Int32} : as_ 53 1 v (st w I J) = some (.inl (), st w (up2 I 53 1 v) J) := s_53 S (k := 1) (by decide)
theorem l_54 (S : Sw w) {k : Nat} (h : k < 8) : al 0 54 (nn k) (st w I J) = some (.inl (I 54 k), st w I J) := b_al 8 S (by decide) rfl (by decide) h
theorem s_54 (S : Sw w) {k : Nat} {v : Int32} (h : k < 8) : as_ 54 (nn k) v (st w I J) = some (.inl (), st w (up2 I 54 k v) J) := b_as 8 S (by decide) rfl (by decide) h
theorem ln_54 (S : Sw w) : aLen 54 (st w I J) = some (.inl (nn 8), st w I J) := b_len S (by decide) rfl (by decide)
theorem l_55 (S : Sw w) {k : Nat} (h : k < 8) : al 0 55 (nn k) (st w I J) = some (.inl (I 55 k), st w I J) := b_al 8 S (by decide) rfl (by decide) h
theorem s_55 (S : Sw w) {k : Nat} {v : Int32} (h : k < 8) : as_ 55 (nn k) v (st w I J) = some (.inl (), st w (up2 I 55 k v) J) := b_as 8 S (by decide) rfl (by decide) h
theorem ln_55 (S : Sw w) : aLen 55 (st w I J) = some (.inl (nn 8), st w I J) := b_len S (by decide) rfl (by decide)
theorem g_56_m : ∀ k, k < 8 → (56, k) ∈ rPairs ∧ rT 56 k = 57 + k := by decide +kernel
theorem g_56 (S : Sw w) {k : Nat} (h : k < 8) : aR 3 56 (nn k) (st w I J) = some (.inl (57 + k), st w I J) := by
  rw [← (g_56_m k h).2]
  exact b_aR 8 S (by decide) rfl (by decide) h (g_56_m k h).1
theorem q_56 : ∀ p, p < 8 → 57 + p < 526 ∧ shT (57 + p) = .inl (0, 3, 0) := by decide +kernel
theorem l_57 (S : Sw w) {p k : Nat} (hp : p < 8) (h : k < 3) : al 0 (57 + p) (nn k) (st w I J) = some (.inl (I (57 + p) k), st w I J) := b_al 3 S (q_56 p hp).1 (q_56 p hp).2 (by decide) h
theorem s_57 (S : Sw w) {p k : Nat} {v : Int32} (hp : p < 8) (h : k < 3) : as_ (57 + p) (nn k) v (st w I J) = some (.inl (), st w (up2 I (57 + p) k v) J) := b_as 3 S (q_56 p hp).1 (q_56 p hp).2 (by decide) h
theorem ln_57 (S : Sw w) {p : Nat} (hp : p < 8) : aLen (57 + p) (st w I J) = some (.inl (nn 3), st w I J) := b_len S (q_56 p hp).1 (q_56 p hp).2 (by decide)
theorem l_57_0 (S : Sw w) {p : Nat} (hp : p < 8) : al 0 (57 + p) 0 (st w I J) = some (.inl (I (57 + p) 0), st w I J) := l_57 S (k := 0) hp (by decide)
theorem s_57_0 (S : Sw w) {p : Nat} {v : Int32} (hp : p < 8) : as_ (57 + p) 0 v (st w I J) = some (.inl (), st w (up2 I (57 + p) 0 v) J) := s_57 S (k := 0) hp (by decide)
theorem l_57_1 (S : Sw w) {p : Nat} (hp : p < 8) : al 0 (57 + p) 1 (st w I J) = some (.inl (I (57 + p) 1), st w I J) := l_57 S (k := 1) hp (by decide)
theorem s_57_1 (S : Sw w) {p : Nat} {v : Int32} (hp : p < 8) : as_ (57 + p) 1 v (st w I J) = some (.inl (), st w (up2 I (57 + p) 1 v) J) := s_57 S (k := 1) hp (by decide)
theorem l_57_2 (S : Sw w) {p : Nat} (hp : p < 8) : al 0 (57 + p) 2 (st w I J) = some (.inl (I (57 + p) 2), st w I J) := l_57 S (k := 2) hp (by decide)
theorem s_57_2 (S : Sw w) {p : Nat} {v : Int32} (hp : p < 8) : as_ (57 + p) 2 v (st w I J) = some (.inl (), st w (up2 I (57 + p) 2 v) J) := s_57 S (k := 2) hp (by decide)
theorem g_65_m : ∀ k, k < 8 → (65, k) ∈ rPairs ∧ rT 65 k = 66 + k := by decide +kernel
theorem g_65 (S : Sw w) {k : Nat} (h : k < 8) : aR 3 65 (nn k) (st w I J) = some (.inl (66 + k), st w I J) := by
  rw [← (g_65_m k h).2]
  exact b_aR 8 S (by decide) rfl (by decide) h (g_65_m k h).1
theorem q_65 : ∀ p, p < 8 → 66 + p < 526 ∧ shT (66 + p) = .inl (0, 3, 0) := by decide +kernel
theorem l_66 (S : Sw w) {p k : Nat} (hp : p < 8) (h : k < 3) : al 0 (66 + p) (nn k) (st w I J) = some (.inl (I (66 + p) k), st w I J) := b_al 3 S (q_65 p hp).1 (q_65 p hp).2 (by decide) h
theorem s_66 (S : Sw w) {p k : Nat} {v : Int32} (hp : p < 8) (h : k < 3) : as_ (66 + p) (nn k) v (st w I J) = some (.inl (), st w (up2 I (66 + p) k v) J) := b_as 3 S (q_65 p hp).1 (q_65 p hp).2 (by decide) h
theorem ln_66 (S : Sw w) {p : Nat} (hp : p < 8) : aLen (66 + p) (st w I J) = some (.inl (nn 3), st w I J) := b_len S (q_65 p hp).1 (q_65 p hp).2 (by decide)
theorem l_66_0 (S : Sw w) {p : Nat} (hp : p < 8) : al 0 (66 + p) 0 (st w I J) = some (.inl (I (66 + p) 0), st w I J) := l_66 S (k := 0) hp (by decide)
theorem s_66_0 (S : Sw w) {p : Nat} {v : Int32} (hp : p < 8) : as_ (66 + p) 0 v (st w I J) = some (.inl (), st w (up2 I (66 + p) 0 v) J) := s_66 S (k := 0) hp (by decide)
theorem l_66_1 (S : Sw w) {p : Nat} (hp : p < 8) : al 0 (66 + p) 1 (st w I J) = some (.inl (I (66 + p) 1), st w I J) := l_66 S (k := 1) hp (by decide)
theorem s_66_1 (S : Sw w) {p : Nat} {v : Int32} (hp : p < 8) : as_ (66 + p) 1 v (st w I J) = some (.inl (), st w (up2 I (66 + p) 1 v) J) := s_66 S (k := 1) hp (by decide)
theorem l_66_2 (S : Sw w) {p : Nat} (hp : p < 8) : al 0 (66 + p) 2 (st w I J) = some (.inl (I (66 + p) 2), st w I J) := l_66 S (k := 2) hp (by decide)
theorem s_66_2 (S : Sw w) {p : Nat} {v : Int32} (hp : p < 8) : as_ (66 + p) 2 v (st w I J) = some (.inl (), st w (up2 I (66 + p) 2 v) J) := s_66 S (k := 2) hp (by decide)
theorem g_74_m : ∀ k, k < 160 → (74, k) ∈ rPairs ∧ rT 74 k = 75 + k := by decide +kernel
theorem g_74 (S : Sw w) {k : Nat} (h : k < 160) : aR 3 74 (nn k) (st w I J) = some (.inl (75 + k), st w I J) := by
  rw [← (g_74_m k h).2]
  exact b_aR 160 S (by decide) rfl (by decide) h (g_74_m k h).1
theorem q_74 : ∀ p, p < 160 → 75 + p < 526 ∧ shT (75 + p) = .inl (0, 2, 0) := by decide +kernel
theorem l_75 (S : Sw w) {p k : Nat} (hp : p < 160) (h : k < 2) : al 0 (75 + p) (nn k) (st w I J) = some (.inl (I (75 + p) k), st w I J) := b_al 2 S (q_74 p hp).1 (q_74 p hp).2 (by decide) h
theorem s_75 (S : Sw w) {p k : Nat} {v : Int32} (hp : p < 160) (h : k < 2) : as_ (75 + p) (nn k) v (st w I J) = some (.inl (), st w (up2 I (75 + p) k v) J) := b_as 2 S (q_74 p hp).1 (q_74 p hp).2 (by decide) h
theorem ln_75 (S : Sw w) {p : Nat} (hp : p < 160) : aLen (75 + p) (st w I J) = some (.inl (nn 2), st w I J) := b_len S (q_74 p hp).1 (q_74 p hp).2 (by decide)
theorem l_75_0 (S : Sw w) {p : Nat} (hp : p < 160) : al 0 (75 + p) 0 (st w I J) = some (.inl (I (75 + p) 0), st w I J) := l_75 S (k := 0) hp (by decide)
theorem s_75_0 (S : Sw w) {p : Nat} {v : Int32} (hp : p < 160) : as_ (75 + p) 0 v (st w I J) = some (.inl (), st w (up2 I (75 + p) 0 v) J) := s_75 S (k := 0) hp (by decide)
theorem l_75_1 (S : Sw w) {p : Nat} (hp : p < 160) : al 0 (75 + p) 1 (st w I J) = some (.inl (I (75 + p) 1), st w I J) := l_75 S (k := 1) hp (by decide)
theorem s_75_1 (S : Sw w) {p : Nat} {v : Int32} (hp : p < 160) : as_ (75 + p) 1 v (st w I J) = some (.inl (), st w (up2 I (75 + p) 1 v) J) := s_75 S (k := 1) hp (by decide)
theorem g_235_m : ∀ k, k < 160 → (235, k) ∈ rPairs ∧ rT 235 k = 236 + k := by decide +kernel
theorem g_235 (S : Sw w) {k : Nat} (h : k < 160) : aR 3 235 (nn k) (st w I J) = some (.inl (236 + k), st w I J) := by
  rw [← (g_235_m k h).2]
  exact b_aR 160 S (by decide) rfl (by decide) h (g_235_m k h).1
theorem q_235 : ∀ p, p < 160 → 236 + p < 526 ∧ shT (236 + p) = .inl (0, 2, 0) := by decide +kernel
theorem l_236 (S : Sw w) {p k : Nat} (hp : p < 160) (h : k < 2) : al 0 (236 + p) (nn k) (st w I J) = some (.inl (I (236 + p) k), st w I J) := b_al 2 S (q_235 p hp).1 (q_235 p hp).2 (by decide) h
theorem s_236 (S : Sw w) {p k : Nat} {v : Int32} (hp : p < 160) (h : k < 2) : as_ (236 + p) (nn k) v (st w I J) = some (.inl (), st w (up2 I (236 + p) k v) J) := b_as 2 S (q_235 p hp).1 (q_235 p hp).2 (by decide) h
theorem ln_236 (S : Sw w) {p : Nat} (hp : p < 160) : aLen (236 + p) (st w I J) = some (.inl (nn 2), st w I J) := b_len S (q_235 p hp).1 (q_235 p hp).2 (by decide)
theorem l_236_0 (S : Sw w) {p : Nat} (hp : p < 160) : al 0 (236 + p) 0 (st w I J) = some (.inl (I (236 + p) 0), st w I J) := l_236 S (k := 0) hp (by decide)
theorem s_236_0 (S : Sw w) {p : Nat} {v : Int32} (hp : p < 160) : as_ (236 + p) 0 v (st w I J) = some (.inl (), st w (up2 I (236 + p) 0 v) J) := s_236 S (k := 0) hp (by decide)
theorem l_236_1 (S : Sw w) {p : Nat} (hp : p < 160) : al 0 (236 + p) 1 (st w I J) = some (.inl (I (236 + p) 1), st w I J) := l_236 S (k := 1) hp (by decide)
theorem s_236_1 (S : Sw w) {p : Nat} {v : Int32} (hp : p < 160) : as_ (236 + p) 1 v (st w I J) = some (.inl (), st w (up2 I (236 + p) 1 v) J) := s_236 S (k := 1) hp (by decide)
theorem g_396_m : ∀ k, k < 8 → (396, k) ∈ rPairs ∧ rT 396 k = 397 + k := by decide +kernel
theorem g_396 (S : Sw w) {k : Nat} (h : k < 8) : aR 3 396 (nn k) (st w I J) = some (.inl (397 + k), st w I J) := by
  rw [← (g_396_m k h).2]
  exact b_aR 8 S (by decide) rfl (by decide) h (g_396_m k h).1
theorem q_396 : ∀ p, p < 8 → 397 + p < 526 ∧ shT (397 + p) = .inl (0, 2, 0) := by decide +kernel
theorem l_397 (S : Sw w) {p k : Nat} (hp : p < 8) (h : k < 2) : al 0 (397 + p) (nn k) (st w I J) = some (.inl (I (397 + p) k), st w I J) := b_al 2 S (q_396 p hp).1 (q_396 p hp).2 (by decide) h
theorem s_397 (S : Sw w) {p k : Nat} {v : Int32} (hp : p < 8) (h : k < 2) : as_ (397 + p) (nn k) v (st w I J) = some (.inl (), st w (up2 I (397 + p) k v) J) := b_as 2 S (q_396 p hp).1 (q_396 p hp).2 (by decide) h
theorem ln_397 (S : Sw w) {p : Nat} (hp : p < 8) : aLen (397 + p) (st w I J) = some (.inl (nn 2), st w I J) := b_len S (q_396 p hp).1 (q_396 p hp).2 (by decide)
theorem l_397_0 (S : Sw w) {p : Nat} (hp : p < 8) : al 0 (397 + p) 0 (st w I J) = some (.inl (I (397 + p) 0), st w I J) := l_397 S (k := 0) hp (by decide)
theorem s_397_0 (S : Sw w) {p : Nat} {v : Int32} (hp : p < 8) : as_ (397 + p) 0 v (st w I J) = some (.inl (), st w (up2 I (397 + p) 0 v) J) := s_397 S (k := 0) hp (by decide)
theorem l_397_1 (S : Sw w) {p : Nat} (hp : p < 8) : al 0 (397 + p) 1 (st w I J) = some (.inl (I (397 + p) 1), st w I J) := l_397 S (k := 1) hp (by decide)
theorem s_397_1 (S : Sw w) {p : Nat} {v : Int32} (hp : p < 8) : as_ (397 + p) 1 v (st w I J) = some (.inl (), st w (up2 I (397 + p) 1 v) J) := s_397 S (k := 1) hp (by decide)
theorem g_405_m : ∀ k, k < 8 → (405, k) ∈ rPairs ∧ rT 405 k = 406 + k := by decide +kernel
theorem g_405 (S : Sw w) {k : Nat} (h : k < 8) : aR 3 405 (nn k) (st w I J) = some (.inl (406 + k), st w I J) := by
  rw [← (g_405_m k h).2]
  exact b_aR 8 S (by decide) rfl (by decide) h (g_405_m k h).1
theorem q_405 : ∀ p, p < 8 → 406 + p < 526 ∧ shT (406 + p) = .inl (0, 2, 0) := by decide +kernel
theorem l_406 (S : Sw w) {p k : Nat} (hp : p < 8) (h : k < 2) : al 0 (406 + p) (nn k) (st w I J) = some (.inl (I (406 + p) k), st w I J) := b_al 2 S (q_405 p hp).1 (q_405 p hp).2 (by decide) h
theorem s_406 (S : Sw w) {p k : Nat} {v : Int32} (hp : p < 8) (h : k < 2) : as_ (406 + p) (nn k) v (st w I J) = some (.inl (), st w (up2 I (406 + p) k v) J) := b_as 2 S (q_405 p hp).1 (q_405 p hp).2 (by decide) h
theorem ln_406 (S : Sw w) {p : Nat} (hp : p < 8) : aLen (406 + p) (st w I J) = some (.inl (nn 2), st w I J) := b_len S (q_405 p hp).1 (q_405 p hp).2 (by decide)
theorem l_406_0 (S : Sw w) {p : Nat} (hp : p < 8) : al 0 (406 + p) 0 (st w I J) = some (.inl (I (406 + p) 0), st w I J) := l_406 S (k := 0) hp (by decide)
theorem s_406_0 (S : Sw w) {p : Nat} {v : Int32} (hp : p < 8) : as_ (406 + p) 0 v (st w I J) = some (.inl (), st w (up2 I (406 + p) 0 v) J) := s_406 S (k := 0) hp (by decide)
theorem l_406_1 (S : Sw w) {p : Nat} (hp : p < 8) : al 0 (406 + p) 1 (st w I J) = some (.inl (I (406 + p) 1), st w I J) := l_406 S (k := 1) hp (by decide)
theorem s_406_1 (S : Sw w) {p : Nat} {v : Int32} (hp : p < 8) : as_ (406 + p) 1 v (st w I J) = some (.inl (), st w (up2 I (406 + p) 1 v) J) := s_406 S (k := 1) hp (by decide)
theorem l_414 (S : Sw w) {k : Nat} (h : k < 160) : al 0 414 (nn k) (st w I J) = some (.inl (I 414 k), st w I J) := b_al 160 S (by decide) rfl (by decide) h
theorem s_414 (S : Sw w) {k : Nat} {v : Int32} (h : k < 160) : as_ 414 (nn k) v (st w I J) = some (.inl (), st w (up2 I 414 k v) J) := b_as 160 S (by decide) rfl (by decide) h
theorem ln_414 (S : Sw w) : aLen 414 (st w I J) = some (.inl (nn 160), st w I J) := b_len S (by decide) rfl (by decide)
theorem l_414_0 (S : Sw w) : al 0 414 0 (st w I J) = some (.inl (I 414 0), st w I J) := l_414 S (k := 0) (by decide)
theorem s_414_0 (S : Sw w) {v : Int32} : as_ 414 0 v (st w I J) = some (.inl (), st w (up2 I 414 0 v) J) := s_414 S (k := 0) (by decide)
theorem l_415 (S : Sw w) {k : Nat} (h : k < 8) : al 0 415 (nn k) (st w I J) = some (.inl (I 415 k), st w I J) := b_al 8 S (by decide) rfl (by decide) h
theorem s_415 (S : Sw w) {k : Nat} {v : Int32} (h : k < 8) : as_ 415 (nn k) v (st w I J) = some (.inl (), st w (up2 I 415 k v) J) := b_as 8 S (by decide) rfl (by decide) h
theorem ln_415 (S : Sw w) : aLen 415 (st w I J) = some (.inl (nn 8), st w I J) := b_len S (by decide) rfl (by decide)
theorem l_415_0 (S : Sw w) : al 0 415 0 (st w I J) = some (.inl (I 415 0), st w I J) := l_415 S (k := 0) (by decide)
theorem s_415_0 (S : Sw w) {v : Int32} : as_ 415 0 v (st w I J) = some (.inl (), st w (up2 I 415 0 v) J) := s_415 S (k := 0) (by decide)
theorem l_415_1 (S : Sw w) : al 0 415 1 (st w I J) = some (.inl (I 415 1), st w I J) := l_415 S (k := 1) (by decide)
theorem s_415_1 (S : Sw w) {v : Int32} : as_ 415 1 v (st w I J) = some (.inl (), st w (up2 I 415 1 v) J) := s_415 S (k := 1) (by decide)
theorem l_415_2 (S : Sw w) : al 0 415 2 (st w I J) = some (.inl (I 415 2), st w I J) := l_415 S (k := 2) (by decide)
theorem s_415_2 (S : Sw w) {v : Int32} : as_ 415 2 v (st w I J) = some (.inl (), st w (up2 I 415 2 v) J) := s_415 S (k := 2) (by decide)
theorem l_415_3 (S : Sw w) : al 0 415 3 (st w I J) = some (.inl (I 415 3), st w I J) := l_415 S (k := 3) (by decide)
theorem s_415_3 (S : Sw w) {v : Int32} : as_ 415 3 v (st w I J) = some (.inl (), st w (up2 I 415 3 v) J) := s_415 S (k := 3) (by decide)
theorem l_415_4 (S : Sw w) : al 0 415 4 (st w I J) = some (.inl (I 415 4), st w I J) := l_415 S (k := 4) (by decide)
theorem s_415_4 (S : Sw w) {v : Int32} : as_ 415 4 v (st w I J) = some (.inl (), st w (up2 I 415 4 v) J) := s_415 S (k := 4) (by decide)
theorem l_415_5 (S : Sw w) : al 0 415 5 (st w I J) = some (.inl (I 415 5), st w I J) := l_415 S (k := 5) (by decide)
theorem s_415_5 (S : Sw w) {v : Int32} : as_ 415 5 v (st w I J) = some (.inl (), st w (up2 I 415 5 v) J) := s_415 S (k := 5) (by decide)
theorem l_415_6 (S : Sw w) : al 0 415 6 (st w I J) = some (.inl (I 415 6), st w I J) := l_415 S (k := 6) (by decide)
theorem s_415_6 (S : Sw w) {v : Int32} : as_ 415 6 v (st w I J) = some (.inl (), st w (up2 I 415 6 v) J) := s_415 S (k := 6) (by decide)
theorem l_415_7 (S : Sw w) : al 0 415 7 (st w I J) = some (.inl (I 415 7), st w I J) := l_415 S (k := 7) (by decide)
theorem s_415_7 (S : Sw w) {v : Int32} : as_ 415 7 v (st w I J) = some (.inl (), st w (up2 I 415 7 v) J) := s_415 S (k := 7) (by decide)
theorem g_416_m : ∀ k, k < 80 → (416, k) ∈ rPairs ∧ rT 416 k = 417 + k := by decide +kernel
theorem g_416 (S : Sw w) {k : Nat} (h : k < 80) : aR 3 416 (nn k) (st w I J) = some (.inl (417 + k), st w I J) := by
  rw [← (g_416_m k h).2]
  exact b_aR 80 S (by decide) rfl (by decide) h (g_416_m k h).1
theorem q_416 : ∀ p, p < 80 → 417 + p < 526 ∧ shT (417 + p) = .inl (0, 5, 0) := by decide +kernel
theorem l_417 (S : Sw w) {p k : Nat} (hp : p < 80) (h : k < 5) : al 0 (417 + p) (nn k) (st w I J) = some (.inl (I (417 + p) k), st w I J) := b_al 5 S (q_416 p hp).1 (q_416 p hp).2 (by decide) h
theorem s_417 (S : Sw w) {p k : Nat} {v : Int32} (hp : p < 80) (h : k < 5) : as_ (417 + p) (nn k) v (st w I J) = some (.inl (), st w (up2 I (417 + p) k v) J) := b_as 5 S (q_416 p hp).1 (q_416 p hp).2 (by decide) h
theorem ln_417 (S : Sw w) {p : Nat} (hp : p < 80) : aLen (417 + p) (st w I J) = some (.inl (nn 5), st w I J) := b_len S (q_416 p hp).1 (q_416 p hp).2 (by decide)
theorem l_417_0 (S : Sw w) {p : Nat} (hp : p < 80) : al 0 (417 + p) 0 (st w I J) = some (.inl (I (417 + p) 0), st w I J) := l_417 S (k := 0) hp (by decide)
theorem s_417_0 (S : Sw w) {p : Nat} {v : Int32} (hp : p < 80) : as_ (417 + p) 0 v (st w I J) = some (.inl (), st w (up2 I (417 + p) 0 v) J) := s_417 S (k := 0) hp (by decide)
theorem l_417_1 (S : Sw w) {p : Nat} (hp : p < 80) : al 0 (417 + p) 1 (st w I J) = some (.inl (I (417 + p) 1), st w I J) := l_417 S (k := 1) hp (by decide)
theorem s_417_1 (S : Sw w) {p : Nat} {v : Int32} (hp : p < 80) : as_ (417 + p) 1 v (st w I J) = some (.inl (), st w (up2 I (417 + p) 1 v) J) := s_417 S (k := 1) hp (by decide)
theorem l_417_2 (S : Sw w) {p : Nat} (hp : p < 80) : al 0 (417 + p) 2 (st w I J) = some (.inl (I (417 + p) 2), st w I J) := l_417 S (k := 2) hp (by decide)
theorem s_417_2 (S : Sw w) {p : Nat} {v : Int32} (hp : p < 80) : as_ (417 + p) 2 v (st w I J) = some (.inl (), st w (up2 I (417 + p) 2 v) J) := s_417 S (k := 2) hp (by decide)
theorem l_417_3 (S : Sw w) {p : Nat} (hp : p < 80) : al 0 (417 + p) 3 (st w I J) = some (.inl (I (417 + p) 3), st w I J) := l_417 S (k := 3) hp (by decide)
theorem s_417_3 (S : Sw w) {p : Nat} {v : Int32} (hp : p < 80) : as_ (417 + p) 3 v (st w I J) = some (.inl (), st w (up2 I (417 + p) 3 v) J) := s_417 S (k := 3) hp (by decide)
theorem l_417_4 (S : Sw w) {p : Nat} (hp : p < 80) : al 0 (417 + p) 4 (st w I J) = some (.inl (I (417 + p) 4), st w I J) := l_417 S (k := 4) hp (by decide)
theorem s_417_4 (S : Sw w) {p : Nat} {v : Int32} (hp : p < 80) : as_ (417 + p) 4 v (st w I J) = some (.inl (), st w (up2 I (417 + p) 4 v) J) := s_417 S (k := 4) hp (by decide)
theorem l_497 (S : Sw w) {k : Nat} (h : k < 228) : al 0 497 (nn k) (st w I J) = some (.inl (I 497 k), st w I J) := b_al 228 S (by decide) rfl (by decide) h
theorem s_497 (S : Sw w) {k : Nat} {v : Int32} (h : k < 228) : as_ 497 (nn k) v (st w I J) = some (.inl (), st w (up2 I 497 k v) J) := b_as 228 S (by decide) rfl (by decide) h
theorem ln_497 (S : Sw w) : aLen 497 (st w I J) = some (.inl (nn 228), st w I J) := b_len S (by decide) rfl (by decide)
theorem l_497_24 (S : Sw w) : al 0 497 24 (st w I J) = some (.inl (I 497 24), st w I J) := l_497 S (k := 24) (by decide)
theorem s_497_24 (S : Sw w) {v : Int32} : as_ 497 24 v (st w I J) = some (.inl (), st w (up2 I 497 24 v) J) := s_497 S (k := 24) (by decide)
theorem l_497_25 (S : Sw w) : al 0 497 25 (st w I J) = some (.inl (I 497 25), st w I J) := l_497 S (k := 25) (by decide)
theorem s_497_25 (S : Sw w) {v : Int32} : as_ 497 25 v (st w I J) = some (.inl (), st w (up2 I 497 25 v) J) := s_497 S (k := 25) (by decide)
theorem l_497_26 (S : Sw w) : al 0 497 26 (st w I J) = some (.inl (I 497 26), st w I J) := l_497 S (k := 26) (by decide)
theorem s_497_26 (S : Sw w) {v : Int32} : as_ 497 26 v (st w I J) = some (.inl (), st w (up2 I 497 26 v) J) := s_497 S (k := 26) (by decide)
theorem l_497_27 (S : Sw w) : al 0 497 27 (st w I J) = some (.inl (I 497 27), st w I J) := l_497 S (k := 27) (by decide)
theorem s_497_27 (S : Sw w) {v : Int32} : as_ 497 27 v (st w I J) = some (.inl (), st w (up2 I 497 27 v) J) := s_497 S (k := 27) (by decide)
theorem l_498 (S : Sw w) {k : Nat} (h : k < 228) : al 0 498 (nn k) (st w I J) = some (.inl (I 498 k), st w I J) := b_al 228 S (by decide) rfl (by decide) h
theorem s_498 (S : Sw w) {k : Nat} {v : Int32} (h : k < 228) : as_ 498 (nn k) v (st w I J) = some (.inl (), st w (up2 I 498 k v) J) := b_as 228 S (by decide) rfl (by decide) h
theorem ln_498 (S : Sw w) : aLen 498 (st w I J) = some (.inl (nn 228), st w I J) := b_len S (by decide) rfl (by decide)
theorem l_498_24 (S : Sw w) : al 0 498 24 (st w I J) = some (.inl (I 498 24), st w I J) := l_498 S (k := 24) (by decide)
theorem s_498_24 (S : Sw w) {v : Int32} : as_ 498 24 v (st w I J) = some (.inl (), st w (up2 I 498 24 v) J) := s_498 S (k := 24) (by decide)
theorem l_498_25 (S : Sw w) : al 0 498 25 (st w I J) = some (.inl (I 498 25), st w I J) := l_498 S (k := 25) (by decide)
theorem s_498_25 (S : Sw w) {v : Int32} : as_ 498 25 v (st w I J) = some (.inl (), st w (up2 I 498 25 v) J) := s_498 S (k := 25) (by decide)
theorem l_498_26 (S : Sw w) : al 0 498 26 (st w I J) = some (.inl (I 498 26), st w I J) := l_498 S (k := 26) (by decide)
theorem s_498_26 (S : Sw w) {v : Int32} : as_ 498 26 v (st w I J) = some (.inl (), st w (up2 I 498 26 v) J) := s_498 S (k := 26) (by decide)
theorem l_498_27 (S : Sw w) : al 0 498 27 (st w I J) = some (.inl (I 498 27), st w I J) := l_498 S (k := 27) (by decide)
theorem s_498_27 (S : Sw w) {v : Int32} : as_ 498 27 v (st w I J) = some (.inl (), st w (up2 I 498 27 v) J) := s_498 S (k := 27) (by decide)
theorem g_499_m : ∀ k, k < 16 → (499, k) ∈ rPairs ∧ rT 499 k = 500 + k := by decide +kernel
theorem g_499 (S : Sw w) {k : Nat} (h : k < 16) : aR 3 499 (nn k) (st w I J) = some (.inl (500 + k), st w I J) := by
  rw [← (g_499_m k h).2]
  exact b_aR 16 S (by decide) rfl (by decide) h (g_499_m k h).1
theorem q_499 : ∀ p, p < 16 → 500 + p < 526 ∧ shT (500 + p) = .inl (0, 228, 0) := by decide +kernel
theorem l_500 (S : Sw w) {p k : Nat} (hp : p < 16) (h : k < 228) : al 0 (500 + p) (nn k) (st w I J) = some (.inl (I (500 + p) k), st w I J) := b_al 228 S (q_499 p hp).1 (q_499 p hp).2 (by decide) h
theorem s_500 (S : Sw w) {p k : Nat} {v : Int32} (hp : p < 16) (h : k < 228) : as_ (500 + p) (nn k) v (st w I J) = some (.inl (), st w (up2 I (500 + p) k v) J) := b_as 228 S (q_499 p hp).1 (q_499 p hp).2 (by decide) h
theorem ln_500 (S : Sw w) {p : Nat} (hp : p < 16) : aLen (500 + p) (st w I J) = some (.inl (nn 228), st w I J) := b_len S (q_499 p hp).1 (q_499 p hp).2 (by decide)
theorem g_516_m : ∀ k, k < 3 → (516, k) ∈ rPairs ∧ rT 516 k = 517 + k := by decide +kernel
theorem g_516 (S : Sw w) {k : Nat} (h : k < 3) : aR 3 516 (nn k) (st w I J) = some (.inl (517 + k), st w I J) := by
  rw [← (g_516_m k h).2]
  exact b_aR 3 S (by decide) rfl (by decide) h (g_516_m k h).1
theorem q_516 : ∀ p, p < 3 → 517 + p < 526 ∧ shT (517 + p) = .inl (0, 3877, 0) := by decide +kernel
theorem l_517 (S : Sw w) {p k : Nat} (hp : p < 3) (h : k < 3877) : al 0 (517 + p) (nn k) (st w I J) = some (.inl (I (517 + p) k), st w I J) := b_al 3877 S (q_516 p hp).1 (q_516 p hp).2 (by decide) h
theorem s_517 (S : Sw w) {p k : Nat} {v : Int32} (hp : p < 3) (h : k < 3877) : as_ (517 + p) (nn k) v (st w I J) = some (.inl (), st w (up2 I (517 + p) k v) J) := b_as 3877 S (q_516 p hp).1 (q_516 p hp).2 (by decide) h
theorem ln_517 (S : Sw w) {p : Nat} (hp : p < 3) : aLen (517 + p) (st w I J) = some (.inl (nn 3877), st w I J) := b_len S (q_516 p hp).1 (q_516 p hp).2 (by decide)
theorem l_520 (S : Sw w) {k : Nat} (h : k < 8) : al 0 520 (nn k) (st w I J) = some (.inl (I 520 k), st w I J) := b_al 8 S (by decide) rfl (by decide) h
theorem s_520 (S : Sw w) {k : Nat} {v : Int32} (h : k < 8) : as_ 520 (nn k) v (st w I J) = some (.inl (), st w (up2 I 520 k v) J) := b_as 8 S (by decide) rfl (by decide) h
theorem ln_520 (S : Sw w) : aLen 520 (st w I J) = some (.inl (nn 8), st w I J) := b_len S (by decide) rfl (by decide)
theorem l_521 (S : Sw w) {k : Nat} (h : k < 7) : al 0 521 (nn k) (st w I J) = some (.inl (I 521 k), st w I J) := b_al 7 S (by decide) rfl (by decide) h
theorem s_521 (S : Sw w) {k : Nat} {v : Int32} (h : k < 7) : as_ 521 (nn k) v (st w I J) = some (.inl (), st w (up2 I 521 k v) J) := b_as 7 S (by decide) rfl (by decide) h
theorem ln_521 (S : Sw w) : aLen 521 (st w I J) = some (.inl (nn 7), st w I J) := b_len S (by decide) rfl (by decide)
theorem l_522 (S : Sw w) {k : Nat} (h : k < 8) : al 0 522 (nn k) (st w I J) = some (.inl (I 522 k), st w I J) := b_al 8 S (by decide) rfl (by decide) h
theorem s_522 (S : Sw w) {k : Nat} {v : Int32} (h : k < 8) : as_ 522 (nn k) v (st w I J) = some (.inl (), st w (up2 I 522 k v) J) := b_as 8 S (by decide) rfl (by decide) h
theorem ln_522 (S : Sw w) : aLen 522 (st w I J) = some (.inl (nn 8), st w I J) := b_len S (by decide) rfl (by decide)
theorem l_523 (S : Sw w) {k : Nat} (h : k < 8) : al 0 523 (nn k) (st w I J) = some (.inl (I 523 k), st w I J) := b_al 8 S (by decide) rfl (by decide) h
theorem s_523 (S : Sw w) {k : Nat} {v : Int32} (h : k < 8) : as_ 523 (nn k) v (st w I J) = some (.inl (), st w (up2 I 523 k v) J) := b_as 8 S (by decide) rfl (by decide) h
theorem ln_523 (S : Sw w) : aLen 523 (st w I J) = some (.inl (nn 8), st w I J) := b_len S (by decide) rfl (by decide)
theorem l_524 (S : Sw w) {k : Nat} (h : k < 64) : al 0 524 (nn k) (st w I J) = some (.inl (I 524 k), st w I J) := b_al 64 S (by decide) rfl (by decide) h
theorem s_524 (S : Sw w) {k : Nat} {v : Int32} (h : k < 64) : as_ 524 (nn k) v (st w I J) = some (.inl (), st w (up2 I 524 k v) J) := b_as 64 S (by decide) rfl (by decide) h
theorem ln_524 (S : Sw w) : aLen 524 (st w I J) = some (.inl (nn 64), st w I J) := b_len S (by decide) rfl (by decide)
end FLD
