-- <init>
def f_X5_init (a0 : Nat) : Mo Unit := bd (nA 0 8) fun r1 => bd (pf 5 0 a0 (.ref r1)) fun _ => bd (nA 0 8) fun r2 => bd (pf 5 1 a0 (.ref r2)) fun _ => bd (nA 0 8) fun r3 => bd (pf 5 2 a0 (.ref r3)) fun _ => bd (nA 0 40) fun r4 => bd (pf 5 3 a0 (.ref r4)) fun _ => pu ()
set_option maxRecDepth 20000 in
theorem h_X5_init (g : GW) (a0 : Nat) : V g mX5_init 8 rtU 0 [(0, rf g a0)] [] (f_X5_init a0) := by
  unfold f_X5_init
  refine v_aload_n (pc' := 1) 0 dX5_init_0 rfl rfl rfl ?_
  refine v_objInit (pc' := 4) (tg2 48 (by decide +kernel) (by decide +kernel)) wo_inst wo_code (by omega) (Nat.le_of_ble_eq_true rfl) dX5_init_1 rfl ?_
  refine v_aload_n (pc' := 5) 0 dX5_init_4 rfl rfl rfl ?_
  refine v_bipush (v := 8) (pc' := 7) dX5_init_5 rfl rfl ?_
  refine v_newI (pc' := 9) wa_int dX5_init_7 rfl fun r1 => ?_
  refine v_put (v := (.ref r1)) (v' := rf g r1) (pc' := 12) fw_X5_9 rfl rfl rfl (fun _ => rfl) dX5_init_9 rfl ?_
  refine v_aload_n (pc' := 13) 0 dX5_init_12 rfl rfl rfl ?_
  refine v_bipush (v := 8) (pc' := 15) dX5_init_13 rfl rfl ?_
  refine v_newI (pc' := 17) wa_int dX5_init_15 rfl fun r2 => ?_
  refine v_put (v := (.ref r2)) (v' := rf g r2) (pc' := 20) fw_X5_15 rfl rfl rfl (fun _ => rfl) dX5_init_17 rfl ?_
  refine v_aload_n (pc' := 21) 0 dX5_init_20 rfl rfl rfl ?_
  refine v_bipush (v := 8) (pc' := 23) dX5_init_21 rfl rfl ?_
  refine v_newI (pc' := 25) wa_int dX5_init_23 rfl fun r3 => ?_
  refine v_put (v := (.ref r3)) (v' := rf g r3) (pc' := 28) fw_X5_18 rfl rfl rfl (fun _ => rfl) dX5_init_25 rfl ?_
  refine v_aload_n (pc' := 29) 0 dX5_init_28 rfl rfl rfl ?_
  refine v_bipush (v := 40) (pc' := 31) dX5_init_29 rfl rfl ?_
  refine v_newI (pc' := 33) wa_int dX5_init_31 rfl fun r4 => ?_
  refine v_put (v := (.ref r4)) (v' := rf g r4) (pc' := 36) fw_X5_21 rfl rfl rfl (fun _ => rfl) dX5_init_33 rfl ?_
  exact v_return rfl dX5_init_36
-- clear
def f_X5_clear_b2 : Nat → Nat → Int32 → Mo Unit
  | 0, _, _ => fl
  | n + 1, a0, x1 => if (8 ≤ x1 : Prop) then (bd (pf 5 4 a0 (.int 0)) fun _ => bd (pf 5 5 a0 (.int 0)) fun _ => pu ()) else bd (gR 5 0 a0) fun r1 => bd (as_ r1 x1 0) fun _ => bd (gR 5 1 a0) fun r2 => bd (as_ r2 x1 0) fun _ => bd (gR 5 2 a0) fun r3 => bd (as_ r3 x1 0) fun _ => (f_X5_clear_b2 n) a0 (x1 + 1)
def f_X5_clear (a0 : Nat) : Mo Unit := f_X5_clear_b2 NF a0 0
set_option maxRecDepth 20000 in
theorem h_X5_clear_b2 (g : GW) : ∀ n : Nat, ∀ a0 x1, V g mX5_clear 8 rtU 2 [(0, rf g a0), (1, .int x1)] [] (f_X5_clear_b2 n a0 x1) := by
  intro n
  induction n with
  | zero => intro a0 x1; exact V.vain
  | succ n ih =>
    intro a0 x1
    unfold f_X5_clear_b2
    refine v_iload_n (pc' := 3) 1 dX5_clear_2 rfl rfl rfl ?_
    refine v_bipush (v := 8) (pc' := 5) dX5_clear_3 rfl rfl ?_
    refine v_icmpge (t := 35) (pc' := 8) dX5_clear_5 (by decide) rfl ?_ ?_
    · refine v_aload_n (pc' := 36) 0 dX5_clear_35 rfl rfl rfl ?_
      refine v_iconst (v := 0) (pc' := 37) dX5_clear_36 rfl rfl ?_
      refine v_put (v := (.int 0)) (v' := .int 0) (pc' := 40) fw_X5_24 rfl rfl rfl (fun h => nomatch h) dX5_clear_37 rfl ?_
      refine v_aload_n (pc' := 41) 0 dX5_clear_40 rfl rfl rfl ?_
      refine v_iconst (v := 0) (pc' := 42) dX5_clear_41 rfl rfl ?_
      refine v_put (v := (.int 0)) (v' := .int 0) (pc' := 45) fw_X5_28 rfl rfl rfl (fun h => nomatch h) dX5_clear_42 rfl ?_
      exact v_return rfl dX5_clear_45
    · refine v_aload_n (pc' := 9) 0 dX5_clear_8 rfl rfl rfl ?_
      refine v_getR (pc' := 12) fl_X5_9 dX5_clear_9 rfl fun r1 => ?_
      refine v_iload_n (pc' := 13) 1 dX5_clear_12 rfl rfl rfl ?_
      refine v_iconst (v := 0) (pc' := 14) dX5_clear_13 rfl rfl ?_
      refine v_iast (pc' := 15) dX5_clear_14 rfl ?_
      refine v_aload_n (pc' := 16) 0 dX5_clear_15 rfl rfl rfl ?_
      refine v_getR (pc' := 19) fl_X5_15 dX5_clear_16 rfl fun r2 => ?_
      refine v_iload_n (pc' := 20) 1 dX5_clear_19 rfl rfl rfl ?_
      refine v_iconst (v := 0) (pc' := 21) dX5_clear_20 rfl rfl ?_
      refine v_iast (pc' := 22) dX5_clear_21 rfl ?_
      refine v_aload_n (pc' := 23) 0 dX5_clear_22 rfl rfl rfl ?_
      refine v_getR (pc' := 26) fl_X5_18 dX5_clear_23 rfl fun r3 => ?_
      refine v_iload_n (pc' := 27) 1 dX5_clear_26 rfl rfl rfl ?_
      refine v_iconst (v := 0) (pc' := 28) dX5_clear_27 rfl rfl ?_
      refine v_iast (pc' := 29) dX5_clear_28 rfl ?_
      refine v_iinc (v := x1 + 1) (lv' := [(1, .int (x1 + 1)), (0, rf g a0)]) (pc' := 32) 1 dX5_clear_29 rfl rfl (by decide) rfl rfl ?_
      refine v_goto (t := 2) dX5_clear_32 (by decide) ?_
      refine V.sub [1, 0] rfl ?_
      exact ih a0 (x1 + 1)
set_option maxRecDepth 20000 in
theorem h_X5_clear (g : GW) (a0 : Nat) : V g mX5_clear 8 rtU 0 [(0, rf g a0)] [] (f_X5_clear a0) := by
  unfold f_X5_clear
  refine v_iconst (v := 0) (pc' := 1) dX5_clear_0 rfl rfl ?_
  refine v_istore_n (lv' := [(1, .int 0), (0, rf g a0)]) (pc' := 2) dX5_clear_1 rfl (by decide) rfl rfl ?_
  refine V.sub [1, 0] rfl ?_
  exact h_X5_clear_b2 g NF a0 0
-- copyFrom
def f_X5_copyFrom (a0 : Nat) (a1 : Nat) : Mo Unit := bd (gR 5 0 a1) fun r1 => bd (gR 5 0 a0) fun r2 => bd (cp_ r1 0 r2 0 8) fun _ => bd (gR 5 1 a1) fun r3 => bd (gR 5 1 a0) fun r4 => bd (cp_ r3 0 r4 0 8) fun _ => bd (gR 5 2 a1) fun r5 => bd (gR 5 2 a0) fun r6 => bd (cp_ r5 0 r6 0 8) fun _ => bd (gR 5 3 a1) fun r7 => bd (gR 5 3 a0) fun r8 => bd (cp_ r7 0 r8 0 40) fun _ => bd (gI 5 4 a1) fun v9 => bd (pf 5 4 a0 (.int v9)) fun _ => bd (gI 5 5 a1) fun v10 => bd (pf 5 5 a0 (.int v10)) fun _ => pu ()
set_option maxRecDepth 20000 in
theorem h_X5_copyFrom (g : GW) (a0 : Nat) (a1 : Nat) : V g mX5_copyFrom 8 rtU 0 [(0, rf g a0), (1, rf g a1)] [] (f_X5_copyFrom a0 a1) := by
  unfold f_X5_copyFrom
  refine v_aload_n (pc' := 1) 1 dX5_copyFrom_0 rfl rfl rfl ?_
  refine v_getR (pc' := 4) fl_X5_9 dX5_copyFrom_1 rfl fun r1 => ?_
  refine v_iconst (v := 0) (pc' := 5) dX5_copyFrom_4 rfl rfl ?_
  refine v_aload_n (pc' := 6) 0 dX5_copyFrom_5 rfl rfl rfl ?_
  refine v_getR (pc' := 9) fl_X5_9 dX5_copyFrom_6 rfl fun r2 => ?_
  refine v_iconst (v := 0) (pc' := 10) dX5_copyFrom_9 rfl rfl ?_
  refine v_bipush (v := 8) (pc' := 12) dX5_copyFrom_10 rfl rfl ?_
  refine v_copy (pc' := 15) (tg2 177 (by decide +kernel) (by decide +kernel)) wy_nat wy_stat wy_ini (by omega) (Nat.le_of_ble_eq_true rfl) dX5_copyFrom_12 rfl ?_
  refine v_aload_n (pc' := 16) 1 dX5_copyFrom_15 rfl rfl rfl ?_
  refine v_getR (pc' := 19) fl_X5_15 dX5_copyFrom_16 rfl fun r3 => ?_
  refine v_iconst (v := 0) (pc' := 20) dX5_copyFrom_19 rfl rfl ?_
  refine v_aload_n (pc' := 21) 0 dX5_copyFrom_20 rfl rfl rfl ?_
  refine v_getR (pc' := 24) fl_X5_15 dX5_copyFrom_21 rfl fun r4 => ?_
  refine v_iconst (v := 0) (pc' := 25) dX5_copyFrom_24 rfl rfl ?_
  refine v_bipush (v := 8) (pc' := 27) dX5_copyFrom_25 rfl rfl ?_
  refine v_copy (pc' := 30) (tg2 177 (by decide +kernel) (by decide +kernel)) wy_nat wy_stat wy_ini (by omega) (Nat.le_of_ble_eq_true rfl) dX5_copyFrom_27 rfl ?_
  refine v_aload_n (pc' := 31) 1 dX5_copyFrom_30 rfl rfl rfl ?_
  refine v_getR (pc' := 34) fl_X5_18 dX5_copyFrom_31 rfl fun r5 => ?_
  refine v_iconst (v := 0) (pc' := 35) dX5_copyFrom_34 rfl rfl ?_
  refine v_aload_n (pc' := 36) 0 dX5_copyFrom_35 rfl rfl rfl ?_
  refine v_getR (pc' := 39) fl_X5_18 dX5_copyFrom_36 rfl fun r6 => ?_
  refine v_iconst (v := 0) (pc' := 40) dX5_copyFrom_39 rfl rfl ?_
  refine v_bipush (v := 8) (pc' := 42) dX5_copyFrom_40 rfl rfl ?_
  refine v_copy (pc' := 45) (tg2 177 (by decide +kernel) (by decide +kernel)) wy_nat wy_stat wy_ini (by omega) (Nat.le_of_ble_eq_true rfl) dX5_copyFrom_42 rfl ?_
  refine v_aload_n (pc' := 46) 1 dX5_copyFrom_45 rfl rfl rfl ?_
  refine v_getR (pc' := 49) fl_X5_21 dX5_copyFrom_46 rfl fun r7 => ?_
  refine v_iconst (v := 0) (pc' := 50) dX5_copyFrom_49 rfl rfl ?_
  refine v_aload_n (pc' := 51) 0 dX5_copyFrom_50 rfl rfl rfl ?_
  refine v_getR (pc' := 54) fl_X5_21 dX5_copyFrom_51 rfl fun r8 => ?_
  refine v_iconst (v := 0) (pc' := 55) dX5_copyFrom_54 rfl rfl ?_
  refine v_bipush (v := 40) (pc' := 57) dX5_copyFrom_55 rfl rfl ?_
  refine v_copy (pc' := 60) (tg2 177 (by decide +kernel) (by decide +kernel)) wy_nat wy_stat wy_ini (by omega) (Nat.le_of_ble_eq_true rfl) dX5_copyFrom_57 rfl ?_
  refine v_aload_n (pc' := 61) 0 dX5_copyFrom_60 rfl rfl rfl ?_
  refine v_aload_n (pc' := 62) 1 dX5_copyFrom_61 rfl rfl rfl ?_
  refine v_getI (pc' := 65) fl_X5_24 dX5_copyFrom_62 rfl fun v9 => ?_
  refine v_put (v := (.int v9)) (v' := .int v9) (pc' := 68) fw_X5_24 rfl rfl rfl (fun h => nomatch h) dX5_copyFrom_65 rfl ?_
  refine v_aload_n (pc' := 69) 0 dX5_copyFrom_68 rfl rfl rfl ?_
  refine v_aload_n (pc' := 70) 1 dX5_copyFrom_69 rfl rfl rfl ?_
  refine v_getI (pc' := 73) fl_X5_28 dX5_copyFrom_70 rfl fun v10 => ?_
  refine v_put (v := (.int v10)) (v' := .int v10) (pc' := 76) fw_X5_28 rfl rfl rfl (fun h => nomatch h) dX5_copyFrom_73 rfl ?_
  exact v_return rfl dX5_copyFrom_76
-- takerOf
def f_X5_takerOf (a0 : Nat) (x1 : Int32) : Mo Int32 := bd (gR 5 3 a0) fun r1 => bd (al 0 r1 x1) fun v2 => pu (v2 &&& (7 : Int32))
set_option maxRecDepth 20000 in
theorem h_X5_takerOf (g : GW) (a0 : Nat) (x1 : Int32) : V g mX5_takerOf 8 rtI 0 [(0, rf g a0), (1, .int x1)] [] (f_X5_takerOf a0 x1) := by
  unfold f_X5_takerOf
  refine v_aload_n (pc' := 1) 0 dX5_takerOf_0 rfl rfl rfl ?_
  refine v_getR (pc' := 4) fl_X5_21 dX5_takerOf_1 rfl fun r1 => ?_
  refine v_iload_n (pc' := 5) 1 dX5_takerOf_4 rfl rfl rfl ?_
  refine v_iald (pc' := 6) dX5_takerOf_5 rfl fun v2 => ?_
  refine v_bipush (v := 7) (pc' := 8) dX5_takerOf_6 rfl rfl ?_
  refine v_iand (pc' := 9) dX5_takerOf_8 rfl ?_
  exact v_ireturn rfl dX5_takerOf_9
-- sitterOf
def f_X5_sitterOf (a0 : Nat) (x1 : Int32) : Mo Int32 := bd (gR 5 3 a0) fun r1 => bd (al 0 r1 x1) fun v2 => pu ((v2 >>> ((3 : Int32) &&& 31)) &&& (7 : Int32))
set_option maxRecDepth 20000 in
theorem h_X5_sitterOf (g : GW) (a0 : Nat) (x1 : Int32) : V g mX5_sitterOf 8 rtI 0 [(0, rf g a0), (1, .int x1)] [] (f_X5_sitterOf a0 x1) := by
  unfold f_X5_sitterOf
  refine v_aload_n (pc' := 1) 0 dX5_sitterOf_0 rfl rfl rfl ?_
  refine v_getR (pc' := 4) fl_X5_21 dX5_sitterOf_1 rfl fun r1 => ?_
  refine v_iload_n (pc' := 5) 1 dX5_sitterOf_4 rfl rfl rfl ?_
  refine v_iald (pc' := 6) dX5_sitterOf_5 rfl fun v2 => ?_
  refine v_iconst (v := 3) (pc' := 7) dX5_sitterOf_6 rfl rfl ?_
  refine v_ishr (pc' := 8) dX5_sitterOf_7 rfl ?_
  refine v_bipush (v := 7) (pc' := 10) dX5_sitterOf_8 rfl rfl ?_
  refine v_iand (pc' := 11) dX5_sitterOf_10 rfl ?_
  exact v_ireturn rfl dX5_sitterOf_11
-- hallOf
def f_X5_hallOf (a0 : Nat) (x1 : Int32) : Mo Int32 := bd (gR 5 3 a0) fun r1 => bd (al 0 r1 x1) fun v2 => pu ((v2 >>> ((6 : Int32) &&& 31)) &&& (7 : Int32))
set_option maxRecDepth 20000 in
theorem h_X5_hallOf (g : GW) (a0 : Nat) (x1 : Int32) : V g mX5_hallOf 8 rtI 0 [(0, rf g a0), (1, .int x1)] [] (f_X5_hallOf a0 x1) := by
  unfold f_X5_hallOf
  refine v_aload_n (pc' := 1) 0 dX5_hallOf_0 rfl rfl rfl ?_
  refine v_getR (pc' := 4) fl_X5_21 dX5_hallOf_1 rfl fun r1 => ?_
  refine v_iload_n (pc' := 5) 1 dX5_hallOf_4 rfl rfl rfl ?_
  refine v_iald (pc' := 6) dX5_hallOf_5 rfl fun v2 => ?_
  refine v_bipush (v := 6) (pc' := 8) dX5_hallOf_6 rfl rfl ?_
  refine v_ishr (pc' := 9) dX5_hallOf_8 rfl ?_
  refine v_bipush (v := 7) (pc' := 11) dX5_hallOf_9 rfl rfl ?_
  refine v_iand (pc' := 12) dX5_hallOf_11 rfl ?_
  exact v_ireturn rfl dX5_hallOf_12
-- faceOn
def f_X5_faceOn (a0 : Nat) (x1 : Int32) : Mo Int32 := bd (gR 5 3 a0) fun r1 => bd (al 0 r1 x1) fun v2 => pu ((v2 >>> ((9 : Int32) &&& 31)) &&& (63 : Int32))
set_option maxRecDepth 20000 in
theorem h_X5_faceOn (g : GW) (a0 : Nat) (x1 : Int32) : V g mX5_faceOn 8 rtI 0 [(0, rf g a0), (1, .int x1)] [] (f_X5_faceOn a0 x1) := by
  unfold f_X5_faceOn
  refine v_aload_n (pc' := 1) 0 dX5_faceOn_0 rfl rfl rfl ?_
  refine v_getR (pc' := 4) fl_X5_21 dX5_faceOn_1 rfl fun r1 => ?_
  refine v_iload_n (pc' := 5) 1 dX5_faceOn_4 rfl rfl rfl ?_
  refine v_iald (pc' := 6) dX5_faceOn_5 rfl fun v2 => ?_
  refine v_bipush (v := 9) (pc' := 8) dX5_faceOn_6 rfl rfl ?_
  refine v_ishr (pc' := 9) dX5_faceOn_8 rfl ?_
  refine v_bipush (v := 63) (pc' := 11) dX5_faceOn_9 rfl rfl ?_
  refine v_iand (pc' := 12) dX5_faceOn_11 rfl ?_
  exact v_ireturn rfl dX5_faceOn_12
-- yearOf
def f_X5_yearOf (a0 : Nat) (x1 : Int32) : Mo Int32 := bd (gR 5 3 a0) fun r1 => bd (al 0 r1 x1) fun v2 => pu (v2 >>> ((15 : Int32) &&& 31))
set_option maxRecDepth 20000 in
theorem h_X5_yearOf (g : GW) (a0 : Nat) (x1 : Int32) : V g mX5_yearOf 8 rtI 0 [(0, rf g a0), (1, .int x1)] [] (f_X5_yearOf a0 x1) := by
  unfold f_X5_yearOf
  refine v_aload_n (pc' := 1) 0 dX5_yearOf_0 rfl rfl rfl ?_
  refine v_getR (pc' := 4) fl_X5_21 dX5_yearOf_1 rfl fun r1 => ?_
  refine v_iload_n (pc' := 5) 1 dX5_yearOf_4 rfl rfl rfl ?_
  refine v_iald (pc' := 6) dX5_yearOf_5 rfl fun v2 => ?_
  refine v_bipush (v := 15) (pc' := 8) dX5_yearOf_6 rfl rfl ?_
  refine v_ishr (pc' := 9) dX5_yearOf_8 rfl ?_
  exact v_ireturn rfl dX5_yearOf_9
-- isFull
def f_X5_isFull (a0 : Nat) : Mo Int32 := bd (gI 5 4 a0) fun v1 => if (v1 < 40 : Prop) then (pu 0) else pu 1
set_option maxRecDepth 20000 in
theorem h_X5_isFull (g : GW) (a0 : Nat) : V g mX5_isFull 8 rtI 0 [(0, rf g a0)] [] (f_X5_isFull a0) := by
  unfold f_X5_isFull
  refine v_aload_n (pc' := 1) 0 dX5_isFull_0 rfl rfl rfl ?_
  refine v_getI (pc' := 4) fl_X5_24 dX5_isFull_1 rfl fun v1 => ?_
  refine v_bipush (v := 40) (pc' := 6) dX5_isFull_4 rfl rfl ?_
  refine v_icmplt (t := 13) (pc' := 9) dX5_isFull_6 (by decide) rfl ?_ ?_
  · refine v_iconst (v := 0) (pc' := 14) dX5_isFull_13 rfl rfl ?_
    exact v_zret rfl rfl dX5_isFull_14
  · refine v_iconst (v := 1) (pc' := 10) dX5_isFull_9 rfl rfl ?_
    refine v_goto (t := 14) dX5_isFull_10 (by decide) ?_
    exact v_zret rfl rfl dX5_isFull_14
-- hang
def f_X5_hang (a0 : Nat) (x1 : Int32) (x2 : Int32) (x3 : Int32) (x4 : Int32) : Mo Unit := bd (cv 5 a0 (f_X5_isFull a0)) fun v1 => if (v1 = 0 : Prop) then (bd (gR 5 3 a0) fun r2 => bd (gI 5 4 a0) fun v3 => bd (gI 5 5 a0) fun v4 => bd (as_ r2 v3 ((((x1 ||| (x2 <<< ((3 : Int32) &&& 31))) ||| (x3 <<< ((6 : Int32) &&& 31))) ||| (x4 <<< ((9 : Int32) &&& 31))) ||| (v4 <<< ((15 : Int32) &&& 31)))) fun _ => bd (gI 5 4 a0) fun v5 => bd (pf 5 4 a0 (.int (v5 + (1 : Int32)))) fun _ => bd (gR 5 1 a0) fun r6 => bd (al 0 r6 x1) fun v7 => bd (as_ r6 x1 (v7 + (1 : Int32))) fun _ => bd (gR 5 2 a0) fun r8 => bd (al 0 r8 x2) fun v9 => bd (as_ r8 x2 (v9 + (1 : Int32))) fun _ => pu ()) else pu ()
set_option maxRecDepth 20000 in
theorem h_X5_hang (g : GW) (a0 : Nat) (x1 : Int32) (x2 : Int32) (x3 : Int32) (x4 : Int32) : V g mX5_hang 9 rtU 0 [(0, rf g a0), (1, .int x1), (2, .int x2), (3, .int x3), (4, .int x4)] [] (f_X5_hang a0 x1 x2 x3 x4) := by
  unfold f_X5_hang
  refine v_aload_n (pc' := 1) 0 dX5_hang_0 rfl rfl rfl ?_
  refine v_callV (vs := []) (pc' := 4) (h_X5_isFull g a0) mv_X5_isFull wl_X5_37 rfl (Nat.le_of_ble_eq_true rfl) (by omega) (by decide) (Nat.le_of_ble_eq_true rfl) rfl dX5_hang_1 rfl fun v1 => ?_
  refine v_ifeq (t := 8) (pc' := 7) dX5_hang_4 (by decide) rfl ?_ ?_
  · refine v_aload_n (pc' := 9) 0 dX5_hang_8 rfl rfl rfl ?_
    refine v_getR (pc' := 12) fl_X5_21 dX5_hang_9 rfl fun r2 => ?_
    refine v_aload_n (pc' := 13) 0 dX5_hang_12 rfl rfl rfl ?_
    refine v_getI (pc' := 16) fl_X5_24 dX5_hang_13 rfl fun v3 => ?_
    refine v_iload_n (pc' := 17) 1 dX5_hang_16 rfl rfl rfl ?_
    refine v_iload_n (pc' := 18) 2 dX5_hang_17 rfl rfl rfl ?_
    refine v_iconst (v := 3) (pc' := 19) dX5_hang_18 rfl rfl ?_
    refine v_ishl (pc' := 20) dX5_hang_19 rfl ?_
    refine v_ior (pc' := 21) dX5_hang_20 rfl ?_
    refine v_iload_n (pc' := 22) 3 dX5_hang_21 rfl rfl rfl ?_
    refine v_bipush (v := 6) (pc' := 24) dX5_hang_22 rfl rfl ?_
    refine v_ishl (pc' := 25) dX5_hang_24 rfl ?_
    refine v_ior (pc' := 26) dX5_hang_25 rfl ?_
    refine v_iload (pc' := 28) 4 dX5_hang_26 rfl rfl ?_
    refine v_bipush (v := 9) (pc' := 30) dX5_hang_28 rfl rfl ?_
    refine v_ishl (pc' := 31) dX5_hang_30 rfl ?_
    refine v_ior (pc' := 32) dX5_hang_31 rfl ?_
    refine v_aload_n (pc' := 33) 0 dX5_hang_32 rfl rfl rfl ?_
    refine v_getI (pc' := 36) fl_X5_28 dX5_hang_33 rfl fun v4 => ?_
    refine v_bipush (v := 15) (pc' := 38) dX5_hang_36 rfl rfl ?_
    refine v_ishl (pc' := 39) dX5_hang_38 rfl ?_
    refine v_ior (pc' := 40) dX5_hang_39 rfl ?_
    refine v_iast (pc' := 41) dX5_hang_40 rfl ?_
    refine v_aload_n (pc' := 42) 0 dX5_hang_41 rfl rfl rfl ?_
    refine v_dup (pc' := 43) dX5_hang_42 rfl rfl ?_
    refine v_getI (pc' := 46) fl_X5_24 dX5_hang_43 rfl fun v5 => ?_
    refine v_iconst (v := 1) (pc' := 47) dX5_hang_46 rfl rfl ?_
    refine v_iadd (pc' := 48) dX5_hang_47 rfl ?_
    refine v_put (v := (.int (v5 + (1 : Int32)))) (v' := .int (v5 + (1 : Int32))) (pc' := 51) fw_X5_24 rfl rfl rfl (fun h => nomatch h) dX5_hang_48 rfl ?_
    refine v_aload_n (pc' := 52) 0 dX5_hang_51 rfl rfl rfl ?_
    refine v_getR (pc' := 55) fl_X5_15 dX5_hang_52 rfl fun r6 => ?_
    refine v_iload_n (pc' := 56) 1 dX5_hang_55 rfl rfl rfl ?_
    refine v_dup2 (pc' := 57) dX5_hang_56 rfl rfl rfl ?_
    refine v_iald (pc' := 58) dX5_hang_57 rfl fun v7 => ?_
    refine v_iconst (v := 1) (pc' := 59) dX5_hang_58 rfl rfl ?_
    refine v_iadd (pc' := 60) dX5_hang_59 rfl ?_
    refine v_iast (pc' := 61) dX5_hang_60 rfl ?_
    refine v_aload_n (pc' := 62) 0 dX5_hang_61 rfl rfl rfl ?_
    refine v_getR (pc' := 65) fl_X5_18 dX5_hang_62 rfl fun r8 => ?_
    refine v_iload_n (pc' := 66) 2 dX5_hang_65 rfl rfl rfl ?_
    refine v_dup2 (pc' := 67) dX5_hang_66 rfl rfl rfl ?_
    refine v_iald (pc' := 68) dX5_hang_67 rfl fun v9 => ?_
    refine v_iconst (v := 1) (pc' := 69) dX5_hang_68 rfl rfl ?_
    refine v_iadd (pc' := 70) dX5_hang_69 rfl ?_
    refine v_iast (pc' := 71) dX5_hang_70 rfl ?_
    exact v_return rfl dX5_hang_71
  · exact v_return rfl dX5_hang_7
-- burn
def f_X5_burn_b55 (a0 : Nat) (x2 : Int32) (xs0 : Int32) : Mo Int32 := bd (pf 5 4 a0 (.int x2)) fun _ => rz xs0
def f_X5_burn_b36 (k4 : Nat → Int32 → Int32 → Int32 → Mo Int32) (a0 : Nat) (x1 : Int32) (x2 : Int32) (x3 : Int32) : Mo Int32 := k4 a0 x1 x2 (x3 + 1)
def f_X5_burn_b4 : Nat → Nat → Int32 → Int32 → Int32 → Mo Int32
  | 0, _, _, _, _ => fl
  | n + 1, a0, x1, x2, x3 => bd (gI 5 4 a0) fun v1 => if (v1 ≤ x3 : Prop) then (bd (gI 5 4 a0) fun v2 => if (v2 ≤ x2 : Prop) then (f_X5_burn_b55 a0 x2 0) else f_X5_burn_b55 a0 x2 1) else bd (cv 5 a0 (f_X5_hallOf a0 x3)) fun v3 => if (v3 = x1 : Prop) then (f_X5_burn_b36 (f_X5_burn_b4 n) a0 x1 x2 x3) else bd (gR 5 3 a0) fun r4 => bd (gR 5 3 a0) fun r5 => bd (al 0 r5 x3) fun v6 => bd (as_ r4 x2 v6) fun _ => f_X5_burn_b36 (f_X5_burn_b4 n) a0 x1 (x2 + 1) x3
def f_X5_burn (a0 : Nat) (x1 : Int32) : Mo Int32 := f_X5_burn_b4 NF a0 x1 0 0
set_option maxRecDepth 20000 in
theorem h_X5_burn_b55 (g : GW) (a0 : Nat) (x2 : Int32) (xs0 : Int32) : V g mX5_burn 9 rtI 55 [(0, rf g a0), (2, .int x2)] [.int xs0] (f_X5_burn_b55 a0 x2 xs0) := by
  unfold f_X5_burn_b55
  refine v_istore_n (lv' := [(3, .int xs0), (0, rf g a0), (2, .int x2)]) (pc' := 56) dX5_burn_55 rfl (by decide) rfl rfl ?_
  refine v_aload_n (pc' := 57) 1 dX5_burn_56 rfl rfl rfl ?_
  refine v_iload_n (pc' := 58) 2 dX5_burn_57 rfl rfl rfl ?_
  refine v_put (v := (.int x2)) (v' := .int x2) (pc' := 61) fw_X5_24 rfl rfl rfl (fun h => nomatch h) dX5_burn_58 rfl ?_
  refine v_iload_n (pc' := 62) 0 dX5_burn_61 rfl rfl rfl ?_
  exact v_zretV rfl dX5_burn_62
set_option maxRecDepth 20000 in
theorem h_X5_burn_b36 (g : GW) (k4 : Nat → Int32 → Int32 → Int32 → Mo Int32) (hk4 : ∀ a0 x1 x2 x3, V g mX5_burn 9 rtI 4 [(0, rf g a0), (1, .int x1), (2, .int x2), (3, .int x3)] [] (k4 a0 x1 x2 x3)) (a0 : Nat) (x1 : Int32) (x2 : Int32) (x3 : Int32) : V g mX5_burn 9 rtI 36 [(0, rf g a0), (1, .int x1), (2, .int x2), (3, .int x3)] [] (f_X5_burn_b36 k4 a0 x1 x2 x3) := by
  unfold f_X5_burn_b36
  refine v_iinc (v := x3 + 1) (lv' := [(3, .int (x3 + 1)), (0, rf g a0), (1, .int x1), (2, .int x2)]) (pc' := 39) 3 dX5_burn_36 rfl rfl (by decide) rfl rfl ?_
  refine v_goto (t := 4) dX5_burn_39 (by decide) ?_
  refine V.sub [1, 2, 3, 0] rfl ?_
  exact hk4 a0 x1 x2 (x3 + 1)
set_option maxRecDepth 20000 in
theorem h_X5_burn_b4 (g : GW) : ∀ n : Nat, ∀ a0 x1 x2 x3, V g mX5_burn 9 rtI 4 [(0, rf g a0), (1, .int x1), (2, .int x2), (3, .int x3)] [] (f_X5_burn_b4 n a0 x1 x2 x3) := by
  intro n
  induction n with
  | zero => intro a0 x1 x2 x3; exact V.vain
  | succ n ih =>
    intro a0 x1 x2 x3
    unfold f_X5_burn_b4
    refine v_iload_n (pc' := 5) 3 dX5_burn_4 rfl rfl rfl ?_
    refine v_aload_n (pc' := 6) 0 dX5_burn_5 rfl rfl rfl ?_
    refine v_getI (pc' := 9) fl_X5_24 dX5_burn_6 rfl fun v1 => ?_
    refine v_icmpge (t := 42) (pc' := 12) dX5_burn_9 (by decide) rfl ?_ ?_
    · refine v_iload_n (pc' := 43) 2 dX5_burn_42 rfl rfl rfl ?_
      refine v_aload_n (pc' := 44) 0 dX5_burn_43 rfl rfl rfl ?_
      refine v_getI (pc' := 47) fl_X5_24 dX5_burn_44 rfl fun v2 => ?_
      refine v_icmpge (t := 54) (pc' := 50) dX5_burn_47 (by decide) rfl ?_ ?_
      · refine v_iconst (v := 0) (pc' := 55) dX5_burn_54 rfl rfl ?_
        refine V.sub [0, 2] rfl ?_
        exact h_X5_burn_b55 g a0 x2 0
      · refine v_iconst (v := 1) (pc' := 51) dX5_burn_50 rfl rfl ?_
        refine v_goto (t := 55) dX5_burn_51 (by decide) ?_
        refine V.sub [0, 2] rfl ?_
        exact h_X5_burn_b55 g a0 x2 1
    · refine v_aload_n (pc' := 13) 0 dX5_burn_12 rfl rfl rfl ?_
      refine v_iload_n (pc' := 14) 3 dX5_burn_13 rfl rfl rfl ?_
      refine v_callV (vs := [.int x3]) (pc' := 17) (h_X5_hallOf g a0 x3) mv_X5_hallOf wl_X5_41 rfl (Nat.le_of_ble_eq_true rfl) (by omega) (by decide) (Nat.le_of_ble_eq_true rfl) rfl dX5_burn_14 rfl fun v3 => ?_
      refine v_iload_n (pc' := 18) 1 dX5_burn_17 rfl rfl rfl ?_
      refine v_icmpeq (t := 36) (pc' := 21) dX5_burn_18 (by decide) rfl ?_ ?_
      · refine V.sub [0, 1, 2, 3] rfl ?_
        exact h_X5_burn_b36 g (f_X5_burn_b4 n) ih a0 x1 x2 x3
      · refine v_aload_n (pc' := 22) 0 dX5_burn_21 rfl rfl rfl ?_
        refine v_getR (pc' := 25) fl_X5_21 dX5_burn_22 rfl fun r4 => ?_
        refine v_iload_n (pc' := 26) 2 dX5_burn_25 rfl rfl rfl ?_
        refine v_aload_n (pc' := 27) 0 dX5_burn_26 rfl rfl rfl ?_
        refine v_getR (pc' := 30) fl_X5_21 dX5_burn_27 rfl fun r5 => ?_
        refine v_iload_n (pc' := 31) 3 dX5_burn_30 rfl rfl rfl ?_
        refine v_iald (pc' := 32) dX5_burn_31 rfl fun v6 => ?_
        refine v_iast (pc' := 33) dX5_burn_32 rfl ?_
        refine v_iinc (v := x2 + 1) (lv' := [(2, .int (x2 + 1)), (0, rf g a0), (1, .int x1), (3, .int x3)]) (pc' := 36) 2 dX5_burn_33 rfl rfl (by decide) rfl rfl ?_
        refine V.sub [1, 2, 0, 3] rfl ?_
        exact h_X5_burn_b36 g (f_X5_burn_b4 n) ih a0 x1 (x2 + 1) x3
set_option maxRecDepth 20000 in
theorem h_X5_burn (g : GW) (a0 : Nat) (x1 : Int32) : V g mX5_burn 9 rtI 0 [(0, rf g a0), (1, .int x1)] [] (f_X5_burn a0 x1) := by
  unfold f_X5_burn
  refine v_iconst (v := 0) (pc' := 1) dX5_burn_0 rfl rfl ?_
  refine v_istore_n (lv' := [(2, .int 0), (0, rf g a0), (1, .int x1)]) (pc' := 2) dX5_burn_1 rfl (by decide) rfl rfl ?_
  refine v_iconst (v := 0) (pc' := 3) dX5_burn_2 rfl rfl ?_
  refine v_istore_n (lv' := [(3, .int 0), (2, .int 0), (0, rf g a0), (1, .int x1)]) (pc' := 4) dX5_burn_3 rfl (by decide) rfl rfl ?_
  refine V.sub [2, 3, 1, 0] rfl ?_
  exact h_X5_burn_b4 g NF a0 x1 0 0
-- setMood
def f_X5_setMood_b15 (a0 : Nat) (x1 : Int32) (x2 : Int32) (xs0 : Int32) : Mo Int32 := bd (gR 5 0 a0) fun r1 => bd (as_ r1 x1 x2) fun _ => rz xs0
def f_X5_setMood (a0 : Nat) (x1 : Int32) (x2 : Int32) : Mo Int32 := bd (gR 5 0 a0) fun r2 => bd (al 0 r2 x1) fun v3 => if (v3 = x2 : Prop) then (f_X5_setMood_b15 a0 x1 x2 0) else f_X5_setMood_b15 a0 x1 x2 1
set_option maxRecDepth 20000 in
theorem h_X5_setMood_b15 (g : GW) (a0 : Nat) (x1 : Int32) (x2 : Int32) (xs0 : Int32) : V g mX5_setMood 8 rtI 15 [(0, rf g a0), (1, .int x1), (2, .int x2)] [.int xs0] (f_X5_setMood_b15 a0 x1 x2 xs0) := by
  unfold f_X5_setMood_b15
  refine v_istore_n (lv' := [(3, .int xs0), (0, rf g a0), (1, .int x1), (2, .int x2)]) (pc' := 16) dX5_setMood_15 rfl (by decide) rfl rfl ?_
  refine v_aload_n (pc' := 17) 1 dX5_setMood_16 rfl rfl rfl ?_
  refine v_getR (pc' := 20) fl_X5_9 dX5_setMood_17 rfl fun r1 => ?_
  refine v_iload_n (pc' := 21) 2 dX5_setMood_20 rfl rfl rfl ?_
  refine v_iload_n (pc' := 22) 3 dX5_setMood_21 rfl rfl rfl ?_
  refine v_iast (pc' := 23) dX5_setMood_22 rfl ?_
  refine v_iload_n (pc' := 24) 0 dX5_setMood_23 rfl rfl rfl ?_
  exact v_zretV rfl dX5_setMood_24
set_option maxRecDepth 20000 in
theorem h_X5_setMood (g : GW) (a0 : Nat) (x1 : Int32) (x2 : Int32) : V g mX5_setMood 8 rtI 0 [(0, rf g a0), (1, .int x1), (2, .int x2)] [] (f_X5_setMood a0 x1 x2) := by
  unfold f_X5_setMood
  refine v_aload_n (pc' := 1) 0 dX5_setMood_0 rfl rfl rfl ?_
  refine v_getR (pc' := 4) fl_X5_9 dX5_setMood_1 rfl fun r2 => ?_
  refine v_iload_n (pc' := 5) 1 dX5_setMood_4 rfl rfl rfl ?_
  refine v_iald (pc' := 6) dX5_setMood_5 rfl fun v3 => ?_
  refine v_iload_n (pc' := 7) 2 dX5_setMood_6 rfl rfl rfl ?_
  refine v_icmpeq (t := 14) (pc' := 10) dX5_setMood_7 (by decide) rfl ?_ ?_
  · refine v_iconst (v := 0) (pc' := 15) dX5_setMood_14 rfl rfl ?_
    refine V.sub [0, 1, 2] rfl ?_
    exact h_X5_setMood_b15 g a0 x1 x2 0
  · refine v_iconst (v := 1) (pc' := 11) dX5_setMood_10 rfl rfl ?_
    refine v_goto (t := 15) dX5_setMood_11 (by decide) ?_
    refine V.sub [0, 1, 2] rfl ?_
    exact h_X5_setMood_b15 g a0 x1 x2 1
-- turnYear
def f_X5_turnYear_b12 : Nat → Nat → Int32 → Mo Unit
  | 0, _, _ => fl
  | n + 1, a0, x1 => if (8 ≤ x1 : Prop) then (pu ()) else bd (gR 5 0 a0) fun r1 => bd (as_ r1 x1 0) fun _ => (f_X5_turnYear_b12 n) a0 (x1 + 1)
def f_X5_turnYear (a0 : Nat) : Mo Unit := bd (gI 5 5 a0) fun v2 => bd (pf 5 5 a0 (.int (v2 + (1 : Int32)))) fun _ => f_X5_turnYear_b12 NF a0 0
set_option maxRecDepth 20000 in
theorem h_X5_turnYear_b12 (g : GW) : ∀ n : Nat, ∀ a0 x1, V g mX5_turnYear 8 rtU 12 [(0, rf g a0), (1, .int x1)] [] (f_X5_turnYear_b12 n a0 x1) := by
  intro n
  induction n with
  | zero => intro a0 x1; exact V.vain
  | succ n ih =>
    intro a0 x1
    unfold f_X5_turnYear_b12
    refine v_iload_n (pc' := 13) 1 dX5_turnYear_12 rfl rfl rfl ?_
    refine v_bipush (v := 8) (pc' := 15) dX5_turnYear_13 rfl rfl ?_
    refine v_icmpge (t := 31) (pc' := 18) dX5_turnYear_15 (by decide) rfl ?_ ?_
    · exact v_return rfl dX5_turnYear_31
    · refine v_aload_n (pc' := 19) 0 dX5_turnYear_18 rfl rfl rfl ?_
      refine v_getR (pc' := 22) fl_X5_9 dX5_turnYear_19 rfl fun r1 => ?_
      refine v_iload_n (pc' := 23) 1 dX5_turnYear_22 rfl rfl rfl ?_
      refine v_iconst (v := 0) (pc' := 24) dX5_turnYear_23 rfl rfl ?_
      refine v_iast (pc' := 25) dX5_turnYear_24 rfl ?_
      refine v_iinc (v := x1 + 1) (lv' := [(1, .int (x1 + 1)), (0, rf g a0)]) (pc' := 28) 1 dX5_turnYear_25 rfl rfl (by decide) rfl rfl ?_
      refine v_goto (t := 12) dX5_turnYear_28 (by decide) ?_
      refine V.sub [1, 0] rfl ?_
      exact ih a0 (x1 + 1)
set_option maxRecDepth 20000 in
theorem h_X5_turnYear (g : GW) (a0 : Nat) : V g mX5_turnYear 8 rtU 0 [(0, rf g a0)] [] (f_X5_turnYear a0) := by
  unfold f_X5_turnYear
  refine v_aload_n (pc' := 1) 0 dX5_turnYear_0 rfl rfl rfl ?_
  refine v_dup (pc' := 2) dX5_turnYear_1 rfl rfl ?_
  refine v_getI (pc' := 5) fl_X5_28 dX5_turnYear_2 rfl fun v2 => ?_
  refine v_iconst (v := 1) (pc' := 6) dX5_turnYear_5 rfl rfl ?_
  refine v_iadd (pc' := 7) dX5_turnYear_6 rfl ?_
  refine v_put (v := (.int (v2 + (1 : Int32)))) (v' := .int (v2 + (1 : Int32))) (pc' := 10) fw_X5_28 rfl rfl rfl (fun h => nomatch h) dX5_turnYear_7 rfl ?_
  refine v_iconst (v := 0) (pc' := 11) dX5_turnYear_10 rfl rfl ?_
  refine v_istore_n (lv' := [(1, .int 0), (0, rf g a0)]) (pc' := 12) dX5_turnYear_11 rfl (by decide) rfl rfl ?_
  refine V.sub [1, 0] rfl ?_
  exact h_X5_turnYear_b12 g NF a0 0
-- everTaken
def f_X5_everTaken_b4 : Nat → Nat → Int32 → Int32 → Mo Int32
  | 0, _, _, _ => fl
  | n + 1, a0, x1, x2 => if (8 ≤ x2 : Prop) then (pu x1) else bd (gR 5 1 a0) fun r1 => bd (al 0 r1 x2) fun v2 => (f_X5_everTaken_b4 n) a0 (x1 + v2) (x2 + 1)
def f_X5_everTaken (a0 : Nat) : Mo Int32 := f_X5_everTaken_b4 NF a0 0 0
set_option maxRecDepth 20000 in
theorem h_X5_everTaken_b4 (g : GW) : ∀ n : Nat, ∀ a0 x1 x2, V g mX5_everTaken 8 rtI 4 [(0, rf g a0), (1, .int x1), (2, .int x2)] [] (f_X5_everTaken_b4 n a0 x1 x2) := by
  intro n
  induction n with
  | zero => intro a0 x1 x2; exact V.vain
  | succ n ih =>
    intro a0 x1 x2
    unfold f_X5_everTaken_b4
    refine v_iload_n (pc' := 5) 2 dX5_everTaken_4 rfl rfl rfl ?_
    refine v_bipush (v := 8) (pc' := 7) dX5_everTaken_5 rfl rfl ?_
    refine v_icmpge (t := 25) (pc' := 10) dX5_everTaken_7 (by decide) rfl ?_ ?_
    · refine v_iload_n (pc' := 26) 1 dX5_everTaken_25 rfl rfl rfl ?_
      exact v_ireturn rfl dX5_everTaken_26
    · refine v_iload_n (pc' := 11) 1 dX5_everTaken_10 rfl rfl rfl ?_
      refine v_aload_n (pc' := 12) 0 dX5_everTaken_11 rfl rfl rfl ?_
      refine v_getR (pc' := 15) fl_X5_15 dX5_everTaken_12 rfl fun r1 => ?_
      refine v_iload_n (pc' := 16) 2 dX5_everTaken_15 rfl rfl rfl ?_
      refine v_iald (pc' := 17) dX5_everTaken_16 rfl fun v2 => ?_
      refine v_iadd (pc' := 18) dX5_everTaken_17 rfl ?_
      refine v_istore_n (lv' := [(1, .int (x1 + v2)), (0, rf g a0), (2, .int x2)]) (pc' := 19) dX5_everTaken_18 rfl (by decide) rfl rfl ?_
      refine v_iinc (v := x2 + 1) (lv' := [(2, .int (x2 + 1)), (1, .int (x1 + v2)), (0, rf g a0)]) (pc' := 22) 2 dX5_everTaken_19 rfl rfl (by decide) rfl rfl ?_
      refine v_goto (t := 4) dX5_everTaken_22 (by decide) ?_
      refine V.sub [2, 1, 0] rfl ?_
      exact ih a0 (x1 + v2) (x2 + 1)
set_option maxRecDepth 20000 in
theorem h_X5_everTaken (g : GW) (a0 : Nat) : V g mX5_everTaken 8 rtI 0 [(0, rf g a0)] [] (f_X5_everTaken a0) := by
  unfold f_X5_everTaken
  refine v_iconst (v := 0) (pc' := 1) dX5_everTaken_0 rfl rfl ?_
  refine v_istore_n (lv' := [(1, .int 0), (0, rf g a0)]) (pc' := 2) dX5_everTaken_1 rfl (by decide) rfl rfl ?_
  refine v_iconst (v := 0) (pc' := 3) dX5_everTaken_2 rfl rfl ?_
  refine v_istore_n (lv' := [(2, .int 0), (1, .int 0), (0, rf g a0)]) (pc' := 4) dX5_everTaken_3 rfl (by decide) rfl rfl ?_
  refine V.sub [2, 1, 0] rfl ?_
  exact h_X5_everTaken_b4 g NF a0 0 0
-- hangingBy
def f_X5_hangingBy_b24 (k4 : Nat → Int32 → Int32 → Int32 → Mo Int32) (a0 : Nat) (x1 : Int32) (x2 : Int32) (x3 : Int32) : Mo Int32 := k4 a0 x1 x2 (x3 + 1)
def f_X5_hangingBy_b4 : Nat → Nat → Int32 → Int32 → Int32 → Mo Int32
  | 0, _, _, _, _ => fl
  | n + 1, a0, x1, x2, x3 => bd (gI 5 4 a0) fun v1 => if (v1 ≤ x3 : Prop) then (pu x2) else bd (cv 5 a0 (f_X5_takerOf a0 x3)) fun v2 => if (v2 = x1 : Prop) then (f_X5_hangingBy_b24 (f_X5_hangingBy_b4 n) a0 x1 (x2 + 1) x3) else f_X5_hangingBy_b24 (f_X5_hangingBy_b4 n) a0 x1 x2 x3
def f_X5_hangingBy (a0 : Nat) (x1 : Int32) : Mo Int32 := f_X5_hangingBy_b4 NF a0 x1 0 0
set_option maxRecDepth 20000 in
theorem h_X5_hangingBy_b24 (g : GW) (k4 : Nat → Int32 → Int32 → Int32 → Mo Int32) (hk4 : ∀ a0 x1 x2 x3, V g mX5_hangingBy 9 rtI 4 [(0, rf g a0), (1, .int x1), (2, .int x2), (3, .int x3)] [] (k4 a0 x1 x2 x3)) (a0 : Nat) (x1 : Int32) (x2 : Int32) (x3 : Int32) : V g mX5_hangingBy 9 rtI 24 [(0, rf g a0), (1, .int x1), (2, .int x2), (3, .int x3)] [] (f_X5_hangingBy_b24 k4 a0 x1 x2 x3) := by
  unfold f_X5_hangingBy_b24
  refine v_iinc (v := x3 + 1) (lv' := [(3, .int (x3 + 1)), (0, rf g a0), (1, .int x1), (2, .int x2)]) (pc' := 27) 3 dX5_hangingBy_24 rfl rfl (by decide) rfl rfl ?_
  refine v_goto (t := 4) dX5_hangingBy_27 (by decide) ?_
  refine V.sub [1, 2, 3, 0] rfl ?_
  exact hk4 a0 x1 x2 (x3 + 1)
set_option maxRecDepth 20000 in
theorem h_X5_hangingBy_b4 (g : GW) : ∀ n : Nat, ∀ a0 x1 x2 x3, V g mX5_hangingBy 9 rtI 4 [(0, rf g a0), (1, .int x1), (2, .int x2), (3, .int x3)] [] (f_X5_hangingBy_b4 n a0 x1 x2 x3) := by
  intro n
  induction n with
  | zero => intro a0 x1 x2 x3; exact V.vain
  | succ n ih =>
    intro a0 x1 x2 x3
    unfold f_X5_hangingBy_b4
    refine v_iload_n (pc' := 5) 3 dX5_hangingBy_4 rfl rfl rfl ?_
    refine v_aload_n (pc' := 6) 0 dX5_hangingBy_5 rfl rfl rfl ?_
    refine v_getI (pc' := 9) fl_X5_24 dX5_hangingBy_6 rfl fun v1 => ?_
    refine v_icmpge (t := 30) (pc' := 12) dX5_hangingBy_9 (by decide) rfl ?_ ?_
    · refine v_iload_n (pc' := 31) 2 dX5_hangingBy_30 rfl rfl rfl ?_
      exact v_ireturn rfl dX5_hangingBy_31
    · refine v_aload_n (pc' := 13) 0 dX5_hangingBy_12 rfl rfl rfl ?_
      refine v_iload_n (pc' := 14) 3 dX5_hangingBy_13 rfl rfl rfl ?_
      refine v_callV (vs := [.int x3]) (pc' := 17) (h_X5_takerOf g a0 x3) mv_X5_takerOf wl_X5_45 rfl (Nat.le_of_ble_eq_true rfl) (by omega) (by decide) (Nat.le_of_ble_eq_true rfl) rfl dX5_hangingBy_14 rfl fun v2 => ?_
      refine v_iload_n (pc' := 18) 1 dX5_hangingBy_17 rfl rfl rfl ?_
      refine v_icmpne (t := 24) (pc' := 21) dX5_hangingBy_18 (by decide) rfl ?_ ?_
      · refine V.sub [0, 1, 2, 3] rfl ?_
        exact h_X5_hangingBy_b24 g (f_X5_hangingBy_b4 n) ih a0 x1 x2 x3
      · refine v_iinc (v := x2 + 1) (lv' := [(2, .int (x2 + 1)), (0, rf g a0), (1, .int x1), (3, .int x3)]) (pc' := 24) 2 dX5_hangingBy_21 rfl rfl (by decide) rfl rfl ?_
        refine V.sub [1, 2, 0, 3] rfl ?_
        exact h_X5_hangingBy_b24 g (f_X5_hangingBy_b4 n) ih a0 x1 (x2 + 1) x3
set_option maxRecDepth 20000 in
theorem h_X5_hangingBy (g : GW) (a0 : Nat) (x1 : Int32) : V g mX5_hangingBy 9 rtI 0 [(0, rf g a0), (1, .int x1)] [] (f_X5_hangingBy a0 x1) := by
  unfold f_X5_hangingBy
  refine v_iconst (v := 0) (pc' := 1) dX5_hangingBy_0 rfl rfl ?_
  refine v_istore_n (lv' := [(2, .int 0), (0, rf g a0), (1, .int x1)]) (pc' := 2) dX5_hangingBy_1 rfl (by decide) rfl rfl ?_
  refine v_iconst (v := 0) (pc' := 3) dX5_hangingBy_2 rfl rfl ?_
  refine v_istore_n (lv' := [(3, .int 0), (2, .int 0), (0, rf g a0), (1, .int x1)]) (pc' := 4) dX5_hangingBy_3 rfl (by decide) rfl rfl ?_
  refine V.sub [2, 3, 1, 0] rfl ?_
  exact h_X5_hangingBy_b4 g NF a0 x1 0 0
