-- <init>
def f_X8_init (a0 : Nat) : Mo Unit := bd (nA 1 600) fun r1 => bd (pf 8 0 a0 (.ref r1)) fun _ => bd (pf 8 6 a0 (.int (-1))) fun _ => pu ()
set_option maxRecDepth 20000 in
theorem h_X8_init (g : GW) (a0 : Nat) : V g mX8_init 8 rtU 0 [(0, rf g a0)] [] (f_X8_init a0) := by
  unfold f_X8_init
  refine v_aload_n (pc' := 1) 0 dX8_init_0 rfl rfl rfl ?_
  refine v_objInit (pc' := 4) (tg1 40 (by decide +kernel) (by decide +kernel)) wo_inst wo_code (by omega) (Nat.le_of_ble_eq_true rfl) dX8_init_1 rfl ?_
  refine v_aload_n (pc' := 5) 0 dX8_init_4 rfl rfl rfl ?_
  refine v_sipush (v := 600) (pc' := 8) dX8_init_5 rfl rfl ?_
  refine v_newB (pc' := 10) wa_byte dX8_init_8 rfl fun r1 => ?_
  refine v_put (v := (.ref r1)) (v' := rf g r1) (pc' := 13) fw_X8_9 rfl rfl rfl (fun _ => rfl) dX8_init_10 rfl ?_
  refine v_aload_n (pc' := 14) 0 dX8_init_13 rfl rfl rfl ?_
  refine v_iconst (v := -1) (pc' := 15) dX8_init_14 rfl rfl ?_
  refine v_put (v := (.int (-1))) (v' := .int (-1)) (pc' := 18) fw_X8_15 rfl rfl rfl (fun h => nomatch h) dX8_init_15 rfl ?_
  exact v_return rfl dX8_init_18
-- add
def f_X8_add_b3 : Nat → Nat → Int32 → Int32 → Mo Unit
  | 0, _, _, _ => fl
  | n + 1, a0, x1, x2 => if (x2 < 0 : Prop) then (pu ()) else bd (gI 8 1 a0) fun v1 => bd (gR 8 0 a0) fun r2 => bd (aLen r2) fun v3 => if (v3 ≤ v1 : Prop) then (pu ()) else bd (gR 8 0 a0) fun r4 => bd (gI 8 1 a0) fun v5 => bd (bs_ r4 v5 ((Int32.toInt8 (x1 >>> (x2 &&& 31))).toInt32)) fun _ => bd (gI 8 1 a0) fun v6 => bd (pf 8 1 a0 (.int (v6 + (1 : Int32)))) fun _ => (f_X8_add_b3 n) a0 x1 (x2 + (-8))
def f_X8_add (a0 : Nat) (x1 : Int32) : Mo Unit := f_X8_add_b3 NF a0 x1 24
set_option maxRecDepth 20000 in
theorem h_X8_add_b3 (g : GW) : ∀ n : Nat, ∀ a0 x1 x2, V g mX8_add 8 rtU 3 [(0, rf g a0), (1, .int x1), (2, .int x2)] [] (f_X8_add_b3 n a0 x1 x2) := by
  intro n
  induction n with
  | zero => intro a0 x1 x2; exact V.vain
  | succ n ih =>
    intro a0 x1 x2
    unfold f_X8_add_b3
    refine v_iload_n (pc' := 4) 2 dX8_add_3 rfl rfl rfl ?_
    refine v_iflt (t := 48) (pc' := 7) dX8_add_4 (by decide) rfl ?_ ?_
    · exact v_return rfl dX8_add_48
    · refine v_aload_n (pc' := 8) 0 dX8_add_7 rfl rfl rfl ?_
      refine v_getI (pc' := 11) fl_X8_19 dX8_add_8 rfl fun v1 => ?_
      refine v_aload_n (pc' := 12) 0 dX8_add_11 rfl rfl rfl ?_
      refine v_getR (pc' := 15) fl_X8_9 dX8_add_12 rfl fun r2 => ?_
      refine v_alen (pc' := 16) dX8_add_15 rfl fun v3 => ?_
      refine v_icmpge (t := 48) (pc' := 19) dX8_add_16 (by decide) rfl ?_ ?_
      · exact v_return rfl dX8_add_48
      · refine v_aload_n (pc' := 20) 0 dX8_add_19 rfl rfl rfl ?_
        refine v_getR (pc' := 23) fl_X8_9 dX8_add_20 rfl fun r4 => ?_
        refine v_aload_n (pc' := 24) 0 dX8_add_23 rfl rfl rfl ?_
        refine v_getI (pc' := 27) fl_X8_19 dX8_add_24 rfl fun v5 => ?_
        refine v_iload_n (pc' := 28) 1 dX8_add_27 rfl rfl rfl ?_
        refine v_iload_n (pc' := 29) 2 dX8_add_28 rfl rfl rfl ?_
        refine v_ishr (pc' := 30) dX8_add_29 rfl ?_
        refine v_i2b (pc' := 31) dX8_add_30 rfl ?_
        refine v_bast (pc' := 32) dX8_add_31 rfl ?_
        refine v_aload_n (pc' := 33) 0 dX8_add_32 rfl rfl rfl ?_
        refine v_dup (pc' := 34) dX8_add_33 rfl rfl ?_
        refine v_getI (pc' := 37) fl_X8_19 dX8_add_34 rfl fun v6 => ?_
        refine v_iconst (v := 1) (pc' := 38) dX8_add_37 rfl rfl ?_
        refine v_iadd (pc' := 39) dX8_add_38 rfl ?_
        refine v_put (v := (.int (v6 + (1 : Int32)))) (v' := .int (v6 + (1 : Int32))) (pc' := 42) fw_X8_19 rfl rfl rfl (fun h => nomatch h) dX8_add_39 rfl ?_
        refine v_iinc (v := x2 + (-8)) (lv' := [(2, .int (x2 + (-8))), (0, rf g a0), (1, .int x1)]) (pc' := 45) 2 dX8_add_42 rfl rfl (by decide) rfl rfl ?_
        refine v_goto (t := 3) dX8_add_45 (by decide) ?_
        refine V.sub [1, 2, 0] rfl ?_
        exact ih a0 x1 (x2 + (-8))
set_option maxRecDepth 20000 in
theorem h_X8_add (g : GW) (a0 : Nat) (x1 : Int32) : V g mX8_add 8 rtU 0 [(0, rf g a0), (1, .int x1)] [] (f_X8_add a0 x1) := by
  unfold f_X8_add
  refine v_bipush (v := 24) (pc' := 2) dX8_add_0 rfl rfl ?_
  refine v_istore_n (lv' := [(2, .int 24), (0, rf g a0), (1, .int x1)]) (pc' := 3) dX8_add_2 rfl (by decide) rfl rfl ?_
  refine V.sub [1, 2, 0] rfl ?_
  exact h_X8_add_b3 g NF a0 x1 24
-- open
def f_X8_open (a0 : Nat) (x1 : Int32) : Mo Unit := bd (gR 8 0 a0) fun r1 => bd (aLen r1) fun v2 => bd (pf 8 2 a0 (.int (mn32 x1 v2))) fun _ => bd (pf 8 1 a0 (.int 0)) fun _ => bd (pf 8 3 a0 (.int 0)) fun _ => bd (pf 8 4 a0 (.int 0)) fun _ => bd (pf 8 5 a0 (.int 0)) fun _ => bd (pf 8 6 a0 (.int (-1))) fun _ => pu ()
set_option maxRecDepth 20000 in
theorem h_X8_open (g : GW) (a0 : Nat) (x1 : Int32) : V g mX8_open 8 rtU 0 [(0, rf g a0), (1, .int x1)] [] (f_X8_open a0 x1) := by
  unfold f_X8_open
  refine v_aload_n (pc' := 1) 0 dX8_open_0 rfl rfl rfl ?_
  refine v_iload_n (pc' := 2) 1 dX8_open_1 rfl rfl rfl ?_
  refine v_aload_n (pc' := 3) 0 dX8_open_2 rfl rfl rfl ?_
  refine v_getR (pc' := 6) fl_X8_9 dX8_open_3 rfl fun r1 => ?_
  refine v_alen (pc' := 7) dX8_open_6 rfl fun v2 => ?_
  refine v_mn32 (pc' := 10) (by omega) (tg3 140 (by decide +kernel) (by decide +kernel)) (Nat.le_of_ble_eq_true rfl) rfl dX8_open_7 rfl ?_
  refine v_put (v := (.int (mn32 x1 v2))) (v' := .int (mn32 x1 v2)) (pc' := 13) fw_X8_28 rfl rfl rfl (fun h => nomatch h) dX8_open_10 rfl ?_
  refine v_aload_n (pc' := 14) 0 dX8_open_13 rfl rfl rfl ?_
  refine v_iconst (v := 0) (pc' := 15) dX8_open_14 rfl rfl ?_
  refine v_put (v := (.int 0)) (v' := .int 0) (pc' := 18) fw_X8_19 rfl rfl rfl (fun h => nomatch h) dX8_open_15 rfl ?_
  refine v_aload_n (pc' := 19) 0 dX8_open_18 rfl rfl rfl ?_
  refine v_iconst (v := 0) (pc' := 20) dX8_open_19 rfl rfl ?_
  refine v_put (v := (.int 0)) (v' := .int 0) (pc' := 23) fw_X8_31 rfl rfl rfl (fun h => nomatch h) dX8_open_20 rfl ?_
  refine v_aload_n (pc' := 24) 0 dX8_open_23 rfl rfl rfl ?_
  refine v_iconst (v := 0) (pc' := 25) dX8_open_24 rfl rfl ?_
  refine v_put (v := (.int 0)) (v' := .int 0) (pc' := 28) fw_X8_34 rfl rfl rfl (fun h => nomatch h) dX8_open_25 rfl ?_
  refine v_aload_n (pc' := 29) 0 dX8_open_28 rfl rfl rfl ?_
  refine v_iconst (v := 0) (pc' := 30) dX8_open_29 rfl rfl ?_
  refine v_put (v := (.int 0)) (v' := .int 0) (pc' := 33) fw_X8_37 rfl rfl rfl (fun h => nomatch h) dX8_open_30 rfl ?_
  refine v_aload_n (pc' := 34) 0 dX8_open_33 rfl rfl rfl ?_
  refine v_iconst (v := -1) (pc' := 35) dX8_open_34 rfl rfl ?_
  refine v_put (v := (.int (-1))) (v' := .int (-1)) (pc' := 38) fw_X8_15 rfl rfl rfl (fun h => nomatch h) dX8_open_35 rfl ?_
  exact v_return rfl dX8_open_38
-- faultAnswer
def f_X8_faultAnswer (a0 : Nat) : Mo Int32 := bd (gI 8 5 a0) fun v1 => pu (v1 - (10 : Int32))
set_option maxRecDepth 20000 in
theorem h_X8_faultAnswer (g : GW) (a0 : Nat) : V g mX8_faultAnswer 8 rtI 0 [(0, rf g a0)] [] (f_X8_faultAnswer a0) := by
  unfold f_X8_faultAnswer
  refine v_aload_n (pc' := 1) 0 dX8_faultAnswer_0 rfl rfl rfl ?_
  refine v_getI (pc' := 4) fl_X8_37 dX8_faultAnswer_1 rfl fun v1 => ?_
  refine v_bipush (v := 10) (pc' := 6) dX8_faultAnswer_4 rfl rfl ?_
  refine v_isub (pc' := 7) dX8_faultAnswer_6 rfl ?_
  exact v_ireturn rfl dX8_faultAnswer_7
-- fail
def f_X8_fail (a0 : Nat) (x1 : Int32) (x2 : Int32) : Mo Int32 := bd (pf 8 5 a0 (.int x1)) fun _ => bd (pf 8 6 a0 (.int x2)) fun _ => pu 0
set_option maxRecDepth 20000 in
theorem h_X8_fail (g : GW) (a0 : Nat) (x1 : Int32) (x2 : Int32) : V g mX8_fail 8 rtI 0 [(0, rf g a0), (1, .int x1), (2, .int x2)] [] (f_X8_fail a0 x1 x2) := by
  unfold f_X8_fail
  refine v_aload_n (pc' := 1) 0 dX8_fail_0 rfl rfl rfl ?_
  refine v_iload_n (pc' := 2) 1 dX8_fail_1 rfl rfl rfl ?_
  refine v_put (v := (.int x1)) (v' := .int x1) (pc' := 5) fw_X8_37 rfl rfl rfl (fun h => nomatch h) dX8_fail_2 rfl ?_
  refine v_aload_n (pc' := 6) 0 dX8_fail_5 rfl rfl rfl ?_
  refine v_iload_n (pc' := 7) 2 dX8_fail_6 rfl rfl rfl ?_
  refine v_put (v := (.int x2)) (v' := .int x2) (pc' := 10) fw_X8_15 rfl rfl rfl (fun h => nomatch h) dX8_fail_7 rfl ?_
  refine v_iconst (v := 0) (pc' := 11) dX8_fail_10 rfl rfl ?_
  exact v_zret rfl rfl dX8_fail_11
-- skipBlanks
def f_X8_skipBlanks_b0 : Nat → Nat → Mo Unit
  | 0, _ => fl
  | n + 1, a0 => bd (gI 8 3 a0) fun v1 => bd (gI 8 2 a0) fun v2 => if (v2 ≤ v1 : Prop) then (pu ()) else bd (gR 8 0 a0) fun r3 => bd (gI 8 3 a0) fun v4 => bd (al 1 r3 v4) fun v5 => if (v5 = 32 : Prop) then (bd (gI 8 3 a0) fun v6 => bd (pf 8 3 a0 (.int (v6 + (1 : Int32)))) fun _ => (f_X8_skipBlanks_b0 n) a0) else pu ()
def f_X8_skipBlanks (a0 : Nat) : Mo Unit := f_X8_skipBlanks_b0 NF a0
set_option maxRecDepth 20000 in
theorem h_X8_skipBlanks_b0 (g : GW) : ∀ n : Nat, ∀ a0, V g mX8_skipBlanks 8 rtU 0 [(0, rf g a0)] [] (f_X8_skipBlanks_b0 n a0) := by
  intro n
  induction n with
  | zero => intro a0; exact V.vain
  | succ n ih =>
    intro a0
    unfold f_X8_skipBlanks_b0
    refine v_aload_n (pc' := 1) 0 dX8_skipBlanks_0 rfl rfl rfl ?_
    refine v_getI (pc' := 4) fl_X8_31 dX8_skipBlanks_1 rfl fun v1 => ?_
    refine v_aload_n (pc' := 5) 0 dX8_skipBlanks_4 rfl rfl rfl ?_
    refine v_getI (pc' := 8) fl_X8_28 dX8_skipBlanks_5 rfl fun v2 => ?_
    refine v_icmpge (t := 38) (pc' := 11) dX8_skipBlanks_8 (by decide) rfl ?_ ?_
    · exact v_return rfl dX8_skipBlanks_38
    · refine v_aload_n (pc' := 12) 0 dX8_skipBlanks_11 rfl rfl rfl ?_
      refine v_getR (pc' := 15) fl_X8_9 dX8_skipBlanks_12 rfl fun r3 => ?_
      refine v_aload_n (pc' := 16) 0 dX8_skipBlanks_15 rfl rfl rfl ?_
      refine v_getI (pc' := 19) fl_X8_31 dX8_skipBlanks_16 rfl fun v4 => ?_
      refine v_bald (pc' := 20) dX8_skipBlanks_19 rfl fun v5 => ?_
      refine v_bipush (v := 32) (pc' := 22) dX8_skipBlanks_20 rfl rfl ?_
      refine v_icmpne (t := 38) (pc' := 25) dX8_skipBlanks_22 (by decide) rfl ?_ ?_
      · exact v_return rfl dX8_skipBlanks_38
      · refine v_aload_n (pc' := 26) 0 dX8_skipBlanks_25 rfl rfl rfl ?_
        refine v_dup (pc' := 27) dX8_skipBlanks_26 rfl rfl ?_
        refine v_getI (pc' := 30) fl_X8_31 dX8_skipBlanks_27 rfl fun v6 => ?_
        refine v_iconst (v := 1) (pc' := 31) dX8_skipBlanks_30 rfl rfl ?_
        refine v_iadd (pc' := 32) dX8_skipBlanks_31 rfl ?_
        refine v_put (v := (.int (v6 + (1 : Int32)))) (v' := .int (v6 + (1 : Int32))) (pc' := 35) fw_X8_31 rfl rfl rfl (fun h => nomatch h) dX8_skipBlanks_32 rfl ?_
        refine v_goto (t := 0) dX8_skipBlanks_35 (by decide) ?_
        refine V.sub [0] rfl ?_
        exact ih a0
set_option maxRecDepth 20000 in
theorem h_X8_skipBlanks (g : GW) (a0 : Nat) : V g mX8_skipBlanks 8 rtU 0 [(0, rf g a0)] [] (f_X8_skipBlanks a0) := by
  unfold f_X8_skipBlanks
  refine V.sub [0] rfl ?_
  exact h_X8_skipBlanks_b0 g NF a0
-- atEnd
def f_X8_atEnd (a0 : Nat) : Mo Int32 := bd (cv 8 a0 (f_X8_skipBlanks a0)) fun _ => bd (gI 8 3 a0) fun v1 => bd (gI 8 2 a0) fun v2 => if (v1 < v2 : Prop) then (pu 0) else pu 1
set_option maxRecDepth 20000 in
theorem h_X8_atEnd (g : GW) (a0 : Nat) : V g mX8_atEnd 9 rtI 0 [(0, rf g a0)] [] (f_X8_atEnd a0) := by
  unfold f_X8_atEnd
  refine v_aload_n (pc' := 1) 0 dX8_atEnd_0 rfl rfl rfl ?_
  refine v_callV (vs := []) (pc' := 4) (h_X8_skipBlanks g a0) mv_X8_skipBlanks wl_X8_40 rfl (Nat.le_of_ble_eq_true rfl) (by omega) (by decide) (Nat.le_of_ble_eq_true rfl) rfl dX8_atEnd_1 rfl fun _ => ?_
  refine v_aload_n (pc' := 5) 0 dX8_atEnd_4 rfl rfl rfl ?_
  refine v_getI (pc' := 8) fl_X8_31 dX8_atEnd_5 rfl fun v1 => ?_
  refine v_aload_n (pc' := 9) 0 dX8_atEnd_8 rfl rfl rfl ?_
  refine v_getI (pc' := 12) fl_X8_28 dX8_atEnd_9 rfl fun v2 => ?_
  refine v_icmplt (t := 19) (pc' := 15) dX8_atEnd_12 (by decide) rfl ?_ ?_
  · refine v_iconst (v := 0) (pc' := 20) dX8_atEnd_19 rfl rfl ?_
    exact v_zret rfl rfl dX8_atEnd_20
  · refine v_iconst (v := 1) (pc' := 16) dX8_atEnd_15 rfl rfl ?_
    refine v_goto (t := 20) dX8_atEnd_16 (by decide) ?_
    exact v_zret rfl rfl dX8_atEnd_20
-- nextIs
def f_X8_nextIs (a0 : Nat) (x1 : Int32) : Mo Int32 := bd (cv 8 a0 (f_X8_skipBlanks a0)) fun _ => bd (gI 8 3 a0) fun v1 => bd (gI 8 2 a0) fun v2 => if (v2 ≤ v1 : Prop) then (pu 0) else bd (gR 8 0 a0) fun r3 => bd (gI 8 3 a0) fun v4 => bd (al 1 r3 v4) fun v5 => if (v5 = x1 : Prop) then (pu 1) else pu 0
set_option maxRecDepth 20000 in
theorem h_X8_nextIs (g : GW) (a0 : Nat) (x1 : Int32) : V g mX8_nextIs 9 rtI 0 [(0, rf g a0), (1, .int x1)] [] (f_X8_nextIs a0 x1) := by
  unfold f_X8_nextIs
  refine v_aload_n (pc' := 1) 0 dX8_nextIs_0 rfl rfl rfl ?_
  refine v_callV (vs := []) (pc' := 4) (h_X8_skipBlanks g a0) mv_X8_skipBlanks wl_X8_40 rfl (Nat.le_of_ble_eq_true rfl) (by omega) (by decide) (Nat.le_of_ble_eq_true rfl) rfl dX8_nextIs_1 rfl fun _ => ?_
  refine v_aload_n (pc' := 5) 0 dX8_nextIs_4 rfl rfl rfl ?_
  refine v_getI (pc' := 8) fl_X8_31 dX8_nextIs_5 rfl fun v1 => ?_
  refine v_aload_n (pc' := 9) 0 dX8_nextIs_8 rfl rfl rfl ?_
  refine v_getI (pc' := 12) fl_X8_28 dX8_nextIs_9 rfl fun v2 => ?_
  refine v_icmpge (t := 32) (pc' := 15) dX8_nextIs_12 (by decide) rfl ?_ ?_
  · refine v_iconst (v := 0) (pc' := 33) dX8_nextIs_32 rfl rfl ?_
    exact v_zret rfl rfl dX8_nextIs_33
  · refine v_aload_n (pc' := 16) 0 dX8_nextIs_15 rfl rfl rfl ?_
    refine v_getR (pc' := 19) fl_X8_9 dX8_nextIs_16 rfl fun r3 => ?_
    refine v_aload_n (pc' := 20) 0 dX8_nextIs_19 rfl rfl rfl ?_
    refine v_getI (pc' := 23) fl_X8_31 dX8_nextIs_20 rfl fun v4 => ?_
    refine v_bald (pc' := 24) dX8_nextIs_23 rfl fun v5 => ?_
    refine v_iload_n (pc' := 25) 1 dX8_nextIs_24 rfl rfl rfl ?_
    refine v_icmpne (t := 32) (pc' := 28) dX8_nextIs_25 (by decide) rfl ?_ ?_
    · refine v_iconst (v := 0) (pc' := 33) dX8_nextIs_32 rfl rfl ?_
      exact v_zret rfl rfl dX8_nextIs_33
    · refine v_iconst (v := 1) (pc' := 29) dX8_nextIs_28 rfl rfl ?_
      refine v_goto (t := 33) dX8_nextIs_29 (by decide) ?_
      exact v_zret rfl rfl dX8_nextIs_33
-- isDigit
def f_X8_isDigit (x0 : Int32) : Mo Int32 := if (x0 < 48 : Prop) then (pu 0) else if (57 < x0 : Prop) then (pu 0) else pu 1
set_option maxRecDepth 20000 in
theorem h_X8_isDigit (g : GW) (x0 : Int32) : V g mX8_isDigit 8 rtI 0 [(0, .int x0)] [] (f_X8_isDigit x0) := by
  unfold f_X8_isDigit
  refine v_iload_n (pc' := 1) 0 dX8_isDigit_0 rfl rfl rfl ?_
  refine v_bipush (v := 48) (pc' := 3) dX8_isDigit_1 rfl rfl ?_
  refine v_icmplt (t := 16) (pc' := 6) dX8_isDigit_3 (by decide) rfl ?_ ?_
  · refine v_iconst (v := 0) (pc' := 17) dX8_isDigit_16 rfl rfl ?_
    exact v_zret rfl rfl dX8_isDigit_17
  · refine v_iload_n (pc' := 7) 0 dX8_isDigit_6 rfl rfl rfl ?_
    refine v_bipush (v := 57) (pc' := 9) dX8_isDigit_7 rfl rfl ?_
    refine v_icmpgt (t := 16) (pc' := 12) dX8_isDigit_9 (by decide) rfl ?_ ?_
    · refine v_iconst (v := 0) (pc' := 17) dX8_isDigit_16 rfl rfl ?_
      exact v_zret rfl rfl dX8_isDigit_17
    · refine v_iconst (v := 1) (pc' := 13) dX8_isDigit_12 rfl rfl ?_
      refine v_goto (t := 17) dX8_isDigit_13 (by decide) ?_
      exact v_zret rfl rfl dX8_isDigit_17
-- nextIsDigit
def f_X8_nextIsDigit (a0 : Nat) : Mo Int32 := bd (cv 8 a0 (f_X8_skipBlanks a0)) fun _ => bd (gI 8 3 a0) fun v1 => bd (gI 8 2 a0) fun v2 => if (v2 ≤ v1 : Prop) then (pu 0) else bd (gR 8 0 a0) fun r3 => bd (gI 8 3 a0) fun v4 => bd (al 1 r3 v4) fun v5 => bd (f_X8_isDigit v5) fun v6 => if (v6 = 0 : Prop) then (pu 0) else pu 1
set_option maxRecDepth 20000 in
theorem h_X8_nextIsDigit (g : GW) (a0 : Nat) : V g mX8_nextIsDigit 9 rtI 0 [(0, rf g a0)] [] (f_X8_nextIsDigit a0) := by
  unfold f_X8_nextIsDigit
  refine v_aload_n (pc' := 1) 0 dX8_nextIsDigit_0 rfl rfl rfl ?_
  refine v_callV (vs := []) (pc' := 4) (h_X8_skipBlanks g a0) mv_X8_skipBlanks wl_X8_40 rfl (Nat.le_of_ble_eq_true rfl) (by omega) (by decide) (Nat.le_of_ble_eq_true rfl) rfl dX8_nextIsDigit_1 rfl fun _ => ?_
  refine v_aload_n (pc' := 5) 0 dX8_nextIsDigit_4 rfl rfl rfl ?_
  refine v_getI (pc' := 8) fl_X8_31 dX8_nextIsDigit_5 rfl fun v1 => ?_
  refine v_aload_n (pc' := 9) 0 dX8_nextIsDigit_8 rfl rfl rfl ?_
  refine v_getI (pc' := 12) fl_X8_28 dX8_nextIsDigit_9 rfl fun v2 => ?_
  refine v_icmpge (t := 34) (pc' := 15) dX8_nextIsDigit_12 (by decide) rfl ?_ ?_
  · refine v_iconst (v := 0) (pc' := 35) dX8_nextIsDigit_34 rfl rfl ?_
    exact v_zret rfl rfl dX8_nextIsDigit_35
  · refine v_aload_n (pc' := 16) 0 dX8_nextIsDigit_15 rfl rfl rfl ?_
    refine v_getR (pc' := 19) fl_X8_9 dX8_nextIsDigit_16 rfl fun r3 => ?_
    refine v_aload_n (pc' := 20) 0 dX8_nextIsDigit_19 rfl rfl rfl ?_
    refine v_getI (pc' := 23) fl_X8_31 dX8_nextIsDigit_20 rfl fun v4 => ?_
    refine v_bald (pc' := 24) dX8_nextIsDigit_23 rfl fun v5 => ?_
    refine v_callS (vs := [.int v5]) (pc' := 27) (h_X8_isDigit g v5) ms_X8_isDigit wl_X8_43 (Nat.le_of_ble_eq_true rfl) (by omega) (by decide) (Nat.le_of_ble_eq_true rfl) rfl dX8_nextIsDigit_24 rfl fun v6 => ?_
    refine v_ifeq (t := 34) (pc' := 30) dX8_nextIsDigit_27 (by decide) rfl ?_ ?_
    · refine v_iconst (v := 0) (pc' := 35) dX8_nextIsDigit_34 rfl rfl ?_
      exact v_zret rfl rfl dX8_nextIsDigit_35
    · refine v_iconst (v := 1) (pc' := 31) dX8_nextIsDigit_30 rfl rfl ?_
      refine v_goto (t := 35) dX8_nextIsDigit_31 (by decide) ?_
      exact v_zret rfl rfl dX8_nextIsDigit_35
-- accept
def f_X8_accept (a0 : Nat) (x1 : Int32) : Mo Int32 := bd (cv 8 a0 (f_X8_nextIs a0 x1)) fun v1 => if (v1 = 0 : Prop) then (rz v1) else bd (gI 8 3 a0) fun v2 => bd (pf 8 3 a0 (.int (v2 + (1 : Int32)))) fun _ => rz v1
set_option maxRecDepth 20000 in
theorem h_X8_accept (g : GW) (a0 : Nat) (x1 : Int32) : V g mX8_accept 10 rtI 0 [(0, rf g a0), (1, .int x1)] [] (f_X8_accept a0 x1) := by
  unfold f_X8_accept
  refine v_aload_n (pc' := 1) 0 dX8_accept_0 rfl rfl rfl ?_
  refine v_iload_n (pc' := 2) 1 dX8_accept_1 rfl rfl rfl ?_
  refine v_callV (vs := [.int x1]) (pc' := 5) (h_X8_nextIs g a0 x1) mv_X8_nextIs wl_X8_47 rfl (Nat.le_of_ble_eq_true rfl) (by omega) (by decide) (Nat.le_of_ble_eq_true rfl) rfl dX8_accept_2 rfl fun v1 => ?_
  refine v_istore_n (lv' := [(2, .int v1), (0, rf g a0), (1, .int x1)]) (pc' := 6) dX8_accept_5 rfl (by decide) rfl rfl ?_
  refine v_iload_n (pc' := 7) 0 dX8_accept_6 rfl rfl rfl ?_
  refine v_ifeq (t := 20) (pc' := 10) dX8_accept_7 (by decide) rfl ?_ ?_
  · refine v_iload_n (pc' := 21) 0 dX8_accept_20 rfl rfl rfl ?_
    exact v_zretV rfl dX8_accept_21
  · refine v_aload_n (pc' := 11) 1 dX8_accept_10 rfl rfl rfl ?_
    refine v_dup (pc' := 12) dX8_accept_11 rfl rfl ?_
    refine v_getI (pc' := 15) fl_X8_31 dX8_accept_12 rfl fun v2 => ?_
    refine v_iconst (v := 1) (pc' := 16) dX8_accept_15 rfl rfl ?_
    refine v_iadd (pc' := 17) dX8_accept_16 rfl ?_
    refine v_put (v := (.int (v2 + (1 : Int32)))) (v' := .int (v2 + (1 : Int32))) (pc' := 20) fw_X8_31 rfl rfl rfl (fun h => nomatch h) dX8_accept_17 rfl ?_
    refine v_iload_n (pc' := 21) 0 dX8_accept_20 rfl rfl rfl ?_
    exact v_zretV rfl dX8_accept_21
-- need
def f_X8_need_b28 (a0 : Nat) : Mo Int32 := bd (gI 8 3 a0) fun v1 => bd (cv 8 a0 (f_X8_fail a0 1 v1)) fun v2 => rz v2
def f_X8_need (a0 : Nat) (x1 : Int32) : Mo Int32 := bd (cv 8 a0 (f_X8_skipBlanks a0)) fun _ => bd (gI 8 3 a0) fun v3 => bd (gI 8 2 a0) fun v4 => if (v4 ≤ v3 : Prop) then (f_X8_need_b28 a0) else bd (gR 8 0 a0) fun r5 => bd (gI 8 3 a0) fun v6 => bd (al 1 r5 v6) fun v7 => if (v7 = x1 : Prop) then (bd (gI 8 3 a0) fun v8 => bd (pf 8 3 a0 (.int (v8 + (1 : Int32)))) fun _ => pu 1) else f_X8_need_b28 a0
set_option maxRecDepth 20000 in
theorem h_X8_need_b28 (g : GW) (a0 : Nat) : V g mX8_need 9 rtI 28 [(0, rf g a0)] [] (f_X8_need_b28 a0) := by
  unfold f_X8_need_b28
  refine v_aload_n (pc' := 29) 0 dX8_need_28 rfl rfl rfl ?_
  refine v_iconst (v := 1) (pc' := 30) dX8_need_29 rfl rfl ?_
  refine v_aload_n (pc' := 31) 0 dX8_need_30 rfl rfl rfl ?_
  refine v_getI (pc' := 34) fl_X8_31 dX8_need_31 rfl fun v1 => ?_
  refine v_callV (vs := [.int 1, .int v1]) (pc' := 37) (h_X8_fail g a0 1 v1) mv_X8_fail wl_X8_50 rfl (Nat.le_of_ble_eq_true rfl) (by omega) (by decide) (Nat.le_of_ble_eq_true rfl) rfl dX8_need_34 rfl fun v2 => ?_
  exact v_zretV rfl dX8_need_37
set_option maxRecDepth 20000 in
theorem h_X8_need (g : GW) (a0 : Nat) (x1 : Int32) : V g mX8_need 9 rtI 0 [(0, rf g a0), (1, .int x1)] [] (f_X8_need a0 x1) := by
  unfold f_X8_need
  refine v_aload_n (pc' := 1) 0 dX8_need_0 rfl rfl rfl ?_
  refine v_callV (vs := []) (pc' := 4) (h_X8_skipBlanks g a0) mv_X8_skipBlanks wl_X8_40 rfl (Nat.le_of_ble_eq_true rfl) (by omega) (by decide) (Nat.le_of_ble_eq_true rfl) rfl dX8_need_1 rfl fun _ => ?_
  refine v_aload_n (pc' := 5) 0 dX8_need_4 rfl rfl rfl ?_
  refine v_getI (pc' := 8) fl_X8_31 dX8_need_5 rfl fun v3 => ?_
  refine v_aload_n (pc' := 9) 0 dX8_need_8 rfl rfl rfl ?_
  refine v_getI (pc' := 12) fl_X8_28 dX8_need_9 rfl fun v4 => ?_
  refine v_icmpge (t := 28) (pc' := 15) dX8_need_12 (by decide) rfl ?_ ?_
  · refine V.sub [0] rfl ?_
    exact h_X8_need_b28 g a0
  · refine v_aload_n (pc' := 16) 0 dX8_need_15 rfl rfl rfl ?_
    refine v_getR (pc' := 19) fl_X8_9 dX8_need_16 rfl fun r5 => ?_
    refine v_aload_n (pc' := 20) 0 dX8_need_19 rfl rfl rfl ?_
    refine v_getI (pc' := 23) fl_X8_31 dX8_need_20 rfl fun v6 => ?_
    refine v_bald (pc' := 24) dX8_need_23 rfl fun v7 => ?_
    refine v_iload_n (pc' := 25) 1 dX8_need_24 rfl rfl rfl ?_
    refine v_icmpeq (t := 38) (pc' := 28) dX8_need_25 (by decide) rfl ?_ ?_
    · refine v_aload_n (pc' := 39) 0 dX8_need_38 rfl rfl rfl ?_
      refine v_dup (pc' := 40) dX8_need_39 rfl rfl ?_
      refine v_getI (pc' := 43) fl_X8_31 dX8_need_40 rfl fun v8 => ?_
      refine v_iconst (v := 1) (pc' := 44) dX8_need_43 rfl rfl ?_
      refine v_iadd (pc' := 45) dX8_need_44 rfl ?_
      refine v_put (v := (.int (v8 + (1 : Int32)))) (v' := .int (v8 + (1 : Int32))) (pc' := 48) fw_X8_31 rfl rfl rfl (fun h => nomatch h) dX8_need_45 rfl ?_
      refine v_iconst (v := 1) (pc' := 49) dX8_need_48 rfl rfl ?_
      exact v_zret rfl rfl dX8_need_49
    · refine V.sub [0] rfl ?_
      exact h_X8_need_b28 g a0
-- number
def f_X8_number_b78 (a0 : Nat) (x1 : Int32) (x2 : Int32) : Mo Int32 := bd (gI 8 3 a0) fun v1 => bd (gI 8 4 a0) fun v2 => if (v1 = v2 : Prop) then (bd (gI 8 4 a0) fun v5 => bd (cv 8 a0 (f_X8_fail a0 1 v5)) fun v6 => pu (-1)) else if (x2 ≤ x1 : Prop) then (pu x2) else bd (gI 8 4 a0) fun v3 => bd (cv 8 a0 (f_X8_fail a0 2 v3)) fun v4 => pu (-1)
def f_X8_number_b65 (k14 : Nat → Int32 → Int32 → Mo Int32) (a0 : Nat) (x1 : Int32) (x2 : Int32) : Mo Int32 := bd (gI 8 3 a0) fun v7 => bd (pf 8 3 a0 (.int (v7 + (1 : Int32)))) fun _ => k14 a0 x1 x2
def f_X8_number_b14 : Nat → Nat → Int32 → Int32 → Mo Int32
  | 0, _, _, _ => fl
  | n + 1, a0, x1, x2 => bd (gI 8 3 a0) fun v8 => bd (gI 8 2 a0) fun v9 => if (v9 ≤ v8 : Prop) then (f_X8_number_b78 a0 x1 x2) else bd (gR 8 0 a0) fun r10 => bd (gI 8 3 a0) fun v11 => bd (al 1 r10 v11) fun v12 => bd (f_X8_isDigit v12) fun v13 => if (v13 = 0 : Prop) then (f_X8_number_b78 a0 x1 x2) else if (10000 ≤ x2 : Prop) then (f_X8_number_b65 (f_X8_number_b14 n) a0 x1 x2) else bd (gR 8 0 a0) fun r14 => bd (gI 8 3 a0) fun v15 => bd (al 1 r14 v15) fun v16 => f_X8_number_b65 (f_X8_number_b14 n) a0 x1 (((x2 * (10 : Int32)) + v16) - (48 : Int32))
def f_X8_number (a0 : Nat) (x1 : Int32) : Mo Int32 := bd (cv 8 a0 (f_X8_skipBlanks a0)) fun _ => bd (gI 8 3 a0) fun v17 => bd (pf 8 4 a0 (.int v17)) fun _ => f_X8_number_b14 NF a0 x1 0
set_option maxRecDepth 20000 in
theorem h_X8_number_b78 (g : GW) (a0 : Nat) (x1 : Int32) (x2 : Int32) : V g mX8_number 9 rtI 78 [(0, rf g a0), (1, .int x1), (2, .int x2)] [] (f_X8_number_b78 a0 x1 x2) := by
  unfold f_X8_number_b78
  refine v_aload_n (pc' := 79) 0 dX8_number_78 rfl rfl rfl ?_
  refine v_getI (pc' := 82) fl_X8_31 dX8_number_79 rfl fun v1 => ?_
  refine v_aload_n (pc' := 83) 0 dX8_number_82 rfl rfl rfl ?_
  refine v_getI (pc' := 86) fl_X8_34 dX8_number_83 rfl fun v2 => ?_
  refine v_icmpne (t := 101) (pc' := 89) dX8_number_86 (by decide) rfl ?_ ?_
  · refine v_iload_n (pc' := 102) 2 dX8_number_101 rfl rfl rfl ?_
    refine v_iload_n (pc' := 103) 1 dX8_number_102 rfl rfl rfl ?_
    refine v_icmple (t := 118) (pc' := 106) dX8_number_103 (by decide) rfl ?_ ?_
    · refine v_iload_n (pc' := 119) 2 dX8_number_118 rfl rfl rfl ?_
      exact v_ireturn rfl dX8_number_119
    · refine v_aload_n (pc' := 107) 0 dX8_number_106 rfl rfl rfl ?_
      refine v_iconst (v := 2) (pc' := 108) dX8_number_107 rfl rfl ?_
      refine v_aload_n (pc' := 109) 0 dX8_number_108 rfl rfl rfl ?_
      refine v_getI (pc' := 112) fl_X8_34 dX8_number_109 rfl fun v3 => ?_
      refine v_callV (vs := [.int 2, .int v3]) (pc' := 115) (h_X8_fail g a0 2 v3) mv_X8_fail wl_X8_50 rfl (Nat.le_of_ble_eq_true rfl) (by omega) (by decide) (Nat.le_of_ble_eq_true rfl) rfl dX8_number_112 rfl fun v4 => ?_
      refine v_pop (pc' := 116) dX8_number_115 rfl rfl ?_
      refine v_iconst (v := -1) (pc' := 117) dX8_number_116 rfl rfl ?_
      exact v_ireturn rfl dX8_number_117
  · refine v_aload_n (pc' := 90) 0 dX8_number_89 rfl rfl rfl ?_
    refine v_iconst (v := 1) (pc' := 91) dX8_number_90 rfl rfl ?_
    refine v_aload_n (pc' := 92) 0 dX8_number_91 rfl rfl rfl ?_
    refine v_getI (pc' := 95) fl_X8_34 dX8_number_92 rfl fun v5 => ?_
    refine v_callV (vs := [.int 1, .int v5]) (pc' := 98) (h_X8_fail g a0 1 v5) mv_X8_fail wl_X8_50 rfl (Nat.le_of_ble_eq_true rfl) (by omega) (by decide) (Nat.le_of_ble_eq_true rfl) rfl dX8_number_95 rfl fun v6 => ?_
    refine v_pop (pc' := 99) dX8_number_98 rfl rfl ?_
    refine v_iconst (v := -1) (pc' := 100) dX8_number_99 rfl rfl ?_
    exact v_ireturn rfl dX8_number_100
set_option maxRecDepth 20000 in
theorem h_X8_number_b65 (g : GW) (k14 : Nat → Int32 → Int32 → Mo Int32) (hk14 : ∀ a0 x1 x2, V g mX8_number 9 rtI 14 [(0, rf g a0), (1, .int x1), (2, .int x2)] [] (k14 a0 x1 x2)) (a0 : Nat) (x1 : Int32) (x2 : Int32) : V g mX8_number 9 rtI 65 [(0, rf g a0), (1, .int x1), (2, .int x2)] [] (f_X8_number_b65 k14 a0 x1 x2) := by
  unfold f_X8_number_b65
  refine v_aload_n (pc' := 66) 0 dX8_number_65 rfl rfl rfl ?_
  refine v_dup (pc' := 67) dX8_number_66 rfl rfl ?_
  refine v_getI (pc' := 70) fl_X8_31 dX8_number_67 rfl fun v7 => ?_
  refine v_iconst (v := 1) (pc' := 71) dX8_number_70 rfl rfl ?_
  refine v_iadd (pc' := 72) dX8_number_71 rfl ?_
  refine v_put (v := (.int (v7 + (1 : Int32)))) (v' := .int (v7 + (1 : Int32))) (pc' := 75) fw_X8_31 rfl rfl rfl (fun h => nomatch h) dX8_number_72 rfl ?_
  refine v_goto (t := 14) dX8_number_75 (by decide) ?_
  refine V.sub [0, 1, 2] rfl ?_
  exact hk14 a0 x1 x2
set_option maxRecDepth 20000 in
theorem h_X8_number_b14 (g : GW) : ∀ n : Nat, ∀ a0 x1 x2, V g mX8_number 9 rtI 14 [(0, rf g a0), (1, .int x1), (2, .int x2)] [] (f_X8_number_b14 n a0 x1 x2) := by
  intro n
  induction n with
  | zero => intro a0 x1 x2; exact V.vain
  | succ n ih =>
    intro a0 x1 x2
    unfold f_X8_number_b14
    refine v_aload_n (pc' := 15) 0 dX8_number_14 rfl rfl rfl ?_
    refine v_getI (pc' := 18) fl_X8_31 dX8_number_15 rfl fun v8 => ?_
    refine v_aload_n (pc' := 19) 0 dX8_number_18 rfl rfl rfl ?_
    refine v_getI (pc' := 22) fl_X8_28 dX8_number_19 rfl fun v9 => ?_
    refine v_icmpge (t := 78) (pc' := 25) dX8_number_22 (by decide) rfl ?_ ?_
    · refine V.sub [0, 1, 2] rfl ?_
      exact h_X8_number_b78 g a0 x1 x2
    · refine v_aload_n (pc' := 26) 0 dX8_number_25 rfl rfl rfl ?_
      refine v_getR (pc' := 29) fl_X8_9 dX8_number_26 rfl fun r10 => ?_
      refine v_aload_n (pc' := 30) 0 dX8_number_29 rfl rfl rfl ?_
      refine v_getI (pc' := 33) fl_X8_31 dX8_number_30 rfl fun v11 => ?_
      refine v_bald (pc' := 34) dX8_number_33 rfl fun v12 => ?_
      refine v_callS (vs := [.int v12]) (pc' := 37) (h_X8_isDigit g v12) ms_X8_isDigit wl_X8_43 (Nat.le_of_ble_eq_true rfl) (by omega) (by decide) (Nat.le_of_ble_eq_true rfl) rfl dX8_number_34 rfl fun v13 => ?_
      refine v_ifeq (t := 78) (pc' := 40) dX8_number_37 (by decide) rfl ?_ ?_
      · refine V.sub [0, 1, 2] rfl ?_
        exact h_X8_number_b78 g a0 x1 x2
      · refine v_iload_n (pc' := 41) 2 dX8_number_40 rfl rfl rfl ?_
        refine v_sipush (v := 10000) (pc' := 44) dX8_number_41 rfl rfl ?_
        refine v_icmpge (t := 65) (pc' := 47) dX8_number_44 (by decide) rfl ?_ ?_
        · refine V.sub [0, 1, 2] rfl ?_
          exact h_X8_number_b65 g (f_X8_number_b14 n) ih a0 x1 x2
        · refine v_iload_n (pc' := 48) 2 dX8_number_47 rfl rfl rfl ?_
          refine v_bipush (v := 10) (pc' := 50) dX8_number_48 rfl rfl ?_
          refine v_imul (pc' := 51) dX8_number_50 rfl ?_
          refine v_aload_n (pc' := 52) 0 dX8_number_51 rfl rfl rfl ?_
          refine v_getR (pc' := 55) fl_X8_9 dX8_number_52 rfl fun r14 => ?_
          refine v_aload_n (pc' := 56) 0 dX8_number_55 rfl rfl rfl ?_
          refine v_getI (pc' := 59) fl_X8_31 dX8_number_56 rfl fun v15 => ?_
          refine v_bald (pc' := 60) dX8_number_59 rfl fun v16 => ?_
          refine v_iadd (pc' := 61) dX8_number_60 rfl ?_
          refine v_bipush (v := 48) (pc' := 63) dX8_number_61 rfl rfl ?_
          refine v_isub (pc' := 64) dX8_number_63 rfl ?_
          refine v_istore_n (lv' := [(2, .int (((x2 * (10 : Int32)) + v16) - (48 : Int32))), (0, rf g a0), (1, .int x1)]) (pc' := 65) dX8_number_64 rfl (by decide) rfl rfl ?_
          refine V.sub [1, 2, 0] rfl ?_
          exact h_X8_number_b65 g (f_X8_number_b14 n) ih a0 x1 (((x2 * (10 : Int32)) + v16) - (48 : Int32))
set_option maxRecDepth 20000 in
theorem h_X8_number (g : GW) (a0 : Nat) (x1 : Int32) : V g mX8_number 9 rtI 0 [(0, rf g a0), (1, .int x1)] [] (f_X8_number a0 x1) := by
  unfold f_X8_number
  refine v_aload_n (pc' := 1) 0 dX8_number_0 rfl rfl rfl ?_
  refine v_callV (vs := []) (pc' := 4) (h_X8_skipBlanks g a0) mv_X8_skipBlanks wl_X8_40 rfl (Nat.le_of_ble_eq_true rfl) (by omega) (by decide) (Nat.le_of_ble_eq_true rfl) rfl dX8_number_1 rfl fun _ => ?_
  refine v_aload_n (pc' := 5) 0 dX8_number_4 rfl rfl rfl ?_
  refine v_aload_n (pc' := 6) 0 dX8_number_5 rfl rfl rfl ?_
  refine v_getI (pc' := 9) fl_X8_31 dX8_number_6 rfl fun v17 => ?_
  refine v_put (v := (.int v17)) (v' := .int v17) (pc' := 12) fw_X8_34 rfl rfl rfl (fun h => nomatch h) dX8_number_9 rfl ?_
  refine v_iconst (v := 0) (pc' := 13) dX8_number_12 rfl rfl ?_
  refine v_istore_n (lv' := [(2, .int 0), (0, rf g a0), (1, .int x1)]) (pc' := 14) dX8_number_13 rfl (by decide) rfl rfl ?_
  refine V.sub [1, 2, 0] rfl ?_
  exact h_X8_number_b14 g NF a0 x1 0
-- isSame
def f_X8_isSame_b20 : Nat → Nat → Nat → Int32 → Int32 → Int32 → Mo Int32
  | 0, _, _, _, _, _ => fl
  | n + 1, a0, s1, x2, x3, x4 => if (x3 ≤ x4 : Prop) then (pu 1) else bd (sChr s1 x4) fun v1 => bd (gR 8 0 a0) fun r2 => bd (gI 8 4 a0) fun v3 => bd (al 1 r2 ((v3 + x4) - x2)) fun v4 => if (v1 = v4 : Prop) then ((f_X8_isSame_b20 n) a0 s1 x2 x3 (x4 + 1)) else pu 0
def f_X8_isSame (a0 : Nat) (s1 : Nat) (x2 : Int32) (x3 : Int32) : Mo Int32 := bd (gI 8 3 a0) fun v5 => bd (gI 8 4 a0) fun v6 => if ((x3 - x2) = (v5 - v6) : Prop) then (f_X8_isSame_b20 NF a0 s1 x2 x3 x2) else pu 0
set_option maxRecDepth 20000 in
theorem h_X8_isSame_b20 (g : GW) : ∀ n : Nat, ∀ a0 s1 x2 x3 x4, V g mX8_isSame 8 rtI 20 [(0, rf g a0), (1, .ref (gK g s1)), (2, .int x2), (3, .int x3), (4, .int x4)] [] (f_X8_isSame_b20 n a0 s1 x2 x3 x4) := by
  intro n
  induction n with
  | zero => intro a0 s1 x2 x3 x4; exact V.vain
  | succ n ih =>
    intro a0 s1 x2 x3 x4
    unfold f_X8_isSame_b20
    refine v_iload (pc' := 22) 4 dX8_isSame_20 rfl rfl ?_
    refine v_iload_n (pc' := 23) 3 dX8_isSame_22 rfl rfl rfl ?_
    refine v_icmpge (t := 57) (pc' := 26) dX8_isSame_23 (by decide) rfl ?_ ?_
    · refine v_iconst (v := 1) (pc' := 58) dX8_isSame_57 rfl rfl ?_
      exact v_zret rfl rfl dX8_isSame_58
    · refine v_aload_nX (pc' := 27) 1 dX8_isSame_26 rfl rfl rfl ?_
      refine v_iload (pc' := 29) 4 dX8_isSame_27 rfl rfl ?_
      refine v_strchr (pc' := 32) (by omega) (tg3 172 (by decide +kernel) (by decide +kernel)) (Nat.le_of_ble_eq_true rfl) trivial dX8_isSame_29 rfl fun v1 => ?_
      refine v_aload_n (pc' := 33) 0 dX8_isSame_32 rfl rfl rfl ?_
      refine v_getR (pc' := 36) fl_X8_9 dX8_isSame_33 rfl fun r2 => ?_
      refine v_aload_n (pc' := 37) 0 dX8_isSame_36 rfl rfl rfl ?_
      refine v_getI (pc' := 40) fl_X8_34 dX8_isSame_37 rfl fun v3 => ?_
      refine v_iload (pc' := 42) 4 dX8_isSame_40 rfl rfl ?_
      refine v_iadd (pc' := 43) dX8_isSame_42 rfl ?_
      refine v_iload_n (pc' := 44) 2 dX8_isSame_43 rfl rfl rfl ?_
      refine v_isub (pc' := 45) dX8_isSame_44 rfl ?_
      refine v_bald (pc' := 46) dX8_isSame_45 rfl fun v4 => ?_
      refine v_icmpeq (t := 51) (pc' := 49) dX8_isSame_46 (by decide) rfl ?_ ?_
      · refine v_iinc (v := x4 + 1) (lv' := [(4, .int (x4 + 1)), (0, rf g a0), (1, .ref (gK g s1)), (2, .int x2), (3, .int x3)]) (pc' := 54) 4 dX8_isSame_51 rfl rfl (by decide) rfl rfl ?_
        refine v_goto (t := 20) dX8_isSame_54 (by decide) ?_
        refine V.sub [1, 2, 3, 4, 0] rfl ?_
        exact ih a0 s1 x2 x3 (x4 + 1)
      · refine v_iconst (v := 0) (pc' := 50) dX8_isSame_49 rfl rfl ?_
        exact v_zret rfl rfl dX8_isSame_50
set_option maxRecDepth 20000 in
theorem h_X8_isSame (g : GW) (a0 : Nat) (s1 : Nat) (x2 : Int32) (x3 : Int32) : V g mX8_isSame 8 rtI 0 [(0, rf g a0), (1, .ref (gK g s1)), (2, .int x2), (3, .int x3)] [] (f_X8_isSame a0 s1 x2 x3) := by
  unfold f_X8_isSame
  refine v_iload_n (pc' := 1) 3 dX8_isSame_0 rfl rfl rfl ?_
  refine v_iload_n (pc' := 2) 2 dX8_isSame_1 rfl rfl rfl ?_
  refine v_isub (pc' := 3) dX8_isSame_2 rfl ?_
  refine v_aload_n (pc' := 4) 0 dX8_isSame_3 rfl rfl rfl ?_
  refine v_getI (pc' := 7) fl_X8_31 dX8_isSame_4 rfl fun v5 => ?_
  refine v_aload_n (pc' := 8) 0 dX8_isSame_7 rfl rfl rfl ?_
  refine v_getI (pc' := 11) fl_X8_34 dX8_isSame_8 rfl fun v6 => ?_
  refine v_isub (pc' := 12) dX8_isSame_11 rfl ?_
  refine v_icmpeq (t := 17) (pc' := 15) dX8_isSame_12 (by decide) rfl ?_ ?_
  · refine v_iload_n (pc' := 18) 2 dX8_isSame_17 rfl rfl rfl ?_
    refine v_istore (lv' := [(4, .int x2), (0, rf g a0), (1, .ref (gK g s1)), (2, .int x2), (3, .int x3)]) (pc' := 20) dX8_isSame_18 (by decide) rfl rfl ?_
    refine V.sub [1, 2, 3, 4, 0] rfl ?_
    exact h_X8_isSame_b20 g NF a0 s1 x2 x3 x2
  · refine v_iconst (v := 0) (pc' := 16) dX8_isSame_15 rfl rfl ?_
    exact v_zret rfl rfl dX8_isSame_16
-- word
def f_X8_word_b121 (k71 : Nat → Nat → Int32 → Int32 → Int32 → Mo Int32) (a0 : Nat) (s1 : Nat) (x2 : Int32) (x3 : Int32) (x4 : Int32) : Mo Int32 := k71 a0 s1 x2 x3 (x4 + 1)
def f_X8_word_b100 (k71 : Nat → Nat → Int32 → Int32 → Int32 → Mo Int32) (a0 : Nat) (s1 : Nat) (x2 : Int32) (x3 : Int32) (x4 : Int32) : Mo Int32 := bd (cv 8 a0 (f_X8_isSame a0 s1 x3 x4)) fun v1 => if (v1 = 0 : Prop) then (f_X8_word_b121 k71 a0 s1 (x2 + 1) (x4 + (1 : Int32)) x4) else pu x2
def f_X8_word_b71 : Nat → Nat → Nat → Int32 → Int32 → Int32 → Mo Int32
  | 0, _, _, _, _, _ => fl
  | n + 1, a0, s1, x2, x3, x4 => bd (sLen s1) fun v2 => if (v2 < x4 : Prop) then (bd (gI 8 4 a0) fun v3 => bd (cv 8 a0 (f_X8_fail a0 1 v3)) fun v4 => pu (-1)) else bd (sLen s1) fun v5 => if (x4 = v5 : Prop) then (f_X8_word_b100 (f_X8_word_b71 n) a0 s1 x2 x3 x4) else bd (sChr s1 x4) fun v6 => if (v6 = 32 : Prop) then (f_X8_word_b100 (f_X8_word_b71 n) a0 s1 x2 x3 x4) else f_X8_word_b121 (f_X8_word_b71 n) a0 s1 x2 x3 x4
def f_X8_word_b64 (a0 : Nat) (s1 : Nat) : Mo Int32 := f_X8_word_b71 NF a0 s1 0 0 0
def f_X8_word_b12 : Nat → Nat → Nat → Mo Int32
  | 0, _, _ => fl
  | n + 1, a0, s1 => bd (gI 8 3 a0) fun v7 => bd (gI 8 2 a0) fun v8 => if (v8 ≤ v7 : Prop) then (f_X8_word_b64 a0 s1) else bd (gR 8 0 a0) fun r9 => bd (gI 8 3 a0) fun v10 => bd (al 1 r9 v10) fun v11 => if (v11 < 97 : Prop) then (f_X8_word_b64 a0 s1) else bd (gR 8 0 a0) fun r12 => bd (gI 8 3 a0) fun v13 => bd (al 1 r12 v13) fun v14 => if (122 < v14 : Prop) then (f_X8_word_b64 a0 s1) else bd (gI 8 3 a0) fun v15 => bd (pf 8 3 a0 (.int (v15 + (1 : Int32)))) fun _ => (f_X8_word_b12 n) a0 s1
def f_X8_word (a0 : Nat) (s1 : Nat) : Mo Int32 := bd (cv 8 a0 (f_X8_skipBlanks a0)) fun _ => bd (gI 8 3 a0) fun v16 => bd (pf 8 4 a0 (.int v16)) fun _ => f_X8_word_b12 NF a0 s1
set_option maxRecDepth 20000 in
theorem h_X8_word_b121 (g : GW) (k71 : Nat → Nat → Int32 → Int32 → Int32 → Mo Int32) (hk71 : ∀ a0 s1 x2 x3 x4, V g mX8_word 9 rtI 71 [(0, rf g a0), (1, .ref (gK g s1)), (2, .int x2), (3, .int x3), (4, .int x4)] [] (k71 a0 s1 x2 x3 x4)) (a0 : Nat) (s1 : Nat) (x2 : Int32) (x3 : Int32) (x4 : Int32) : V g mX8_word 9 rtI 121 [(0, rf g a0), (1, .ref (gK g s1)), (2, .int x2), (3, .int x3), (4, .int x4)] [] (f_X8_word_b121 k71 a0 s1 x2 x3 x4) := by
  unfold f_X8_word_b121
  refine v_iinc (v := x4 + 1) (lv' := [(4, .int (x4 + 1)), (0, rf g a0), (1, .ref (gK g s1)), (2, .int x2), (3, .int x3)]) (pc' := 124) 4 dX8_word_121 rfl rfl (by decide) rfl rfl ?_
  refine v_goto (t := 71) dX8_word_124 (by decide) ?_
  refine V.sub [1, 2, 3, 4, 0] rfl ?_
  exact hk71 a0 s1 x2 x3 (x4 + 1)
set_option maxRecDepth 20000 in
theorem h_X8_word_b100 (g : GW) (k71 : Nat → Nat → Int32 → Int32 → Int32 → Mo Int32) (hk71 : ∀ a0 s1 x2 x3 x4, V g mX8_word 9 rtI 71 [(0, rf g a0), (1, .ref (gK g s1)), (2, .int x2), (3, .int x3), (4, .int x4)] [] (k71 a0 s1 x2 x3 x4)) (a0 : Nat) (s1 : Nat) (x2 : Int32) (x3 : Int32) (x4 : Int32) : V g mX8_word 9 rtI 100 [(0, rf g a0), (1, .ref (gK g s1)), (2, .int x2), (3, .int x3), (4, .int x4)] [] (f_X8_word_b100 k71 a0 s1 x2 x3 x4) := by
  unfold f_X8_word_b100
  refine v_aload_n (pc' := 101) 0 dX8_word_100 rfl rfl rfl ?_
  refine v_aload_nX (pc' := 102) 1 dX8_word_101 rfl rfl rfl ?_
  refine v_iload_n (pc' := 103) 3 dX8_word_102 rfl rfl rfl ?_
  refine v_iload (pc' := 105) 4 dX8_word_103 rfl rfl ?_
  refine v_callV (vs := [.ref (gK g s1), .int x3, .int x4]) (pc' := 108) (h_X8_isSame g a0 s1 x3 x4) mv_X8_isSame wl_X8_63 rfl (Nat.le_of_ble_eq_true rfl) (by omega) (by decide) (Nat.le_of_ble_eq_true rfl) rfl dX8_word_105 rfl fun v1 => ?_
  refine v_ifeq (t := 113) (pc' := 111) dX8_word_108 (by decide) rfl ?_ ?_
  · refine v_iinc (v := x2 + 1) (lv' := [(2, .int (x2 + 1)), (0, rf g a0), (1, .ref (gK g s1)), (3, .int x3), (4, .int x4)]) (pc' := 116) 2 dX8_word_113 rfl rfl (by decide) rfl rfl ?_
    refine v_iload (pc' := 118) 4 dX8_word_116 rfl rfl ?_
    refine v_iconst (v := 1) (pc' := 119) dX8_word_118 rfl rfl ?_
    refine v_iadd (pc' := 120) dX8_word_119 rfl ?_
    refine v_istore_n (lv' := [(3, .int (x4 + (1 : Int32))), (2, .int (x2 + 1)), (0, rf g a0), (1, .ref (gK g s1)), (4, .int x4)]) (pc' := 121) dX8_word_120 rfl (by decide) rfl rfl ?_
    refine V.sub [2, 3, 1, 0, 4] rfl ?_
    exact h_X8_word_b121 g k71 hk71 a0 s1 (x2 + 1) (x4 + (1 : Int32)) x4
  · refine v_iload_n (pc' := 112) 2 dX8_word_111 rfl rfl rfl ?_
    exact v_ireturn rfl dX8_word_112
set_option maxRecDepth 20000 in
theorem h_X8_word_b71 (g : GW) : ∀ n : Nat, ∀ a0 s1 x2 x3 x4, V g mX8_word 9 rtI 71 [(0, rf g a0), (1, .ref (gK g s1)), (2, .int x2), (3, .int x3), (4, .int x4)] [] (f_X8_word_b71 n a0 s1 x2 x3 x4) := by
  intro n
  induction n with
  | zero => intro a0 s1 x2 x3 x4; exact V.vain
  | succ n ih =>
    intro a0 s1 x2 x3 x4
    unfold f_X8_word_b71
    refine v_iload (pc' := 73) 4 dX8_word_71 rfl rfl ?_
    refine v_aload_nX (pc' := 74) 1 dX8_word_73 rfl rfl rfl ?_
    refine v_strlen (pc' := 77) (by omega) (tg3 162 (by decide +kernel) (by decide +kernel)) (Nat.le_of_ble_eq_true rfl) trivial dX8_word_74 rfl fun v2 => ?_
    refine v_icmpgt (t := 127) (pc' := 80) dX8_word_77 (by decide) rfl ?_ ?_
    · refine v_aload_n (pc' := 128) 0 dX8_word_127 rfl rfl rfl ?_
      refine v_iconst (v := 1) (pc' := 129) dX8_word_128 rfl rfl ?_
      refine v_aload_n (pc' := 130) 0 dX8_word_129 rfl rfl rfl ?_
      refine v_getI (pc' := 133) fl_X8_34 dX8_word_130 rfl fun v3 => ?_
      refine v_callV (vs := [.int 1, .int v3]) (pc' := 136) (h_X8_fail g a0 1 v3) mv_X8_fail wl_X8_50 rfl (Nat.le_of_ble_eq_true rfl) (by omega) (by decide) (Nat.le_of_ble_eq_true rfl) rfl dX8_word_133 rfl fun v4 => ?_
      refine v_pop (pc' := 137) dX8_word_136 rfl rfl ?_
      refine v_iconst (v := -1) (pc' := 138) dX8_word_137 rfl rfl ?_
      exact v_ireturn rfl dX8_word_138
    · refine v_iload (pc' := 82) 4 dX8_word_80 rfl rfl ?_
      refine v_aload_nX (pc' := 83) 1 dX8_word_82 rfl rfl rfl ?_
      refine v_strlen (pc' := 86) (by omega) (tg3 162 (by decide +kernel) (by decide +kernel)) (Nat.le_of_ble_eq_true rfl) trivial dX8_word_83 rfl fun v5 => ?_
      refine v_icmpeq (t := 100) (pc' := 89) dX8_word_86 (by decide) rfl ?_ ?_
      · refine V.sub [0, 1, 2, 3, 4] rfl ?_
        exact h_X8_word_b100 g (f_X8_word_b71 n) ih a0 s1 x2 x3 x4
      · refine v_aload_nX (pc' := 90) 1 dX8_word_89 rfl rfl rfl ?_
        refine v_iload (pc' := 92) 4 dX8_word_90 rfl rfl ?_
        refine v_strchr (pc' := 95) (by omega) (tg3 172 (by decide +kernel) (by decide +kernel)) (Nat.le_of_ble_eq_true rfl) trivial dX8_word_92 rfl fun v6 => ?_
        refine v_bipush (v := 32) (pc' := 97) dX8_word_95 rfl rfl ?_
        refine v_icmpne (t := 121) (pc' := 100) dX8_word_97 (by decide) rfl ?_ ?_
        · refine V.sub [0, 1, 2, 3, 4] rfl ?_
          exact h_X8_word_b121 g (f_X8_word_b71 n) ih a0 s1 x2 x3 x4
        · refine V.sub [0, 1, 2, 3, 4] rfl ?_
          exact h_X8_word_b100 g (f_X8_word_b71 n) ih a0 s1 x2 x3 x4
set_option maxRecDepth 20000 in
theorem h_X8_word_b64 (g : GW) (a0 : Nat) (s1 : Nat) : V g mX8_word 9 rtI 64 [(0, rf g a0), (1, .ref (gK g s1))] [] (f_X8_word_b64 a0 s1) := by
  unfold f_X8_word_b64
  refine v_iconst (v := 0) (pc' := 65) dX8_word_64 rfl rfl ?_
  refine v_istore_n (lv' := [(2, .int 0), (0, rf g a0), (1, .ref (gK g s1))]) (pc' := 66) dX8_word_65 rfl (by decide) rfl rfl ?_
  refine v_iconst (v := 0) (pc' := 67) dX8_word_66 rfl rfl ?_
  refine v_istore_n (lv' := [(3, .int 0), (2, .int 0), (0, rf g a0), (1, .ref (gK g s1))]) (pc' := 68) dX8_word_67 rfl (by decide) rfl rfl ?_
  refine v_iconst (v := 0) (pc' := 69) dX8_word_68 rfl rfl ?_
  refine v_istore (lv' := [(4, .int 0), (3, .int 0), (2, .int 0), (0, rf g a0), (1, .ref (gK g s1))]) (pc' := 71) dX8_word_69 (by decide) rfl rfl ?_
  refine V.sub [3, 4, 2, 1, 0] rfl ?_
  exact h_X8_word_b71 g NF a0 s1 0 0 0
set_option maxRecDepth 20000 in
theorem h_X8_word_b12 (g : GW) : ∀ n : Nat, ∀ a0 s1, V g mX8_word 9 rtI 12 [(0, rf g a0), (1, .ref (gK g s1))] [] (f_X8_word_b12 n a0 s1) := by
  intro n
  induction n with
  | zero => intro a0 s1; exact V.vain
  | succ n ih =>
    intro a0 s1
    unfold f_X8_word_b12
    refine v_aload_n (pc' := 13) 0 dX8_word_12 rfl rfl rfl ?_
    refine v_getI (pc' := 16) fl_X8_31 dX8_word_13 rfl fun v7 => ?_
    refine v_aload_n (pc' := 17) 0 dX8_word_16 rfl rfl rfl ?_
    refine v_getI (pc' := 20) fl_X8_28 dX8_word_17 rfl fun v8 => ?_
    refine v_icmpge (t := 64) (pc' := 23) dX8_word_20 (by decide) rfl ?_ ?_
    · refine V.sub [0, 1] rfl ?_
      exact h_X8_word_b64 g a0 s1
    · refine v_aload_n (pc' := 24) 0 dX8_word_23 rfl rfl rfl ?_
      refine v_getR (pc' := 27) fl_X8_9 dX8_word_24 rfl fun r9 => ?_
      refine v_aload_n (pc' := 28) 0 dX8_word_27 rfl rfl rfl ?_
      refine v_getI (pc' := 31) fl_X8_31 dX8_word_28 rfl fun v10 => ?_
      refine v_bald (pc' := 32) dX8_word_31 rfl fun v11 => ?_
      refine v_bipush (v := 97) (pc' := 34) dX8_word_32 rfl rfl ?_
      refine v_icmplt (t := 64) (pc' := 37) dX8_word_34 (by decide) rfl ?_ ?_
      · refine V.sub [0, 1] rfl ?_
        exact h_X8_word_b64 g a0 s1
      · refine v_aload_n (pc' := 38) 0 dX8_word_37 rfl rfl rfl ?_
        refine v_getR (pc' := 41) fl_X8_9 dX8_word_38 rfl fun r12 => ?_
        refine v_aload_n (pc' := 42) 0 dX8_word_41 rfl rfl rfl ?_
        refine v_getI (pc' := 45) fl_X8_31 dX8_word_42 rfl fun v13 => ?_
        refine v_bald (pc' := 46) dX8_word_45 rfl fun v14 => ?_
        refine v_bipush (v := 122) (pc' := 48) dX8_word_46 rfl rfl ?_
        refine v_icmpgt (t := 64) (pc' := 51) dX8_word_48 (by decide) rfl ?_ ?_
        · refine V.sub [0, 1] rfl ?_
          exact h_X8_word_b64 g a0 s1
        · refine v_aload_n (pc' := 52) 0 dX8_word_51 rfl rfl rfl ?_
          refine v_dup (pc' := 53) dX8_word_52 rfl rfl ?_
          refine v_getI (pc' := 56) fl_X8_31 dX8_word_53 rfl fun v15 => ?_
          refine v_iconst (v := 1) (pc' := 57) dX8_word_56 rfl rfl ?_
          refine v_iadd (pc' := 58) dX8_word_57 rfl ?_
          refine v_put (v := (.int (v15 + (1 : Int32)))) (v' := .int (v15 + (1 : Int32))) (pc' := 61) fw_X8_31 rfl rfl rfl (fun h => nomatch h) dX8_word_58 rfl ?_
          refine v_goto (t := 12) dX8_word_61 (by decide) ?_
          refine V.sub [0, 1] rfl ?_
          exact ih a0 s1
set_option maxRecDepth 20000 in
theorem h_X8_word (g : GW) (a0 : Nat) (s1 : Nat) : V g mX8_word 9 rtI 0 [(0, rf g a0), (1, .ref (gK g s1))] [] (f_X8_word a0 s1) := by
  unfold f_X8_word
  refine v_aload_n (pc' := 1) 0 dX8_word_0 rfl rfl rfl ?_
  refine v_callV (vs := []) (pc' := 4) (h_X8_skipBlanks g a0) mv_X8_skipBlanks wl_X8_40 rfl (Nat.le_of_ble_eq_true rfl) (by omega) (by decide) (Nat.le_of_ble_eq_true rfl) rfl dX8_word_1 rfl fun _ => ?_
  refine v_aload_n (pc' := 5) 0 dX8_word_4 rfl rfl rfl ?_
  refine v_aload_n (pc' := 6) 0 dX8_word_5 rfl rfl rfl ?_
  refine v_getI (pc' := 9) fl_X8_31 dX8_word_6 rfl fun v16 => ?_
  refine v_put (v := (.int v16)) (v' := .int v16) (pc' := 12) fw_X8_34 rfl rfl rfl (fun h => nomatch h) dX8_word_9 rfl ?_
  refine V.sub [0, 1] rfl ?_
  exact h_X8_word_b12 g NF a0 s1
