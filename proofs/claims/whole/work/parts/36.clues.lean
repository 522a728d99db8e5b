-- clear
def f_X1_clear_b2 : Nat → Nat → Int32 → Mo Unit
  | 0, _, _ => fl
  | n + 1, a0, x1 => if (8 ≤ x1 : Prop) then (bd (pf 1 4 a0 (.int 0)) fun _ => bd (pf 1 5 a0 (.long (-1))) fun _ => pu ()) else bd (gR 1 1 a0) fun r1 => bd (as_ r1 x1 (-1)) fun _ => (f_X1_clear_b2 n) a0 (x1 + 1)
def f_X1_clear (a0 : Nat) : Mo Unit := f_X1_clear_b2 NF a0 0
set_option maxRecDepth 20000 in
theorem h_X1_clear_b2 (g : GW) : ∀ n : Nat, ∀ a0 x1, V g mX1_clear 8 rtU 2 [(0, rf g a0), (1, .int x1)] [] (f_X1_clear_b2 n a0 x1) := by
  intro n
  induction n with
  | zero => intro a0 x1; exact V.vain
  | succ n ih =>
    intro a0 x1
    unfold f_X1_clear_b2
    refine v_iload_n (pc' := 3) 1 dX1_clear_2 rfl rfl rfl ?_
    refine v_bipush (v := 8) (pc' := 5) dX1_clear_3 rfl rfl ?_
    refine v_icmpge (t := 21) (pc' := 8) dX1_clear_5 (by decide) rfl ?_ ?_
    · refine v_aload_n (pc' := 22) 0 dX1_clear_21 rfl rfl rfl ?_
      refine v_iconst (v := 0) (pc' := 23) dX1_clear_22 rfl rfl ?_
      refine v_put (v := (.int 0)) (v' := .int 0) (pc' := 26) fw_X1_28 rfl rfl rfl (fun h => nomatch h) dX1_clear_23 rfl ?_
      refine v_aload_n (pc' := 27) 0 dX1_clear_26 rfl rfl rfl ?_
      refine v_ldc2 (v := -1) (pc' := 30) (tg1 181 (by decide +kernel) (by decide +kernel)) dX1_clear_27 rfl ?_
      refine v_put (v := (.long (-1))) (v' := .long (-1)) (pc' := 33) fw_X1_34 rfl rfl rfl (fun h => nomatch h) dX1_clear_30 rfl ?_
      exact v_return rfl dX1_clear_33
    · refine v_aload_n (pc' := 9) 0 dX1_clear_8 rfl rfl rfl ?_
      refine v_getR (pc' := 12) fl_X1_15 dX1_clear_9 rfl fun r1 => ?_
      refine v_iload_n (pc' := 13) 1 dX1_clear_12 rfl rfl rfl ?_
      refine v_iconst (v := -1) (pc' := 14) dX1_clear_13 rfl rfl ?_
      refine v_iast (pc' := 15) dX1_clear_14 rfl ?_
      refine v_iinc (v := x1 + 1) (lv' := [(1, .int (x1 + 1)), (0, rf g a0)]) (pc' := 18) 1 dX1_clear_15 rfl rfl (by decide) rfl rfl ?_
      refine v_goto (t := 2) dX1_clear_18 (by decide) ?_
      refine V.sub [1, 0] rfl ?_
      exact ih a0 (x1 + 1)
set_option maxRecDepth 20000 in
theorem h_X1_clear (g : GW) (a0 : Nat) : V g mX1_clear 8 rtU 0 [(0, rf g a0)] [] (f_X1_clear a0) := by
  unfold f_X1_clear
  refine v_iconst (v := 0) (pc' := 1) dX1_clear_0 rfl rfl ?_
  refine v_istore_n (lv' := [(1, .int 0), (0, rf g a0)]) (pc' := 2) dX1_clear_1 rfl (by decide) rfl rfl ?_
  refine V.sub [1, 0] rfl ?_
  exact h_X1_clear_b2 g NF a0 0
-- <init>
def f_X1_init (a0 : Nat) (a1 : Nat) : Mo Unit := bd (pf 1 0 a0 (.ref a1)) fun _ => bd (nA 0 8) fun r1 => bd (pf 1 1 a0 (.ref r1)) fun _ => bd (nA 0 8) fun r2 => bd (pf 1 2 a0 (.ref r2)) fun _ => bd (nA 0 7) fun r3 => bd (pf 1 3 a0 (.ref r3)) fun _ => bd (cv 1 a0 (f_X1_clear a0)) fun _ => pu ()
set_option maxRecDepth 20000 in
theorem h_X1_init (g : GW) (a0 : Nat) (a1 : Nat) : V g mX1_init 9 rtU 0 [(0, rf g a0), (1, rf g a1)] [] (f_X1_init a0 a1) := by
  unfold f_X1_init
  refine v_aload_n (pc' := 1) 0 dX1_init_0 rfl rfl rfl ?_
  refine v_objInit (pc' := 4) (tg1 176 (by decide +kernel) (by decide +kernel)) wo_inst wo_code (by omega) (Nat.le_of_ble_eq_true rfl) dX1_init_1 rfl ?_
  refine v_aload_n (pc' := 5) 0 dX1_init_4 rfl rfl rfl ?_
  refine v_aload_n (pc' := 6) 1 dX1_init_5 rfl rfl rfl ?_
  refine v_put (v := (.ref a1)) (v' := rf g a1) (pc' := 9) fw_X1_9 rfl rfl rfl (fun _ => rfl) dX1_init_6 rfl ?_
  refine v_aload_n (pc' := 10) 0 dX1_init_9 rfl rfl rfl ?_
  refine v_bipush (v := 8) (pc' := 12) dX1_init_10 rfl rfl ?_
  refine v_newI (pc' := 14) wa_int dX1_init_12 rfl fun r1 => ?_
  refine v_put (v := (.ref r1)) (v' := rf g r1) (pc' := 17) fw_X1_15 rfl rfl rfl (fun _ => rfl) dX1_init_14 rfl ?_
  refine v_aload_n (pc' := 18) 0 dX1_init_17 rfl rfl rfl ?_
  refine v_bipush (v := 8) (pc' := 20) dX1_init_18 rfl rfl ?_
  refine v_newI (pc' := 22) wa_int dX1_init_20 rfl fun r2 => ?_
  refine v_put (v := (.ref r2)) (v' := rf g r2) (pc' := 25) fw_X1_19 rfl rfl rfl (fun _ => rfl) dX1_init_22 rfl ?_
  refine v_aload_n (pc' := 26) 0 dX1_init_25 rfl rfl rfl ?_
  refine v_bipush (v := 7) (pc' := 28) dX1_init_26 rfl rfl ?_
  refine v_newI (pc' := 30) wa_int dX1_init_28 rfl fun r3 => ?_
  refine v_put (v := (.ref r3)) (v' := rf g r3) (pc' := 33) fw_X1_22 rfl rfl rfl (fun _ => rfl) dX1_init_30 rfl ?_
  refine v_aload_n (pc' := 34) 0 dX1_init_33 rfl rfl rfl ?_
  refine v_callV (vs := []) (pc' := 37) (h_X1_clear g a0) mv_X1_clear wl_X1_25 rfl (Nat.le_of_ble_eq_true rfl) (by omega) (by decide) (Nat.le_of_ble_eq_true rfl) rfl dX1_init_34 rfl fun _ => ?_
  exact v_return rfl dX1_init_37
-- readLine
def f_X1_readLine (a0 : Nat) (a1 : Nat) : Mo Int32 := bd (gR 1 0 a0) fun r1 => bd (gI 2 4 r1) fun v2 => bd (cv 8 a1 (f_X8_number a1 (v2 - (1 : Int32)))) fun v3 => if (v3 = (-1) : Prop) then (pu 0) else bd (gR 1 2 a0) fun r4 => bd (al 0 r4 v3) fun v5 => if (v5 = (-1) : Prop) then (bd (gR 1 2 a0) fun r6 => bd (cv 8 a1 (f_X8_number a1 6)) fun v7 => bd (as_ r6 v3 v7) fun _ => bd (gR 1 2 a0) fun r8 => bd (al 0 r8 v3) fun v9 => if (v9 = (-1) : Prop) then (pu 0) else bd (cv 8 a1 (f_X8_need a1 59)) fun v10 => if (v10 = 0 : Prop) then (pu 0) else pu 1) else bd (gI 8 4 a1) fun v11 => bd (cv 8 a1 (f_X8_fail a1 2 v11)) fun v12 => rz v12
set_option maxRecDepth 20000 in
theorem h_X1_readLine (g : GW) (a0 : Nat) (a1 : Nat) : V g mX1_readLine 10 rtI 0 [(0, rf g a0), (1, rf g a1)] [] (f_X1_readLine a0 a1) := by
  unfold f_X1_readLine
  refine v_aload_n (pc' := 1) 1 dX1_readLine_0 rfl rfl rfl ?_
  refine v_aload_n (pc' := 2) 0 dX1_readLine_1 rfl rfl rfl ?_
  refine v_getR (pc' := 5) fl_X1_9 dX1_readLine_2 rfl fun r1 => ?_
  refine v_getI (pc' := 8) fl_X1_58 dX1_readLine_5 rfl fun v2 => ?_
  refine v_iconst (v := 1) (pc' := 9) dX1_readLine_8 rfl rfl ?_
  refine v_isub (pc' := 10) dX1_readLine_9 rfl ?_
  refine v_callV (vs := [.int (v2 - (1 : Int32))]) (pc' := 13) (h_X8_number g a1 (v2 - (1 : Int32))) mv_X8_number wl_X1_63 rfl (Nat.le_of_ble_eq_true rfl) (by omega) (by decide) (Nat.le_of_ble_eq_true rfl) rfl dX1_readLine_10 rfl fun v3 => ?_
  refine v_istore_n (lv' := [(2, .int v3), (0, rf g a0), (1, rf g a1)]) (pc' := 14) dX1_readLine_13 rfl (by decide) rfl rfl ?_
  refine v_iload_n (pc' := 15) 0 dX1_readLine_14 rfl rfl rfl ?_
  refine v_iconst (v := -1) (pc' := 16) dX1_readLine_15 rfl rfl ?_
  refine v_icmpne (t := 21) (pc' := 19) dX1_readLine_16 (by decide) rfl ?_ ?_
  · refine v_aload_n (pc' := 22) 1 dX1_readLine_21 rfl rfl rfl ?_
    refine v_getR (pc' := 25) fl_X1_19 dX1_readLine_22 rfl fun r4 => ?_
    refine v_iload_n (pc' := 26) 0 dX1_readLine_25 rfl rfl rfl ?_
    refine v_iald (pc' := 27) dX1_readLine_26 rfl fun v5 => ?_
    refine v_iconst (v := -1) (pc' := 28) dX1_readLine_27 rfl rfl ?_
    refine v_icmpeq (t := 41) (pc' := 31) dX1_readLine_28 (by decide) rfl ?_ ?_
    · refine v_aload_n (pc' := 42) 1 dX1_readLine_41 rfl rfl rfl ?_
      refine v_getR (pc' := 45) fl_X1_19 dX1_readLine_42 rfl fun r6 => ?_
      refine v_iload_n (pc' := 46) 0 dX1_readLine_45 rfl rfl rfl ?_
      refine v_aload_n (pc' := 47) 2 dX1_readLine_46 rfl rfl rfl ?_
      refine v_bipush (v := 6) (pc' := 49) dX1_readLine_47 rfl rfl ?_
      refine v_callV (vs := [.int 6]) (pc' := 52) (h_X8_number g a1 6) mv_X8_number wl_X1_63 rfl (Nat.le_of_ble_eq_true rfl) (by omega) (by decide) (Nat.le_of_ble_eq_true rfl) rfl dX1_readLine_49 rfl fun v7 => ?_
      refine v_iast (pc' := 53) dX1_readLine_52 rfl ?_
      refine v_aload_n (pc' := 54) 1 dX1_readLine_53 rfl rfl rfl ?_
      refine v_getR (pc' := 57) fl_X1_19 dX1_readLine_54 rfl fun r8 => ?_
      refine v_iload_n (pc' := 58) 0 dX1_readLine_57 rfl rfl rfl ?_
      refine v_iald (pc' := 59) dX1_readLine_58 rfl fun v9 => ?_
      refine v_iconst (v := -1) (pc' := 60) dX1_readLine_59 rfl rfl ?_
      refine v_icmpeq (t := 76) (pc' := 63) dX1_readLine_60 (by decide) rfl ?_ ?_
      · refine v_iconst (v := 0) (pc' := 77) dX1_readLine_76 rfl rfl ?_
        exact v_zret rfl rfl dX1_readLine_77
      · refine v_aload_n (pc' := 64) 2 dX1_readLine_63 rfl rfl rfl ?_
        refine v_bipush (v := 59) (pc' := 66) dX1_readLine_64 rfl rfl ?_
        refine v_callV (vs := [.int 59]) (pc' := 69) (h_X8_need g a1 59) mv_X8_need wl_X1_74 rfl (Nat.le_of_ble_eq_true rfl) (by omega) (by decide) (Nat.le_of_ble_eq_true rfl) rfl dX1_readLine_66 rfl fun v10 => ?_
        refine v_ifeq (t := 76) (pc' := 72) dX1_readLine_69 (by decide) rfl ?_ ?_
        · refine v_iconst (v := 0) (pc' := 77) dX1_readLine_76 rfl rfl ?_
          exact v_zret rfl rfl dX1_readLine_77
        · refine v_iconst (v := 1) (pc' := 73) dX1_readLine_72 rfl rfl ?_
          refine v_goto (t := 77) dX1_readLine_73 (by decide) ?_
          exact v_zret rfl rfl dX1_readLine_77
    · refine v_aload_n (pc' := 32) 2 dX1_readLine_31 rfl rfl rfl ?_
      refine v_iconst (v := 2) (pc' := 33) dX1_readLine_32 rfl rfl ?_
      refine v_aload_n (pc' := 34) 2 dX1_readLine_33 rfl rfl rfl ?_
      refine v_getI (pc' := 37) fl_X1_67 dX1_readLine_34 rfl fun v11 => ?_
      refine v_callV (vs := [.int 2, .int v11]) (pc' := 40) (h_X8_fail g a1 2 v11) mv_X8_fail wl_X1_70 rfl (Nat.le_of_ble_eq_true rfl) (by omega) (by decide) (Nat.le_of_ble_eq_true rfl) rfl dX1_readLine_37 rfl fun v12 => ?_
      exact v_zretV rfl dX1_readLine_40
  · refine v_iconst (v := 0) (pc' := 20) dX1_readLine_19 rfl rfl ?_
    exact v_zret rfl rfl dX1_readLine_20
-- inCommon
def f_X1_inCommon (a0 : Nat) (x1 : Int32) (x2 : Int32) : Mo Int32 := bd (gR 1 0 a0) fun r1 => bd (gR 2 0 r1) fun r2 => bd (al 0 r2 x1) fun v3 => pu ((6 : Int32) - (bc32 (v3 ^^^ x2)))
set_option maxRecDepth 20000 in
theorem h_X1_inCommon (g : GW) (a0 : Nat) (x1 : Int32) (x2 : Int32) : V g mX1_inCommon 8 rtI 0 [(0, rf g a0), (1, .int x1), (2, .int x2)] [] (f_X1_inCommon a0 x1 x2) := by
  unfold f_X1_inCommon
  refine v_bipush (v := 6) (pc' := 2) dX1_inCommon_0 rfl rfl ?_
  refine v_aload_n (pc' := 3) 0 dX1_inCommon_2 rfl rfl rfl ?_
  refine v_getR (pc' := 6) fl_X1_9 dX1_inCommon_3 rfl fun r1 => ?_
  refine v_getR (pc' := 9) fl_X1_77 dX1_inCommon_6 rfl fun r2 => ?_
  refine v_iload_n (pc' := 10) 1 dX1_inCommon_9 rfl rfl rfl ?_
  refine v_iald (pc' := 11) dX1_inCommon_10 rfl fun v3 => ?_
  refine v_iload_n (pc' := 12) 2 dX1_inCommon_11 rfl rfl rfl ?_
  refine v_ixor (pc' := 13) dX1_inCommon_12 rfl ?_
  refine v_bc32 (pc' := 16) (by omega) (tg4 192 (by decide +kernel) (by decide +kernel)) (Nat.le_of_ble_eq_true rfl) rfl dX1_inCommon_13 rfl ?_
  refine v_isub (pc' := 17) dX1_inCommon_16 rfl ?_
  exact v_ireturn rfl dX1_inCommon_17
-- agrees
def f_X1_agrees_b40 (k2 : Nat → Int32 → Int32 → Mo Int32) (a0 : Nat) (x1 : Int32) (x2 : Int32) : Mo Int32 := k2 a0 x1 (x2 + 1)
def f_X1_agrees_b2 : Nat → Nat → Int32 → Int32 → Mo Int32
  | 0, _, _, _ => fl
  | n + 1, a0, x1, x2 => bd (gR 1 0 a0) fun r1 => bd (gI 2 4 r1) fun v2 => if (v2 ≤ x2 : Prop) then (pu 1) else bd (gR 1 1 a0) fun r3 => bd (al 0 r3 x2) fun v4 => if (v4 = (-1) : Prop) then (f_X1_agrees_b40 (f_X1_agrees_b2 n) a0 x1 x2) else bd (gR 1 1 a0) fun r5 => bd (al 0 r5 x2) fun v6 => bd (cv 1 a0 (f_X1_inCommon a0 x2 x1)) fun v7 => if (v6 = v7 : Prop) then (f_X1_agrees_b40 (f_X1_agrees_b2 n) a0 x1 x2) else pu 0
def f_X1_agrees (a0 : Nat) (x1 : Int32) : Mo Int32 := f_X1_agrees_b2 NF a0 x1 0
set_option maxRecDepth 20000 in
theorem h_X1_agrees_b40 (g : GW) (k2 : Nat → Int32 → Int32 → Mo Int32) (hk2 : ∀ a0 x1 x2, V g mX1_agrees 9 rtI 2 [(0, rf g a0), (1, .int x1), (2, .int x2)] [] (k2 a0 x1 x2)) (a0 : Nat) (x1 : Int32) (x2 : Int32) : V g mX1_agrees 9 rtI 40 [(0, rf g a0), (1, .int x1), (2, .int x2)] [] (f_X1_agrees_b40 k2 a0 x1 x2) := by
  unfold f_X1_agrees_b40
  refine v_iinc (v := x2 + 1) (lv' := [(2, .int (x2 + 1)), (0, rf g a0), (1, .int x1)]) (pc' := 43) 2 dX1_agrees_40 rfl rfl (by decide) rfl rfl ?_
  refine v_goto (t := 2) dX1_agrees_43 (by decide) ?_
  refine V.sub [1, 2, 0] rfl ?_
  exact hk2 a0 x1 (x2 + 1)
set_option maxRecDepth 20000 in
theorem h_X1_agrees_b2 (g : GW) : ∀ n : Nat, ∀ a0 x1 x2, V g mX1_agrees 9 rtI 2 [(0, rf g a0), (1, .int x1), (2, .int x2)] [] (f_X1_agrees_b2 n a0 x1 x2) := by
  intro n
  induction n with
  | zero => intro a0 x1 x2; exact V.vain
  | succ n ih =>
    intro a0 x1 x2
    unfold f_X1_agrees_b2
    refine v_iload_n (pc' := 3) 2 dX1_agrees_2 rfl rfl rfl ?_
    refine v_aload_n (pc' := 4) 0 dX1_agrees_3 rfl rfl rfl ?_
    refine v_getR (pc' := 7) fl_X1_9 dX1_agrees_4 rfl fun r1 => ?_
    refine v_getI (pc' := 10) fl_X1_58 dX1_agrees_7 rfl fun v2 => ?_
    refine v_icmpge (t := 46) (pc' := 13) dX1_agrees_10 (by decide) rfl ?_ ?_
    · refine v_iconst (v := 1) (pc' := 47) dX1_agrees_46 rfl rfl ?_
      exact v_zret rfl rfl dX1_agrees_47
    · refine v_aload_n (pc' := 14) 0 dX1_agrees_13 rfl rfl rfl ?_
      refine v_getR (pc' := 17) fl_X1_15 dX1_agrees_14 rfl fun r3 => ?_
      refine v_iload_n (pc' := 18) 2 dX1_agrees_17 rfl rfl rfl ?_
      refine v_iald (pc' := 19) dX1_agrees_18 rfl fun v4 => ?_
      refine v_iconst (v := -1) (pc' := 20) dX1_agrees_19 rfl rfl ?_
      refine v_icmpeq (t := 40) (pc' := 23) dX1_agrees_20 (by decide) rfl ?_ ?_
      · refine V.sub [0, 1, 2] rfl ?_
        exact h_X1_agrees_b40 g (f_X1_agrees_b2 n) ih a0 x1 x2
      · refine v_aload_n (pc' := 24) 0 dX1_agrees_23 rfl rfl rfl ?_
        refine v_getR (pc' := 27) fl_X1_15 dX1_agrees_24 rfl fun r5 => ?_
        refine v_iload_n (pc' := 28) 2 dX1_agrees_27 rfl rfl rfl ?_
        refine v_iald (pc' := 29) dX1_agrees_28 rfl fun v6 => ?_
        refine v_aload_n (pc' := 30) 0 dX1_agrees_29 rfl rfl rfl ?_
        refine v_iload_n (pc' := 31) 2 dX1_agrees_30 rfl rfl rfl ?_
        refine v_iload_n (pc' := 32) 1 dX1_agrees_31 rfl rfl rfl ?_
        refine v_callV (vs := [.int x2, .int x1]) (pc' := 35) (h_X1_inCommon g a0 x2 x1) mv_X1_inCommon wl_X1_85 rfl (Nat.le_of_ble_eq_true rfl) (by omega) (by decide) (Nat.le_of_ble_eq_true rfl) rfl dX1_agrees_32 rfl fun v7 => ?_
        refine v_icmpeq (t := 40) (pc' := 38) dX1_agrees_35 (by decide) rfl ?_ ?_
        · refine V.sub [0, 1, 2] rfl ?_
          exact h_X1_agrees_b40 g (f_X1_agrees_b2 n) ih a0 x1 x2
        · refine v_iconst (v := 0) (pc' := 39) dX1_agrees_38 rfl rfl ?_
          exact v_zret rfl rfl dX1_agrees_39
set_option maxRecDepth 20000 in
theorem h_X1_agrees (g : GW) (a0 : Nat) (x1 : Int32) : V g mX1_agrees 9 rtI 0 [(0, rf g a0), (1, .int x1)] [] (f_X1_agrees a0 x1) := by
  unfold f_X1_agrees
  refine v_iconst (v := 0) (pc' := 1) dX1_agrees_0 rfl rfl ?_
  refine v_istore_n (lv' := [(2, .int 0), (0, rf g a0), (1, .int x1)]) (pc' := 2) dX1_agrees_1 rfl (by decide) rfl rfl ?_
  refine V.sub [1, 2, 0] rfl ?_
  exact h_X1_agrees_b2 g NF a0 x1 0
-- read
def f_X1_read_b105 (k79 : Nat → Int32 → Mo Int32) (a0 : Nat) (x3 : Int32) : Mo Int32 := k79 a0 (x3 + 1)
def f_X1_read_b79 : Nat → Nat → Int32 → Mo Int32
  | 0, _, _ => fl
  | n + 1, a0, x3 => if (64 ≤ x3 : Prop) then (pu 1) else bd (cv 1 a0 (f_X1_agrees a0 x3)) fun v1 => if (v1 = 0 : Prop) then (f_X1_read_b105 (f_X1_read_b79 n) a0 x3) else bd (gJ 1 5 a0) fun w2 => bd (pf 1 5 a0 (.long (w2 ||| ((1 : Int64) <<< (Int32.toInt64 x3 &&& 63))))) fun _ => f_X1_read_b105 (f_X1_read_b79 n) a0 x3
def f_X1_read_b52 (a0 : Nat) (x2 : Int32) : Mo Int32 := bd (gR 1 2 a0) fun r3 => bd (gR 1 1 a0) fun r4 => bd (cp_ r3 0 r4 0 8) fun _ => bd (pf 1 4 a0 (.int x2)) fun _ => bd (pf 1 5 a0 (.long 0)) fun _ => f_X1_read_b79 NF a0 0
def f_X1_read_b23 : Nat → Nat → Nat → Int32 → Mo Int32
  | 0, _, _, _ => fl
  | n + 1, a0, a1, x2 => if (8 < x2 : Prop) then (f_X1_read_b52 a0 x2) else bd (cv 8 a1 (f_X8_atEnd a1)) fun v5 => if (v5 = 0 : Prop) then (bd (cv 1 a0 (f_X1_readLine a0 a1)) fun v6 => if (v6 = 0 : Prop) then (pu 0) else (f_X1_read_b23 n) a0 a1 (x2 + 1)) else f_X1_read_b52 a0 x2
def f_X1_read_b2 : Nat → Nat → Nat → Int32 → Mo Int32
  | 0, _, _, _ => fl
  | n + 1, a0, a1, x2 => if (8 ≤ x2 : Prop) then (f_X1_read_b23 NF a0 a1 0) else bd (gR 1 2 a0) fun r7 => bd (as_ r7 x2 (-1)) fun _ => (f_X1_read_b2 n) a0 a1 (x2 + 1)
def f_X1_read (a0 : Nat) (a1 : Nat) : Mo Int32 := f_X1_read_b2 NF a0 a1 0
set_option maxRecDepth 20000 in
theorem h_X1_read_b105 (g : GW) (k79 : Nat → Int32 → Mo Int32) (hk79 : ∀ a0 x3, V g mX1_read 11 rtI 79 [(0, rf g a0), (3, .int x3)] [] (k79 a0 x3)) (a0 : Nat) (x3 : Int32) : V g mX1_read 11 rtI 105 [(0, rf g a0), (3, .int x3)] [] (f_X1_read_b105 k79 a0 x3) := by
  unfold f_X1_read_b105
  refine v_iinc (v := x3 + 1) (lv' := [(3, .int (x3 + 1)), (0, rf g a0)]) (pc' := 108) 1 dX1_read_105 rfl rfl (by decide) rfl rfl ?_
  refine v_goto (t := 79) dX1_read_108 (by decide) ?_
  refine V.sub [1, 0] rfl ?_
  exact hk79 a0 (x3 + 1)
set_option maxRecDepth 20000 in
theorem h_X1_read_b79 (g : GW) : ∀ n : Nat, ∀ a0 x3, V g mX1_read 11 rtI 79 [(0, rf g a0), (3, .int x3)] [] (f_X1_read_b79 n a0 x3) := by
  intro n
  induction n with
  | zero => intro a0 x3; exact V.vain
  | succ n ih =>
    intro a0 x3
    unfold f_X1_read_b79
    refine v_iload_n (pc' := 80) 1 dX1_read_79 rfl rfl rfl ?_
    refine v_bipush (v := 64) (pc' := 82) dX1_read_80 rfl rfl ?_
    refine v_icmpge (t := 111) (pc' := 85) dX1_read_82 (by decide) rfl ?_ ?_
    · refine v_iconst (v := 1) (pc' := 112) dX1_read_111 rfl rfl ?_
      exact v_zret rfl rfl dX1_read_112
    · refine v_aload_n (pc' := 86) 0 dX1_read_85 rfl rfl rfl ?_
      refine v_iload_n (pc' := 87) 1 dX1_read_86 rfl rfl rfl ?_
      refine v_callV (vs := [.int x3]) (pc' := 90) (h_X1_agrees g a0 x3) mv_X1_agrees wl_X1_54 rfl (Nat.le_of_ble_eq_true rfl) (by omega) (by decide) (Nat.le_of_ble_eq_true rfl) rfl dX1_read_87 rfl fun v1 => ?_
      refine v_ifeq (t := 105) (pc' := 93) dX1_read_90 (by decide) rfl ?_ ?_
      · refine V.sub [0, 1] rfl ?_
        exact h_X1_read_b105 g (f_X1_read_b79 n) ih a0 x3
      · refine v_aload_n (pc' := 94) 0 dX1_read_93 rfl rfl rfl ?_
        refine v_dup (pc' := 95) dX1_read_94 rfl rfl ?_
        refine v_getJ (pc' := 98) fl_X1_34 dX1_read_95 rfl fun w2 => ?_
        refine v_lconst (v := 1) (pc' := 99) dX1_read_98 rfl rfl ?_
        refine v_iload_n (pc' := 100) 1 dX1_read_99 rfl rfl rfl ?_
        refine v_lshl (pc' := 101) dX1_read_100 rfl ?_
        refine v_lor (pc' := 102) dX1_read_101 rfl ?_
        refine v_put (v := (.long (w2 ||| ((1 : Int64) <<< (Int32.toInt64 x3 &&& 63))))) (v' := .long (w2 ||| ((1 : Int64) <<< (Int32.toInt64 x3 &&& 63)))) (pc' := 105) fw_X1_34 rfl rfl rfl (fun h => nomatch h) dX1_read_102 rfl ?_
        refine V.sub [0, 1] rfl ?_
        exact h_X1_read_b105 g (f_X1_read_b79 n) ih a0 x3
set_option maxRecDepth 20000 in
theorem h_X1_read_b52 (g : GW) (a0 : Nat) (x2 : Int32) : V g mX1_read 11 rtI 52 [(0, rf g a0), (2, .int x2)] [] (f_X1_read_b52 a0 x2) := by
  unfold f_X1_read_b52
  refine v_aload_n (pc' := 53) 0 dX1_read_52 rfl rfl rfl ?_
  refine v_getR (pc' := 56) fl_X1_19 dX1_read_53 rfl fun r3 => ?_
  refine v_iconst (v := 0) (pc' := 57) dX1_read_56 rfl rfl ?_
  refine v_aload_n (pc' := 58) 0 dX1_read_57 rfl rfl rfl ?_
  refine v_getR (pc' := 61) fl_X1_15 dX1_read_58 rfl fun r4 => ?_
  refine v_iconst (v := 0) (pc' := 62) dX1_read_61 rfl rfl ?_
  refine v_bipush (v := 8) (pc' := 64) dX1_read_62 rfl rfl ?_
  refine v_copy (pc' := 67) (tg4 183 (by decide +kernel) (by decide +kernel)) wy_nat wy_stat wy_ini (by omega) (Nat.le_of_ble_eq_true rfl) dX1_read_64 rfl ?_
  refine v_aload_n (pc' := 68) 0 dX1_read_67 rfl rfl rfl ?_
  refine v_iload_n (pc' := 69) 1 dX1_read_68 rfl rfl rfl ?_
  refine v_put (v := (.int x2)) (v' := .int x2) (pc' := 72) fw_X1_28 rfl rfl rfl (fun h => nomatch h) dX1_read_69 rfl ?_
  refine v_aload_n (pc' := 73) 0 dX1_read_72 rfl rfl rfl ?_
  refine v_lconst (v := 0) (pc' := 74) dX1_read_73 rfl rfl ?_
  refine v_put (v := (.long 0)) (v' := .long 0) (pc' := 77) fw_X1_34 rfl rfl rfl (fun h => nomatch h) dX1_read_74 rfl ?_
  refine v_iconst (v := 0) (pc' := 78) dX1_read_77 rfl rfl ?_
  refine v_istore_n (lv' := [(3, .int 0), (0, rf g a0), (2, .int x2)]) (pc' := 79) dX1_read_78 rfl (by decide) rfl rfl ?_
  refine V.sub [1, 0] rfl ?_
  exact h_X1_read_b79 g NF a0 0
set_option maxRecDepth 20000 in
theorem h_X1_read_b23 (g : GW) : ∀ n : Nat, ∀ a0 a1 x2, V g mX1_read 11 rtI 23 [(0, rf g a0), (1, rf g a1), (2, .int x2)] [] (f_X1_read_b23 n a0 a1 x2) := by
  intro n
  induction n with
  | zero => intro a0 a1 x2; exact V.vain
  | succ n ih =>
    intro a0 a1 x2
    unfold f_X1_read_b23
    refine v_iload_n (pc' := 24) 2 dX1_read_23 rfl rfl rfl ?_
    refine v_bipush (v := 8) (pc' := 26) dX1_read_24 rfl rfl ?_
    refine v_icmpgt (t := 52) (pc' := 29) dX1_read_26 (by decide) rfl ?_ ?_
    · refine V.sub [0, 2] rfl ?_
      exact h_X1_read_b52 g a0 x2
    · refine v_aload_n (pc' := 30) 1 dX1_read_29 rfl rfl rfl ?_
      refine v_callV (vs := []) (pc' := 33) (h_X8_atEnd g a1) mv_X8_atEnd wl_X1_38 rfl (Nat.le_of_ble_eq_true rfl) (by omega) (by decide) (Nat.le_of_ble_eq_true rfl) rfl dX1_read_30 rfl fun v5 => ?_
      refine v_ifne (t := 52) (pc' := 36) dX1_read_33 (by decide) rfl ?_ ?_
      · refine V.sub [0, 2] rfl ?_
        exact h_X1_read_b52 g a0 x2
      · refine v_aload_n (pc' := 37) 0 dX1_read_36 rfl rfl rfl ?_
        refine v_aload_n (pc' := 38) 1 dX1_read_37 rfl rfl rfl ?_
        refine v_callV (vs := [rf g a1]) (pc' := 41) (h_X1_readLine g a0 a1) mv_X1_readLine wl_X1_44 rfl (Nat.le_of_ble_eq_true rfl) (by omega) (by decide) (Nat.le_of_ble_eq_true rfl) rfl dX1_read_38 rfl fun v6 => ?_
        refine v_ifne (t := 46) (pc' := 44) dX1_read_41 (by decide) rfl ?_ ?_
        · refine v_iinc (v := x2 + 1) (lv' := [(2, .int (x2 + 1)), (0, rf g a0), (1, rf g a1)]) (pc' := 49) 2 dX1_read_46 rfl rfl (by decide) rfl rfl ?_
          refine v_goto (t := 23) dX1_read_49 (by decide) ?_
          refine V.sub [1, 2, 0] rfl ?_
          exact ih a0 a1 (x2 + 1)
        · refine v_iconst (v := 0) (pc' := 45) dX1_read_44 rfl rfl ?_
          exact v_zret rfl rfl dX1_read_45
set_option maxRecDepth 20000 in
theorem h_X1_read_b2 (g : GW) : ∀ n : Nat, ∀ a0 a1 x2, V g mX1_read 11 rtI 2 [(0, rf g a0), (1, rf g a1), (2, .int x2)] [] (f_X1_read_b2 n a0 a1 x2) := by
  intro n
  induction n with
  | zero => intro a0 a1 x2; exact V.vain
  | succ n ih =>
    intro a0 a1 x2
    unfold f_X1_read_b2
    refine v_iload_n (pc' := 3) 2 dX1_read_2 rfl rfl rfl ?_
    refine v_bipush (v := 8) (pc' := 5) dX1_read_3 rfl rfl ?_
    refine v_icmpge (t := 21) (pc' := 8) dX1_read_5 (by decide) rfl ?_ ?_
    · refine v_iconst (v := 0) (pc' := 22) dX1_read_21 rfl rfl ?_
      refine v_istore_n (lv' := [(2, .int 0), (0, rf g a0), (1, rf g a1)]) (pc' := 23) dX1_read_22 rfl (by decide) rfl rfl ?_
      refine V.sub [1, 2, 0] rfl ?_
      exact h_X1_read_b23 g NF a0 a1 0
    · refine v_aload_n (pc' := 9) 0 dX1_read_8 rfl rfl rfl ?_
      refine v_getR (pc' := 12) fl_X1_19 dX1_read_9 rfl fun r7 => ?_
      refine v_iload_n (pc' := 13) 2 dX1_read_12 rfl rfl rfl ?_
      refine v_iconst (v := -1) (pc' := 14) dX1_read_13 rfl rfl ?_
      refine v_iast (pc' := 15) dX1_read_14 rfl ?_
      refine v_iinc (v := x2 + 1) (lv' := [(2, .int (x2 + 1)), (0, rf g a0), (1, rf g a1)]) (pc' := 18) 2 dX1_read_15 rfl rfl (by decide) rfl rfl ?_
      refine v_goto (t := 2) dX1_read_18 (by decide) ?_
      refine V.sub [1, 2, 0] rfl ?_
      exact ih a0 a1 (x2 + 1)
set_option maxRecDepth 20000 in
theorem h_X1_read (g : GW) (a0 : Nat) (a1 : Nat) : V g mX1_read 11 rtI 0 [(0, rf g a0), (1, rf g a1)] [] (f_X1_read a0 a1) := by
  unfold f_X1_read
  refine v_iconst (v := 0) (pc' := 1) dX1_read_0 rfl rfl ?_
  refine v_istore_n (lv' := [(2, .int 0), (0, rf g a0), (1, rf g a1)]) (pc' := 2) dX1_read_1 rfl (by decide) rfl rfl ?_
  refine V.sub [1, 2, 0] rfl ?_
  exact h_X1_read_b2 g NF a0 a1 0
-- fits
def f_X1_fits (a0 : Nat) (x1 : Int32) : Mo Int32 := bd (gJ 1 5 a0) fun w1 => if ((lg_cmp ((w1 >>> (Int32.toInt64 x1 &&& 63)) &&& (1 : Int64)) 1) = 0 : Prop) then (pu 1) else pu 0
set_option maxRecDepth 20000 in
theorem h_X1_fits (g : GW) (a0 : Nat) (x1 : Int32) : V g mX1_fits 8 rtI 0 [(0, rf g a0), (1, .int x1)] [] (f_X1_fits a0 x1) := by
  unfold f_X1_fits
  refine v_aload_n (pc' := 1) 0 dX1_fits_0 rfl rfl rfl ?_
  refine v_getJ (pc' := 4) fl_X1_34 dX1_fits_1 rfl fun w1 => ?_
  refine v_iload_n (pc' := 5) 1 dX1_fits_4 rfl rfl rfl ?_
  refine v_lshr (pc' := 6) dX1_fits_5 rfl ?_
  refine v_lconst (v := 1) (pc' := 7) dX1_fits_6 rfl rfl ?_
  refine v_land (pc' := 8) dX1_fits_7 rfl ?_
  refine v_lconst (v := 1) (pc' := 9) dX1_fits_8 rfl rfl ?_
  refine v_lcmp (pc' := 10) dX1_fits_9 rfl ?_
  refine v_ifne (t := 17) (pc' := 13) dX1_fits_10 (by decide) rfl ?_ ?_
  · refine v_iconst (v := 0) (pc' := 18) dX1_fits_17 rfl rfl ?_
    exact v_zret rfl rfl dX1_fits_18
  · refine v_iconst (v := 1) (pc' := 14) dX1_fits_13 rfl rfl ?_
    refine v_goto (t := 18) dX1_fits_14 (by decide) ?_
    exact v_zret rfl rfl dX1_fits_18
-- leastFace
def f_X1_leastFace_b2 : Nat → Nat → Int32 → Mo Int32
  | 0, _, _ => fl
  | n + 1, a0, x1 => if (64 ≤ x1 : Prop) then (pu (-1)) else bd (cv 1 a0 (f_X1_fits a0 x1)) fun v1 => if (v1 = 0 : Prop) then ((f_X1_leastFace_b2 n) a0 (x1 + 1)) else pu x1
def f_X1_leastFace (a0 : Nat) : Mo Int32 := f_X1_leastFace_b2 NF a0 0
set_option maxRecDepth 20000 in
theorem h_X1_leastFace_b2 (g : GW) : ∀ n : Nat, ∀ a0 x1, V g mX1_leastFace 9 rtI 2 [(0, rf g a0), (1, .int x1)] [] (f_X1_leastFace_b2 n a0 x1) := by
  intro n
  induction n with
  | zero => intro a0 x1; exact V.vain
  | succ n ih =>
    intro a0 x1
    unfold f_X1_leastFace_b2
    refine v_iload_n (pc' := 3) 1 dX1_leastFace_2 rfl rfl rfl ?_
    refine v_bipush (v := 64) (pc' := 5) dX1_leastFace_3 rfl rfl ?_
    refine v_icmpge (t := 24) (pc' := 8) dX1_leastFace_5 (by decide) rfl ?_ ?_
    · refine v_iconst (v := -1) (pc' := 25) dX1_leastFace_24 rfl rfl ?_
      exact v_ireturn rfl dX1_leastFace_25
    · refine v_aload_n (pc' := 9) 0 dX1_leastFace_8 rfl rfl rfl ?_
      refine v_iload_n (pc' := 10) 1 dX1_leastFace_9 rfl rfl rfl ?_
      refine v_callV (vs := [.int x1]) (pc' := 13) (h_X1_fits g a0 x1) mv_X1_fits wl_X1_89 rfl (Nat.le_of_ble_eq_true rfl) (by omega) (by decide) (Nat.le_of_ble_eq_true rfl) rfl dX1_leastFace_10 rfl fun v1 => ?_
      refine v_ifeq (t := 18) (pc' := 16) dX1_leastFace_13 (by decide) rfl ?_ ?_
      · refine v_iinc (v := x1 + 1) (lv' := [(1, .int (x1 + 1)), (0, rf g a0)]) (pc' := 21) 1 dX1_leastFace_18 rfl rfl (by decide) rfl rfl ?_
        refine v_goto (t := 2) dX1_leastFace_21 (by decide) ?_
        refine V.sub [1, 0] rfl ?_
        exact ih a0 (x1 + 1)
      · refine v_iload_n (pc' := 17) 1 dX1_leastFace_16 rfl rfl rfl ?_
        exact v_ireturn rfl dX1_leastFace_17
set_option maxRecDepth 20000 in
theorem h_X1_leastFace (g : GW) (a0 : Nat) : V g mX1_leastFace 9 rtI 0 [(0, rf g a0)] [] (f_X1_leastFace a0) := by
  unfold f_X1_leastFace
  refine v_iconst (v := 0) (pc' := 1) dX1_leastFace_0 rfl rfl ?_
  refine v_istore_n (lv' := [(1, .int 0), (0, rf g a0)]) (pc' := 2) dX1_leastFace_1 rfl (by decide) rfl rfl ?_
  refine V.sub [1, 0] rfl ?_
  exact h_X1_leastFace_b2 g NF a0 0
-- sureMarks
def f_X1_sureMarks_b46 (k18 : Nat → Int32 → Int32 → Int32 → Mo Int32) (a0 : Nat) (x1 : Int32) (x2 : Int32) (x3 : Int32) : Mo Int32 := k18 a0 x1 x2 (x3 + 1)
def f_X1_sureMarks_b44 (k18 : Nat → Int32 → Int32 → Int32 → Mo Int32) (a0 : Nat) (x1 : Int32) (x3 : Int32) (xs0 : Int32) (xs1 : Int32) : Mo Int32 := f_X1_sureMarks_b46 k18 a0 x1 (xs1 &&& xs0) x3
def f_X1_sureMarks_b18 : Nat → Nat → Int32 → Int32 → Int32 → Mo Int32
  | 0, _, _, _, _ => fl
  | n + 1, a0, x1, x2, x3 => if (64 ≤ x3 : Prop) then (pu x2) else bd (cv 1 a0 (f_X1_fits a0 x3)) fun v1 => if (v1 = 0 : Prop) then (f_X1_sureMarks_b46 (f_X1_sureMarks_b18 n) a0 x1 x2 x3) else if (x1 = 0 : Prop) then (f_X1_sureMarks_b44 (f_X1_sureMarks_b18 n) a0 x1 x3 x3 x2) else f_X1_sureMarks_b44 (f_X1_sureMarks_b18 n) a0 x1 x3 (x3 ^^^ (-1 : Int32)) x2
def f_X1_sureMarks_b15 (a0 : Nat) (x1 : Int32) (xs0 : Int32) : Mo Int32 := f_X1_sureMarks_b18 NF a0 x1 xs0 0
def f_X1_sureMarks (a0 : Nat) (x1 : Int32) : Mo Int32 := bd (gJ 1 5 a0) fun w2 => if ((lg_cmp w2 0) = 0 : Prop) then (f_X1_sureMarks_b15 a0 x1 0) else f_X1_sureMarks_b15 a0 x1 63
set_option maxRecDepth 20000 in
theorem h_X1_sureMarks_b46 (g : GW) (k18 : Nat → Int32 → Int32 → Int32 → Mo Int32) (hk18 : ∀ a0 x1 x2 x3, V g mX1_sureMarks 9 rtI 18 [(0, rf g a0), (1, .int x1), (2, .int x2), (3, .int x3)] [] (k18 a0 x1 x2 x3)) (a0 : Nat) (x1 : Int32) (x2 : Int32) (x3 : Int32) : V g mX1_sureMarks 9 rtI 46 [(0, rf g a0), (1, .int x1), (2, .int x2), (3, .int x3)] [] (f_X1_sureMarks_b46 k18 a0 x1 x2 x3) := by
  unfold f_X1_sureMarks_b46
  refine v_iinc (v := x3 + 1) (lv' := [(3, .int (x3 + 1)), (0, rf g a0), (1, .int x1), (2, .int x2)]) (pc' := 49) 3 dX1_sureMarks_46 rfl rfl (by decide) rfl rfl ?_
  refine v_goto (t := 18) dX1_sureMarks_49 (by decide) ?_
  refine V.sub [1, 2, 3, 0] rfl ?_
  exact hk18 a0 x1 x2 (x3 + 1)
set_option maxRecDepth 20000 in
theorem h_X1_sureMarks_b44 (g : GW) (k18 : Nat → Int32 → Int32 → Int32 → Mo Int32) (hk18 : ∀ a0 x1 x2 x3, V g mX1_sureMarks 9 rtI 18 [(0, rf g a0), (1, .int x1), (2, .int x2), (3, .int x3)] [] (k18 a0 x1 x2 x3)) (a0 : Nat) (x1 : Int32) (x3 : Int32) (xs0 : Int32) (xs1 : Int32) : V g mX1_sureMarks 9 rtI 44 [(0, rf g a0), (1, .int x1), (3, .int x3)] [.int xs0, .int xs1] (f_X1_sureMarks_b44 k18 a0 x1 x3 xs0 xs1) := by
  unfold f_X1_sureMarks_b44
  refine v_iand (pc' := 45) dX1_sureMarks_44 rfl ?_
  refine v_istore_n (lv' := [(2, .int (xs1 &&& xs0)), (0, rf g a0), (1, .int x1), (3, .int x3)]) (pc' := 46) dX1_sureMarks_45 rfl (by decide) rfl rfl ?_
  refine V.sub [1, 2, 0, 3] rfl ?_
  exact h_X1_sureMarks_b46 g k18 hk18 a0 x1 (xs1 &&& xs0) x3
set_option maxRecDepth 20000 in
theorem h_X1_sureMarks_b18 (g : GW) : ∀ n : Nat, ∀ a0 x1 x2 x3, V g mX1_sureMarks 9 rtI 18 [(0, rf g a0), (1, .int x1), (2, .int x2), (3, .int x3)] [] (f_X1_sureMarks_b18 n a0 x1 x2 x3) := by
  intro n
  induction n with
  | zero => intro a0 x1 x2 x3; exact V.vain
  | succ n ih =>
    intro a0 x1 x2 x3
    unfold f_X1_sureMarks_b18
    refine v_iload_n (pc' := 19) 3 dX1_sureMarks_18 rfl rfl rfl ?_
    refine v_bipush (v := 64) (pc' := 21) dX1_sureMarks_19 rfl rfl ?_
    refine v_icmpge (t := 52) (pc' := 24) dX1_sureMarks_21 (by decide) rfl ?_ ?_
    · refine v_iload_n (pc' := 53) 2 dX1_sureMarks_52 rfl rfl rfl ?_
      exact v_ireturn rfl dX1_sureMarks_53
    · refine v_aload_n (pc' := 25) 0 dX1_sureMarks_24 rfl rfl rfl ?_
      refine v_iload_n (pc' := 26) 3 dX1_sureMarks_25 rfl rfl rfl ?_
      refine v_callV (vs := [.int x3]) (pc' := 29) (h_X1_fits g a0 x3) mv_X1_fits wl_X1_89 rfl (Nat.le_of_ble_eq_true rfl) (by omega) (by decide) (Nat.le_of_ble_eq_true rfl) rfl dX1_sureMarks_26 rfl fun v1 => ?_
      refine v_ifeq (t := 46) (pc' := 32) dX1_sureMarks_29 (by decide) rfl ?_ ?_
      · refine V.sub [0, 1, 2, 3] rfl ?_
        exact h_X1_sureMarks_b46 g (f_X1_sureMarks_b18 n) ih a0 x1 x2 x3
      · refine v_iload_n (pc' := 33) 2 dX1_sureMarks_32 rfl rfl rfl ?_
        refine v_iload_n (pc' := 34) 1 dX1_sureMarks_33 rfl rfl rfl ?_
        refine v_ifeq (t := 43) (pc' := 37) dX1_sureMarks_34 (by decide) rfl ?_ ?_
        · refine v_iload_n (pc' := 44) 3 dX1_sureMarks_43 rfl rfl rfl ?_
          refine V.sub [0, 1, 3] rfl ?_
          exact h_X1_sureMarks_b44 g (f_X1_sureMarks_b18 n) ih a0 x1 x3 x3 x2
        · refine v_iload_n (pc' := 38) 3 dX1_sureMarks_37 rfl rfl rfl ?_
          refine v_iconst (v := -1) (pc' := 39) dX1_sureMarks_38 rfl rfl ?_
          refine v_ixor (pc' := 40) dX1_sureMarks_39 rfl ?_
          refine v_goto (t := 44) dX1_sureMarks_40 (by decide) ?_
          refine V.sub [0, 1, 3] rfl ?_
          exact h_X1_sureMarks_b44 g (f_X1_sureMarks_b18 n) ih a0 x1 x3 (x3 ^^^ (-1 : Int32)) x2
set_option maxRecDepth 20000 in
theorem h_X1_sureMarks_b15 (g : GW) (a0 : Nat) (x1 : Int32) (xs0 : Int32) : V g mX1_sureMarks 9 rtI 15 [(0, rf g a0), (1, .int x1)] [.int xs0] (f_X1_sureMarks_b15 a0 x1 xs0) := by
  unfold f_X1_sureMarks_b15
  refine v_istore_n (lv' := [(2, .int xs0), (0, rf g a0), (1, .int x1)]) (pc' := 16) dX1_sureMarks_15 rfl (by decide) rfl rfl ?_
  refine v_iconst (v := 0) (pc' := 17) dX1_sureMarks_16 rfl rfl ?_
  refine v_istore_n (lv' := [(3, .int 0), (2, .int xs0), (0, rf g a0), (1, .int x1)]) (pc' := 18) dX1_sureMarks_17 rfl (by decide) rfl rfl ?_
  refine V.sub [2, 3, 1, 0] rfl ?_
  exact h_X1_sureMarks_b18 g NF a0 x1 xs0 0
set_option maxRecDepth 20000 in
theorem h_X1_sureMarks (g : GW) (a0 : Nat) (x1 : Int32) : V g mX1_sureMarks 9 rtI 0 [(0, rf g a0), (1, .int x1)] [] (f_X1_sureMarks a0 x1) := by
  unfold f_X1_sureMarks
  refine v_aload_n (pc' := 1) 0 dX1_sureMarks_0 rfl rfl rfl ?_
  refine v_getJ (pc' := 4) fl_X1_34 dX1_sureMarks_1 rfl fun w2 => ?_
  refine v_lconst (v := 0) (pc' := 5) dX1_sureMarks_4 rfl rfl ?_
  refine v_lcmp (pc' := 6) dX1_sureMarks_5 rfl ?_
  refine v_ifne (t := 13) (pc' := 9) dX1_sureMarks_6 (by decide) rfl ?_ ?_
  · refine v_bipush (v := 63) (pc' := 15) dX1_sureMarks_13 rfl rfl ?_
    refine V.sub [0, 1] rfl ?_
    exact h_X1_sureMarks_b15 g a0 x1 63
  · refine v_iconst (v := 0) (pc' := 10) dX1_sureMarks_9 rfl rfl ?_
    refine v_goto (t := 15) dX1_sureMarks_10 (by decide) ?_
    refine V.sub [0, 1] rfl ?_
    exact h_X1_sureMarks_b15 g a0 x1 0
-- worstBy
def f_X1_worstBy_b70 (k25 : Nat → Int32 → Int32 → Int32 → Mo Int32) (a0 : Nat) (x1 : Int32) (x2 : Int32) (x3 : Int32) : Mo Int32 := k25 a0 x1 x2 (x3 + 1)
def f_X1_worstBy_b25 : Nat → Nat → Int32 → Int32 → Int32 → Mo Int32
  | 0, _, _, _, _ => fl
  | n + 1, a0, x1, x2, x3 => if (64 ≤ x3 : Prop) then (pu x2) else bd (cv 1 a0 (f_X1_fits a0 x3)) fun v1 => if (v1 = 0 : Prop) then (f_X1_worstBy_b70 (f_X1_worstBy_b25 n) a0 x1 x2 x3) else bd (cv 1 a0 (f_X1_inCommon a0 x1 x3)) fun v2 => bd (gR 1 3 a0) fun r3 => bd (al 0 r3 v2) fun v4 => bd (as_ r3 v2 (v4 + (1 : Int32))) fun _ => bd (gR 1 3 a0) fun r5 => bd (al 0 r5 v2) fun v6 => f_X1_worstBy_b70 (f_X1_worstBy_b25 n) a0 x1 (mx32 x2 v6) x3
def f_X1_worstBy_b2 : Nat → Nat → Int32 → Int32 → Mo Int32
  | 0, _, _, _ => fl
  | n + 1, a0, x1, x2 => if (6 < x2 : Prop) then (f_X1_worstBy_b25 NF a0 x1 0 0) else bd (gR 1 3 a0) fun r7 => bd (as_ r7 x2 0) fun _ => (f_X1_worstBy_b2 n) a0 x1 (x2 + 1)
def f_X1_worstBy (a0 : Nat) (x1 : Int32) : Mo Int32 := f_X1_worstBy_b2 NF a0 x1 0
set_option maxRecDepth 20000 in
theorem h_X1_worstBy_b70 (g : GW) (k25 : Nat → Int32 → Int32 → Int32 → Mo Int32) (hk25 : ∀ a0 x1 x2 x3, V g mX1_worstBy 9 rtI 25 [(0, rf g a0), (1, .int x1), (2, .int x2), (3, .int x3)] [] (k25 a0 x1 x2 x3)) (a0 : Nat) (x1 : Int32) (x2 : Int32) (x3 : Int32) : V g mX1_worstBy 9 rtI 70 [(0, rf g a0), (1, .int x1), (2, .int x2), (3, .int x3)] [] (f_X1_worstBy_b70 k25 a0 x1 x2 x3) := by
  unfold f_X1_worstBy_b70
  refine v_iinc (v := x3 + 1) (lv' := [(3, .int (x3 + 1)), (0, rf g a0), (1, .int x1), (2, .int x2)]) (pc' := 73) 3 dX1_worstBy_70 rfl rfl (by decide) rfl rfl ?_
  refine v_goto (t := 25) dX1_worstBy_73 (by decide) ?_
  refine V.sub [1, 2, 3, 0] rfl ?_
  exact hk25 a0 x1 x2 (x3 + 1)
set_option maxRecDepth 20000 in
theorem h_X1_worstBy_b25 (g : GW) : ∀ n : Nat, ∀ a0 x1 x2 x3, V g mX1_worstBy 9 rtI 25 [(0, rf g a0), (1, .int x1), (2, .int x2), (3, .int x3)] [] (f_X1_worstBy_b25 n a0 x1 x2 x3) := by
  intro n
  induction n with
  | zero => intro a0 x1 x2 x3; exact V.vain
  | succ n ih =>
    intro a0 x1 x2 x3
    unfold f_X1_worstBy_b25
    refine v_iload_n (pc' := 26) 3 dX1_worstBy_25 rfl rfl rfl ?_
    refine v_bipush (v := 64) (pc' := 28) dX1_worstBy_26 rfl rfl ?_
    refine v_icmpge (t := 76) (pc' := 31) dX1_worstBy_28 (by decide) rfl ?_ ?_
    · refine v_iload_n (pc' := 77) 2 dX1_worstBy_76 rfl rfl rfl ?_
      exact v_ireturn rfl dX1_worstBy_77
    · refine v_aload_n (pc' := 32) 0 dX1_worstBy_31 rfl rfl rfl ?_
      refine v_iload_n (pc' := 33) 3 dX1_worstBy_32 rfl rfl rfl ?_
      refine v_callV (vs := [.int x3]) (pc' := 36) (h_X1_fits g a0 x3) mv_X1_fits wl_X1_89 rfl (Nat.le_of_ble_eq_true rfl) (by omega) (by decide) (Nat.le_of_ble_eq_true rfl) rfl dX1_worstBy_33 rfl fun v1 => ?_
      refine v_ifeq (t := 70) (pc' := 39) dX1_worstBy_36 (by decide) rfl ?_ ?_
      · refine V.sub [0, 1, 2, 3] rfl ?_
        exact h_X1_worstBy_b70 g (f_X1_worstBy_b25 n) ih a0 x1 x2 x3
      · refine v_aload_n (pc' := 40) 0 dX1_worstBy_39 rfl rfl rfl ?_
        refine v_iload_n (pc' := 41) 1 dX1_worstBy_40 rfl rfl rfl ?_
        refine v_iload_n (pc' := 42) 3 dX1_worstBy_41 rfl rfl rfl ?_
        refine v_callV (vs := [.int x1, .int x3]) (pc' := 45) (h_X1_inCommon g a0 x1 x3) mv_X1_inCommon wl_X1_85 rfl (Nat.le_of_ble_eq_true rfl) (by omega) (by decide) (Nat.le_of_ble_eq_true rfl) rfl dX1_worstBy_42 rfl fun v2 => ?_
        refine v_istore (lv' := [(4, .int v2), (0, rf g a0), (1, .int x1), (2, .int x2), (3, .int x3)]) (pc' := 47) dX1_worstBy_45 (by decide) rfl rfl ?_
        refine v_aload_n (pc' := 48) 1 dX1_worstBy_47 rfl rfl rfl ?_
        refine v_getR (pc' := 51) fl_X1_22 dX1_worstBy_48 rfl fun r3 => ?_
        refine v_iload (pc' := 53) 0 dX1_worstBy_51 rfl rfl ?_
        refine v_dup2 (pc' := 54) dX1_worstBy_53 rfl rfl rfl ?_
        refine v_iald (pc' := 55) dX1_worstBy_54 rfl fun v4 => ?_
        refine v_iconst (v := 1) (pc' := 56) dX1_worstBy_55 rfl rfl ?_
        refine v_iadd (pc' := 57) dX1_worstBy_56 rfl ?_
        refine v_iast (pc' := 58) dX1_worstBy_57 rfl ?_
        refine v_iload_n (pc' := 59) 3 dX1_worstBy_58 rfl rfl rfl ?_
        refine v_aload_n (pc' := 60) 1 dX1_worstBy_59 rfl rfl rfl ?_
        refine v_getR (pc' := 63) fl_X1_22 dX1_worstBy_60 rfl fun r5 => ?_
        refine v_iload (pc' := 65) 0 dX1_worstBy_63 rfl rfl ?_
        refine v_iald (pc' := 66) dX1_worstBy_65 rfl fun v6 => ?_
        refine v_mx32 (pc' := 69) (by omega) (tg5 190 (by decide +kernel) (by decide +kernel)) (Nat.le_of_ble_eq_true rfl) rfl dX1_worstBy_66 rfl ?_
        refine v_istore_n (lv' := [(2, .int (mx32 x2 v6)), (4, .int v2), (0, rf g a0), (1, .int x1), (3, .int x3)]) (pc' := 70) dX1_worstBy_69 rfl (by decide) rfl rfl ?_
        refine V.sub [2, 3, 0, 4] rfl ?_
        exact h_X1_worstBy_b70 g (f_X1_worstBy_b25 n) ih a0 x1 (mx32 x2 v6) x3
set_option maxRecDepth 20000 in
theorem h_X1_worstBy_b2 (g : GW) : ∀ n : Nat, ∀ a0 x1 x2, V g mX1_worstBy 9 rtI 2 [(0, rf g a0), (1, .int x1), (2, .int x2)] [] (f_X1_worstBy_b2 n a0 x1 x2) := by
  intro n
  induction n with
  | zero => intro a0 x1 x2; exact V.vain
  | succ n ih =>
    intro a0 x1 x2
    unfold f_X1_worstBy_b2
    refine v_iload_n (pc' := 3) 2 dX1_worstBy_2 rfl rfl rfl ?_
    refine v_bipush (v := 6) (pc' := 5) dX1_worstBy_3 rfl rfl ?_
    refine v_icmpgt (t := 21) (pc' := 8) dX1_worstBy_5 (by decide) rfl ?_ ?_
    · refine v_iconst (v := 0) (pc' := 22) dX1_worstBy_21 rfl rfl ?_
      refine v_istore_n (lv' := [(2, .int 0), (0, rf g a0), (1, .int x1)]) (pc' := 23) dX1_worstBy_22 rfl (by decide) rfl rfl ?_
      refine v_iconst (v := 0) (pc' := 24) dX1_worstBy_23 rfl rfl ?_
      refine v_istore_n (lv' := [(3, .int 0), (2, .int 0), (0, rf g a0), (1, .int x1)]) (pc' := 25) dX1_worstBy_24 rfl (by decide) rfl rfl ?_
      refine V.sub [2, 3, 1, 0] rfl ?_
      exact h_X1_worstBy_b25 g NF a0 x1 0 0
    · refine v_aload_n (pc' := 9) 0 dX1_worstBy_8 rfl rfl rfl ?_
      refine v_getR (pc' := 12) fl_X1_22 dX1_worstBy_9 rfl fun r7 => ?_
      refine v_iload_n (pc' := 13) 2 dX1_worstBy_12 rfl rfl rfl ?_
      refine v_iconst (v := 0) (pc' := 14) dX1_worstBy_13 rfl rfl ?_
      refine v_iast (pc' := 15) dX1_worstBy_14 rfl ?_
      refine v_iinc (v := x2 + 1) (lv' := [(2, .int (x2 + 1)), (0, rf g a0), (1, .int x1)]) (pc' := 18) 2 dX1_worstBy_15 rfl rfl (by decide) rfl rfl ?_
      refine v_goto (t := 2) dX1_worstBy_18 (by decide) ?_
      refine V.sub [1, 2, 0] rfl ?_
      exact ih a0 x1 (x2 + 1)
set_option maxRecDepth 20000 in
theorem h_X1_worstBy (g : GW) (a0 : Nat) (x1 : Int32) : V g mX1_worstBy 9 rtI 0 [(0, rf g a0), (1, .int x1)] [] (f_X1_worstBy a0 x1) := by
  unfold f_X1_worstBy
  refine v_iconst (v := 0) (pc' := 1) dX1_worstBy_0 rfl rfl ?_
  refine v_istore_n (lv' := [(2, .int 0), (0, rf g a0), (1, .int x1)]) (pc' := 2) dX1_worstBy_1 rfl (by decide) rfl rfl ?_
  refine V.sub [1, 2, 0] rfl ?_
  exact h_X1_worstBy_b2 g NF a0 x1 0
