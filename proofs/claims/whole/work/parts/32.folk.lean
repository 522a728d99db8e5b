-- <init>
def f_X2_init (a0 : Nat) : Mo Unit := bd (nA 0 8) fun r1 => bd (pf 2 0 a0 (.ref r1)) fun _ => bd (nA 0 8) fun r2 => bd (pf 2 1 a0 (.ref r2)) fun _ => bd (nA 0 8) fun r3 => bd (pf 2 2 a0 (.ref r3)) fun _ => bd (nA 0 8) fun r4 => bd (pf 2 3 a0 (.ref r4)) fun _ => bd (pf 2 5 a0 (.int 1)) fun _ => pu ()
set_option maxRecDepth 20000 in
theorem h_X2_init (g : GW) (a0 : Nat) : V g mX2_init 8 rtU 0 [(0, rf g a0)] [] (f_X2_init a0) := by
  unfold f_X2_init
  refine v_aload_n (pc' := 1) 0 dX2_init_0 rfl rfl rfl ?_
  refine v_objInit (pc' := 4) (tg1 78 (by decide +kernel) (by decide +kernel)) wo_inst wo_code (by omega) (Nat.le_of_ble_eq_true rfl) dX2_init_1 rfl ?_
  refine v_aload_n (pc' := 5) 0 dX2_init_4 rfl rfl rfl ?_
  refine v_bipush (v := 8) (pc' := 7) dX2_init_5 rfl rfl ?_
  refine v_newI (pc' := 9) wa_int dX2_init_7 rfl fun r1 => ?_
  refine v_put (v := (.ref r1)) (v' := rf g r1) (pc' := 12) fw_X2_9 rfl rfl rfl (fun _ => rfl) dX2_init_9 rfl ?_
  refine v_aload_n (pc' := 13) 0 dX2_init_12 rfl rfl rfl ?_
  refine v_bipush (v := 8) (pc' := 15) dX2_init_13 rfl rfl ?_
  refine v_newI (pc' := 17) wa_int dX2_init_15 rfl fun r2 => ?_
  refine v_put (v := (.ref r2)) (v' := rf g r2) (pc' := 20) fw_X2_15 rfl rfl rfl (fun _ => rfl) dX2_init_17 rfl ?_
  refine v_aload_n (pc' := 21) 0 dX2_init_20 rfl rfl rfl ?_
  refine v_bipush (v := 8) (pc' := 23) dX2_init_21 rfl rfl ?_
  refine v_newI (pc' := 25) wa_int dX2_init_23 rfl fun r3 => ?_
  refine v_put (v := (.ref r3)) (v' := rf g r3) (pc' := 28) fw_X2_18 rfl rfl rfl (fun _ => rfl) dX2_init_25 rfl ?_
  refine v_aload_n (pc' := 29) 0 dX2_init_28 rfl rfl rfl ?_
  refine v_bipush (v := 8) (pc' := 31) dX2_init_29 rfl rfl ?_
  refine v_newI (pc' := 33) wa_int dX2_init_31 rfl fun r4 => ?_
  refine v_put (v := (.ref r4)) (v' := rf g r4) (pc' := 36) fw_X2_21 rfl rfl rfl (fun _ => rfl) dX2_init_33 rfl ?_
  refine v_aload_n (pc' := 37) 0 dX2_init_36 rfl rfl rfl ?_
  refine v_iconst (v := 1) (pc' := 38) dX2_init_37 rfl rfl ?_
  refine v_put (v := (.int 1)) (v' := .int 1) (pc' := 41) fw_X2_24 rfl rfl rfl (fun h => nomatch h) dX2_init_38 rfl ?_
  exact v_return rfl dX2_init_41
-- copyFrom
def f_X2_copyFrom (a0 : Nat) (a1 : Nat) : Mo Unit := bd (gR 2 0 a1) fun r1 => bd (gR 2 0 a0) fun r2 => bd (cp_ r1 0 r2 0 8) fun _ => bd (gR 2 1 a1) fun r3 => bd (gR 2 1 a0) fun r4 => bd (cp_ r3 0 r4 0 8) fun _ => bd (gR 2 2 a1) fun r5 => bd (gR 2 2 a0) fun r6 => bd (cp_ r5 0 r6 0 8) fun _ => bd (gR 2 3 a1) fun r7 => bd (gR 2 3 a0) fun r8 => bd (cp_ r7 0 r8 0 8) fun _ => bd (gI 2 4 a1) fun v9 => bd (pf 2 4 a0 (.int v9)) fun _ => bd (gI 2 5 a1) fun v10 => bd (pf 2 5 a0 (.int v10)) fun _ => pu ()
set_option maxRecDepth 20000 in
theorem h_X2_copyFrom (g : GW) (a0 : Nat) (a1 : Nat) : V g mX2_copyFrom 8 rtU 0 [(0, rf g a0), (1, rf g a1)] [] (f_X2_copyFrom a0 a1) := by
  unfold f_X2_copyFrom
  refine v_aload_n (pc' := 1) 1 dX2_copyFrom_0 rfl rfl rfl ?_
  refine v_getR (pc' := 4) fl_X2_9 dX2_copyFrom_1 rfl fun r1 => ?_
  refine v_iconst (v := 0) (pc' := 5) dX2_copyFrom_4 rfl rfl ?_
  refine v_aload_n (pc' := 6) 0 dX2_copyFrom_5 rfl rfl rfl ?_
  refine v_getR (pc' := 9) fl_X2_9 dX2_copyFrom_6 rfl fun r2 => ?_
  refine v_iconst (v := 0) (pc' := 10) dX2_copyFrom_9 rfl rfl ?_
  refine v_bipush (v := 8) (pc' := 12) dX2_copyFrom_10 rfl rfl ?_
  refine v_copy (pc' := 15) (tg4 10 (by decide +kernel) (by decide +kernel)) wy_nat wy_stat wy_ini (by omega) (Nat.le_of_ble_eq_true rfl) dX2_copyFrom_12 rfl ?_
  refine v_aload_n (pc' := 16) 1 dX2_copyFrom_15 rfl rfl rfl ?_
  refine v_getR (pc' := 19) fl_X2_15 dX2_copyFrom_16 rfl fun r3 => ?_
  refine v_iconst (v := 0) (pc' := 20) dX2_copyFrom_19 rfl rfl ?_
  refine v_aload_n (pc' := 21) 0 dX2_copyFrom_20 rfl rfl rfl ?_
  refine v_getR (pc' := 24) fl_X2_15 dX2_copyFrom_21 rfl fun r4 => ?_
  refine v_iconst (v := 0) (pc' := 25) dX2_copyFrom_24 rfl rfl ?_
  refine v_bipush (v := 8) (pc' := 27) dX2_copyFrom_25 rfl rfl ?_
  refine v_copy (pc' := 30) (tg4 10 (by decide +kernel) (by decide +kernel)) wy_nat wy_stat wy_ini (by omega) (Nat.le_of_ble_eq_true rfl) dX2_copyFrom_27 rfl ?_
  refine v_aload_n (pc' := 31) 1 dX2_copyFrom_30 rfl rfl rfl ?_
  refine v_getR (pc' := 34) fl_X2_18 dX2_copyFrom_31 rfl fun r5 => ?_
  refine v_iconst (v := 0) (pc' := 35) dX2_copyFrom_34 rfl rfl ?_
  refine v_aload_n (pc' := 36) 0 dX2_copyFrom_35 rfl rfl rfl ?_
  refine v_getR (pc' := 39) fl_X2_18 dX2_copyFrom_36 rfl fun r6 => ?_
  refine v_iconst (v := 0) (pc' := 40) dX2_copyFrom_39 rfl rfl ?_
  refine v_bipush (v := 8) (pc' := 42) dX2_copyFrom_40 rfl rfl ?_
  refine v_copy (pc' := 45) (tg4 10 (by decide +kernel) (by decide +kernel)) wy_nat wy_stat wy_ini (by omega) (Nat.le_of_ble_eq_true rfl) dX2_copyFrom_42 rfl ?_
  refine v_aload_n (pc' := 46) 1 dX2_copyFrom_45 rfl rfl rfl ?_
  refine v_getR (pc' := 49) fl_X2_21 dX2_copyFrom_46 rfl fun r7 => ?_
  refine v_iconst (v := 0) (pc' := 50) dX2_copyFrom_49 rfl rfl ?_
  refine v_aload_n (pc' := 51) 0 dX2_copyFrom_50 rfl rfl rfl ?_
  refine v_getR (pc' := 54) fl_X2_21 dX2_copyFrom_51 rfl fun r8 => ?_
  refine v_iconst (v := 0) (pc' := 55) dX2_copyFrom_54 rfl rfl ?_
  refine v_bipush (v := 8) (pc' := 57) dX2_copyFrom_55 rfl rfl ?_
  refine v_copy (pc' := 60) (tg4 10 (by decide +kernel) (by decide +kernel)) wy_nat wy_stat wy_ini (by omega) (Nat.le_of_ble_eq_true rfl) dX2_copyFrom_57 rfl ?_
  refine v_aload_n (pc' := 61) 0 dX2_copyFrom_60 rfl rfl rfl ?_
  refine v_aload_n (pc' := 62) 1 dX2_copyFrom_61 rfl rfl rfl ?_
  refine v_getI (pc' := 65) fl_X2_34 dX2_copyFrom_62 rfl fun v9 => ?_
  refine v_put (v := (.int v9)) (v' := .int v9) (pc' := 68) fw_X2_34 rfl rfl rfl (fun h => nomatch h) dX2_copyFrom_65 rfl ?_
  refine v_aload_n (pc' := 69) 0 dX2_copyFrom_68 rfl rfl rfl ?_
  refine v_aload_n (pc' := 70) 1 dX2_copyFrom_69 rfl rfl rfl ?_
  refine v_getI (pc' := 73) fl_X2_24 dX2_copyFrom_70 rfl fun v10 => ?_
  refine v_put (v := (.int v10)) (v' := .int v10) (pc' := 76) fw_X2_24 rfl rfl rfl (fun h => nomatch h) dX2_copyFrom_73 rfl ?_
  exact v_return rfl dX2_copyFrom_76
-- readPerson
def f_X2_readPerson_b38 (a0 : Nat) (x2 : Int32) (x3 : Int32) (xs0 : Int32) : Mo Int32 := if (xs0 = (-1) : Prop) then (pu 0) else bd (gI 2 4 a0) fun v1 => if (v1 < 8 : Prop) then (bd (gR 2 0 a0) fun r2 => bd (gI 2 4 a0) fun v3 => bd (as_ r2 v3 x2) fun _ => bd (gR 2 1 a0) fun r4 => bd (gI 2 4 a0) fun v5 => bd (as_ r4 v5 x3) fun _ => bd (gR 2 2 a0) fun r6 => bd (gI 2 4 a0) fun v7 => bd (as_ r6 v7 xs0) fun _ => bd (gR 2 3 a0) fun r8 => bd (gI 2 4 a0) fun v9 => bd (as_ r8 v9 0) fun _ => bd (gI 2 4 a0) fun v10 => bd (pf 2 4 a0 (.int (v10 + (1 : Int32)))) fun _ => pu 1) else pu 0
def f_X2_readPerson_b22 (a0 : Nat) (a1 : Nat) (x2 : Int32) (xs0 : Int32) : Mo Int32 := if (xs0 = (-1) : Prop) then (f_X2_readPerson_b38 a0 x2 xs0 (-1)) else bd (cv 8 a1 (f_X8_number a1 40)) fun v11 => f_X2_readPerson_b38 a0 x2 xs0 v11
def f_X2_readPerson (a0 : Nat) (a1 : Nat) : Mo Int32 := bd (cv 8 a1 (f_X8_number a1 63)) fun v12 => if (v12 = (-1) : Prop) then (f_X2_readPerson_b22 a0 a1 v12 (-1)) else bd (cv 8 a1 (f_X8_number a1 9)) fun v13 => f_X2_readPerson_b22 a0 a1 v12 v13
set_option maxRecDepth 20000 in
theorem h_X2_readPerson_b38 (g : GW) (a0 : Nat) (x2 : Int32) (x3 : Int32) (xs0 : Int32) : V g mX2_readPerson 10 rtI 38 [(0, rf g a0), (2, .int x2), (3, .int x3)] [.int xs0] (f_X2_readPerson_b38 a0 x2 x3 xs0) := by
  unfold f_X2_readPerson_b38
  refine v_istore (lv' := [(4, .int xs0), (0, rf g a0), (2, .int x2), (3, .int x3)]) (pc' := 40) dX2_readPerson_38 (by decide) rfl rfl ?_
  refine v_iload (pc' := 42) 0 dX2_readPerson_40 rfl rfl ?_
  refine v_iconst (v := -1) (pc' := 43) dX2_readPerson_42 rfl rfl ?_
  refine v_icmpeq (t := 55) (pc' := 46) dX2_readPerson_43 (by decide) rfl ?_ ?_
  · refine v_iconst (v := 0) (pc' := 56) dX2_readPerson_55 rfl rfl ?_
    exact v_zret rfl rfl dX2_readPerson_56
  · refine v_aload_n (pc' := 47) 1 dX2_readPerson_46 rfl rfl rfl ?_
    refine v_getI (pc' := 50) fl_X2_34 dX2_readPerson_47 rfl fun v1 => ?_
    refine v_bipush (v := 8) (pc' := 52) dX2_readPerson_50 rfl rfl ?_
    refine v_icmplt (t := 57) (pc' := 55) dX2_readPerson_52 (by decide) rfl ?_ ?_
    · refine v_aload_n (pc' := 58) 1 dX2_readPerson_57 rfl rfl rfl ?_
      refine v_getR (pc' := 61) fl_X2_9 dX2_readPerson_58 rfl fun r2 => ?_
      refine v_aload_n (pc' := 62) 1 dX2_readPerson_61 rfl rfl rfl ?_
      refine v_getI (pc' := 65) fl_X2_34 dX2_readPerson_62 rfl fun v3 => ?_
      refine v_iload_n (pc' := 66) 2 dX2_readPerson_65 rfl rfl rfl ?_
      refine v_iast (pc' := 67) dX2_readPerson_66 rfl ?_
      refine v_aload_n (pc' := 68) 1 dX2_readPerson_67 rfl rfl rfl ?_
      refine v_getR (pc' := 71) fl_X2_15 dX2_readPerson_68 rfl fun r4 => ?_
      refine v_aload_n (pc' := 72) 1 dX2_readPerson_71 rfl rfl rfl ?_
      refine v_getI (pc' := 75) fl_X2_34 dX2_readPerson_72 rfl fun v5 => ?_
      refine v_iload_n (pc' := 76) 3 dX2_readPerson_75 rfl rfl rfl ?_
      refine v_iast (pc' := 77) dX2_readPerson_76 rfl ?_
      refine v_aload_n (pc' := 78) 1 dX2_readPerson_77 rfl rfl rfl ?_
      refine v_getR (pc' := 81) fl_X2_18 dX2_readPerson_78 rfl fun r6 => ?_
      refine v_aload_n (pc' := 82) 1 dX2_readPerson_81 rfl rfl rfl ?_
      refine v_getI (pc' := 85) fl_X2_34 dX2_readPerson_82 rfl fun v7 => ?_
      refine v_iload (pc' := 87) 0 dX2_readPerson_85 rfl rfl ?_
      refine v_iast (pc' := 88) dX2_readPerson_87 rfl ?_
      refine v_aload_n (pc' := 89) 1 dX2_readPerson_88 rfl rfl rfl ?_
      refine v_getR (pc' := 92) fl_X2_21 dX2_readPerson_89 rfl fun r8 => ?_
      refine v_aload_n (pc' := 93) 1 dX2_readPerson_92 rfl rfl rfl ?_
      refine v_getI (pc' := 96) fl_X2_34 dX2_readPerson_93 rfl fun v9 => ?_
      refine v_iconst (v := 0) (pc' := 97) dX2_readPerson_96 rfl rfl ?_
      refine v_iast (pc' := 98) dX2_readPerson_97 rfl ?_
      refine v_aload_n (pc' := 99) 1 dX2_readPerson_98 rfl rfl rfl ?_
      refine v_dup (pc' := 100) dX2_readPerson_99 rfl rfl ?_
      refine v_getI (pc' := 103) fl_X2_34 dX2_readPerson_100 rfl fun v10 => ?_
      refine v_iconst (v := 1) (pc' := 104) dX2_readPerson_103 rfl rfl ?_
      refine v_iadd (pc' := 105) dX2_readPerson_104 rfl ?_
      refine v_put (v := (.int (v10 + (1 : Int32)))) (v' := .int (v10 + (1 : Int32))) (pc' := 108) fw_X2_34 rfl rfl rfl (fun h => nomatch h) dX2_readPerson_105 rfl ?_
      refine v_iconst (v := 1) (pc' := 109) dX2_readPerson_108 rfl rfl ?_
      exact v_zret rfl rfl dX2_readPerson_109
    · refine v_iconst (v := 0) (pc' := 56) dX2_readPerson_55 rfl rfl ?_
      exact v_zret rfl rfl dX2_readPerson_56
set_option maxRecDepth 20000 in
theorem h_X2_readPerson_b22 (g : GW) (a0 : Nat) (a1 : Nat) (x2 : Int32) (xs0 : Int32) : V g mX2_readPerson 10 rtI 22 [(0, rf g a0), (1, rf g a1), (2, .int x2)] [.int xs0] (f_X2_readPerson_b22 a0 a1 x2 xs0) := by
  unfold f_X2_readPerson_b22
  refine v_istore_n (lv' := [(3, .int xs0), (0, rf g a0), (1, rf g a1), (2, .int x2)]) (pc' := 23) dX2_readPerson_22 rfl (by decide) rfl rfl ?_
  refine v_iload_n (pc' := 24) 0 dX2_readPerson_23 rfl rfl rfl ?_
  refine v_iconst (v := -1) (pc' := 25) dX2_readPerson_24 rfl rfl ?_
  refine v_icmpne (t := 32) (pc' := 28) dX2_readPerson_25 (by decide) rfl ?_ ?_
  · refine v_aload_n (pc' := 33) 2 dX2_readPerson_32 rfl rfl rfl ?_
    refine v_bipush (v := 40) (pc' := 35) dX2_readPerson_33 rfl rfl ?_
    refine v_callV (vs := [.int 40]) (pc' := 38) (h_X8_number g a1 40) mv_X8_number wl_X2_74 rfl (Nat.le_of_ble_eq_true rfl) (by omega) (by decide) (Nat.le_of_ble_eq_true rfl) rfl dX2_readPerson_35 rfl fun v11 => ?_
    refine V.sub [1, 3, 0] rfl ?_
    exact h_X2_readPerson_b38 g a0 x2 xs0 v11
  · refine v_iconst (v := -1) (pc' := 29) dX2_readPerson_28 rfl rfl ?_
    refine v_goto (t := 38) dX2_readPerson_29 (by decide) ?_
    refine V.sub [1, 3, 0] rfl ?_
    exact h_X2_readPerson_b38 g a0 x2 xs0 (-1)
set_option maxRecDepth 20000 in
theorem h_X2_readPerson (g : GW) (a0 : Nat) (a1 : Nat) : V g mX2_readPerson 10 rtI 0 [(0, rf g a0), (1, rf g a1)] [] (f_X2_readPerson a0 a1) := by
  unfold f_X2_readPerson
  refine v_aload_n (pc' := 1) 1 dX2_readPerson_0 rfl rfl rfl ?_
  refine v_bipush (v := 63) (pc' := 3) dX2_readPerson_1 rfl rfl ?_
  refine v_callV (vs := [.int 63]) (pc' := 6) (h_X8_number g a1 63) mv_X8_number wl_X2_74 rfl (Nat.le_of_ble_eq_true rfl) (by omega) (by decide) (Nat.le_of_ble_eq_true rfl) rfl dX2_readPerson_3 rfl fun v12 => ?_
  refine v_istore_n (lv' := [(2, .int v12), (0, rf g a0), (1, rf g a1)]) (pc' := 7) dX2_readPerson_6 rfl (by decide) rfl rfl ?_
  refine v_iload_n (pc' := 8) 0 dX2_readPerson_7 rfl rfl rfl ?_
  refine v_iconst (v := -1) (pc' := 9) dX2_readPerson_8 rfl rfl ?_
  refine v_icmpne (t := 16) (pc' := 12) dX2_readPerson_9 (by decide) rfl ?_ ?_
  · refine v_aload_n (pc' := 17) 2 dX2_readPerson_16 rfl rfl rfl ?_
    refine v_bipush (v := 9) (pc' := 19) dX2_readPerson_17 rfl rfl ?_
    refine v_callV (vs := [.int 9]) (pc' := 22) (h_X8_number g a1 9) mv_X8_number wl_X2_74 rfl (Nat.le_of_ble_eq_true rfl) (by omega) (by decide) (Nat.le_of_ble_eq_true rfl) rfl dX2_readPerson_19 rfl fun v13 => ?_
    refine V.sub [1, 2, 0] rfl ?_
    exact h_X2_readPerson_b22 g a0 a1 v12 v13
  · refine v_iconst (v := -1) (pc' := 13) dX2_readPerson_12 rfl rfl ?_
    refine v_goto (t := 22) dX2_readPerson_13 (by decide) ?_
    refine V.sub [1, 2, 0] rfl ?_
    exact h_X2_readPerson_b22 g a0 a1 v12 (-1)
-- readShy
def f_X2_readShy_b30 (a0 : Nat) (x2 : Int32) (xs0 : Int32) : Mo Int32 := if (xs0 = (-1) : Prop) then (pu 0) else bd (gR 2 3 a0) fun r1 => bd (al 0 r1 x2) fun v2 => bd (as_ r1 x2 (v2 ||| ((1 : Int32) <<< (xs0 &&& 31)))) fun _ => pu 1
def f_X2_readShy (a0 : Nat) (a1 : Nat) : Mo Int32 := bd (gI 2 4 a0) fun v3 => bd (cv 8 a1 (f_X8_number a1 (v3 - (1 : Int32)))) fun v4 => if (v4 = (-1) : Prop) then (f_X2_readShy_b30 a0 v4 (-1)) else bd (gI 2 4 a0) fun v5 => bd (cv 8 a1 (f_X8_number a1 (v5 - (1 : Int32)))) fun v6 => f_X2_readShy_b30 a0 v4 v6
set_option maxRecDepth 20000 in
theorem h_X2_readShy_b30 (g : GW) (a0 : Nat) (x2 : Int32) (xs0 : Int32) : V g mX2_readShy 10 rtI 30 [(0, rf g a0), (2, .int x2)] [.int xs0] (f_X2_readShy_b30 a0 x2 xs0) := by
  unfold f_X2_readShy_b30
  refine v_istore_n (lv' := [(3, .int xs0), (0, rf g a0), (2, .int x2)]) (pc' := 31) dX2_readShy_30 rfl (by decide) rfl rfl ?_
  refine v_iload_n (pc' := 32) 0 dX2_readShy_31 rfl rfl rfl ?_
  refine v_iconst (v := -1) (pc' := 33) dX2_readShy_32 rfl rfl ?_
  refine v_icmpne (t := 38) (pc' := 36) dX2_readShy_33 (by decide) rfl ?_ ?_
  · refine v_aload_n (pc' := 39) 1 dX2_readShy_38 rfl rfl rfl ?_
    refine v_getR (pc' := 42) fl_X2_21 dX2_readShy_39 rfl fun r1 => ?_
    refine v_iload_n (pc' := 43) 2 dX2_readShy_42 rfl rfl rfl ?_
    refine v_dup2 (pc' := 44) dX2_readShy_43 rfl rfl rfl ?_
    refine v_iald (pc' := 45) dX2_readShy_44 rfl fun v2 => ?_
    refine v_iconst (v := 1) (pc' := 46) dX2_readShy_45 rfl rfl ?_
    refine v_iload_n (pc' := 47) 0 dX2_readShy_46 rfl rfl rfl ?_
    refine v_ishl (pc' := 48) dX2_readShy_47 rfl ?_
    refine v_ior (pc' := 49) dX2_readShy_48 rfl ?_
    refine v_iast (pc' := 50) dX2_readShy_49 rfl ?_
    refine v_iconst (v := 1) (pc' := 51) dX2_readShy_50 rfl rfl ?_
    exact v_zret rfl rfl dX2_readShy_51
  · refine v_iconst (v := 0) (pc' := 37) dX2_readShy_36 rfl rfl ?_
    exact v_zret rfl rfl dX2_readShy_37
set_option maxRecDepth 20000 in
theorem h_X2_readShy (g : GW) (a0 : Nat) (a1 : Nat) : V g mX2_readShy 10 rtI 0 [(0, rf g a0), (1, rf g a1)] [] (f_X2_readShy a0 a1) := by
  unfold f_X2_readShy
  refine v_aload_n (pc' := 1) 1 dX2_readShy_0 rfl rfl rfl ?_
  refine v_aload_n (pc' := 2) 0 dX2_readShy_1 rfl rfl rfl ?_
  refine v_getI (pc' := 5) fl_X2_34 dX2_readShy_2 rfl fun v3 => ?_
  refine v_iconst (v := 1) (pc' := 6) dX2_readShy_5 rfl rfl ?_
  refine v_isub (pc' := 7) dX2_readShy_6 rfl ?_
  refine v_callV (vs := [.int (v3 - (1 : Int32))]) (pc' := 10) (h_X8_number g a1 (v3 - (1 : Int32))) mv_X8_number wl_X2_74 rfl (Nat.le_of_ble_eq_true rfl) (by omega) (by decide) (Nat.le_of_ble_eq_true rfl) rfl dX2_readShy_7 rfl fun v4 => ?_
  refine v_istore_n (lv' := [(2, .int v4), (0, rf g a0), (1, rf g a1)]) (pc' := 11) dX2_readShy_10 rfl (by decide) rfl rfl ?_
  refine v_iload_n (pc' := 12) 0 dX2_readShy_11 rfl rfl rfl ?_
  refine v_iconst (v := -1) (pc' := 13) dX2_readShy_12 rfl rfl ?_
  refine v_icmpne (t := 20) (pc' := 16) dX2_readShy_13 (by decide) rfl ?_ ?_
  · refine v_aload_n (pc' := 21) 2 dX2_readShy_20 rfl rfl rfl ?_
    refine v_aload_n (pc' := 22) 1 dX2_readShy_21 rfl rfl rfl ?_
    refine v_getI (pc' := 25) fl_X2_34 dX2_readShy_22 rfl fun v5 => ?_
    refine v_iconst (v := 1) (pc' := 26) dX2_readShy_25 rfl rfl ?_
    refine v_isub (pc' := 27) dX2_readShy_26 rfl ?_
    refine v_callV (vs := [.int (v5 - (1 : Int32))]) (pc' := 30) (h_X8_number g a1 (v5 - (1 : Int32))) mv_X8_number wl_X2_74 rfl (Nat.le_of_ble_eq_true rfl) (by omega) (by decide) (Nat.le_of_ble_eq_true rfl) rfl dX2_readShy_27 rfl fun v6 => ?_
    refine V.sub [1, 0] rfl ?_
    exact h_X2_readShy_b30 g a0 v4 v6
  · refine v_iconst (v := -1) (pc' := 17) dX2_readShy_16 rfl rfl ?_
    refine v_goto (t := 30) dX2_readShy_17 (by decide) ?_
    refine V.sub [1, 0] rfl ?_
    exact h_X2_readShy_b30 g a0 v4 (-1)
-- readLike
def f_X2_readLike (a0 : Nat) (a1 : Nat) : Mo Int32 := bd (cv 8 a1 (f_X8_number a1 6)) fun v1 => if (v1 = (-1) : Prop) then (pu 0) else bd (pf 2 5 a0 (.int v1)) fun _ => pu 1
set_option maxRecDepth 20000 in
theorem h_X2_readLike (g : GW) (a0 : Nat) (a1 : Nat) : V g mX2_readLike 10 rtI 0 [(0, rf g a0), (1, rf g a1)] [] (f_X2_readLike a0 a1) := by
  unfold f_X2_readLike
  refine v_aload_n (pc' := 1) 1 dX2_readLike_0 rfl rfl rfl ?_
  refine v_bipush (v := 6) (pc' := 3) dX2_readLike_1 rfl rfl ?_
  refine v_callV (vs := [.int 6]) (pc' := 6) (h_X8_number g a1 6) mv_X8_number wl_X2_74 rfl (Nat.le_of_ble_eq_true rfl) (by omega) (by decide) (Nat.le_of_ble_eq_true rfl) rfl dX2_readLike_3 rfl fun v1 => ?_
  refine v_istore_n (lv' := [(2, .int v1), (0, rf g a0), (1, rf g a1)]) (pc' := 7) dX2_readLike_6 rfl (by decide) rfl rfl ?_
  refine v_iload_n (pc' := 8) 0 dX2_readLike_7 rfl rfl rfl ?_
  refine v_iconst (v := -1) (pc' := 9) dX2_readLike_8 rfl rfl ?_
  refine v_icmpne (t := 14) (pc' := 12) dX2_readLike_9 (by decide) rfl ?_ ?_
  · refine v_aload_n (pc' := 15) 1 dX2_readLike_14 rfl rfl rfl ?_
    refine v_iload_n (pc' := 16) 0 dX2_readLike_15 rfl rfl rfl ?_
    refine v_put (v := (.int v1)) (v' := .int v1) (pc' := 19) fw_X2_24 rfl rfl rfl (fun h => nomatch h) dX2_readLike_16 rfl ?_
    refine v_iconst (v := 1) (pc' := 20) dX2_readLike_19 rfl rfl ?_
    exact v_zret rfl rfl dX2_readLike_20
  · refine v_iconst (v := 0) (pc' := 13) dX2_readLike_12 rfl rfl ?_
    exact v_zret rfl rfl dX2_readLike_13
-- readClause
def f_X2_readClause_b33 (a1 : Nat) : Mo Int32 := bd (gI 8 4 a1) fun v1 => bd (cv 8 a1 (f_X8_fail a1 3 v1)) fun v2 => rz v2
def f_X2_readClause_b73 (a1 : Nat) (xs0 : Int32) : Mo Int32 := if (xs0 = 0 : Prop) then (pu 0) else bd (cv 8 a1 (f_X8_need a1 59)) fun v3 => if (v3 = 0 : Prop) then (pu 0) else pu 1
def f_X2_readClause_b43 (a0 : Nat) (a1 : Nat) (x3 : Int32) : Mo Int32 := if (x3 = 0 : Prop) then (bd (cv 2 a0 (f_X2_readPerson a0 a1)) fun v6 => f_X2_readClause_b73 a1 v6) else if (x3 = 1 : Prop) then (bd (cv 2 a0 (f_X2_readShy a0 a1)) fun v5 => f_X2_readClause_b73 a1 v5) else bd (cv 2 a0 (f_X2_readLike a0 a1)) fun v4 => f_X2_readClause_b73 a1 v4
def f_X2_readClause (a0 : Nat) (a1 : Nat) (x2 : Int32) : Mo Int32 := bd (cv 8 a1 (f_X8_word a1 0)) fun v7 => if (v7 = (-1) : Prop) then (pu 0) else if (60 ≤ x2 : Prop) then (f_X2_readClause_b33 a1) else if (v7 = 0 : Prop) then (bd (gI 2 4 a0) fun v8 => if (v8 < 8 : Prop) then (f_X2_readClause_b43 a0 a1 v7) else f_X2_readClause_b33 a1) else f_X2_readClause_b43 a0 a1 v7
set_option maxRecDepth 20000 in
theorem h_X2_readClause_b33 (g : GW) (a1 : Nat) : V g mX2_readClause 11 rtI 33 [(1, rf g a1)] [] (f_X2_readClause_b33 a1) := by
  unfold f_X2_readClause_b33
  refine v_aload_n (pc' := 34) 0 dX2_readClause_33 rfl rfl rfl ?_
  refine v_iconst (v := 3) (pc' := 35) dX2_readClause_34 rfl rfl ?_
  refine v_aload_n (pc' := 36) 0 dX2_readClause_35 rfl rfl rfl ?_
  refine v_getI (pc' := 39) fl_X2_53 dX2_readClause_36 rfl fun v1 => ?_
  refine v_callV (vs := [.int 3, .int v1]) (pc' := 42) (h_X8_fail g a1 3 v1) mv_X8_fail wl_X2_56 rfl (Nat.le_of_ble_eq_true rfl) (by omega) (by decide) (Nat.le_of_ble_eq_true rfl) rfl dX2_readClause_39 rfl fun v2 => ?_
  exact v_zretV rfl dX2_readClause_42
set_option maxRecDepth 20000 in
theorem h_X2_readClause_b73 (g : GW) (a1 : Nat) (xs0 : Int32) : V g mX2_readClause 11 rtI 73 [(1, rf g a1)] [.int xs0] (f_X2_readClause_b73 a1 xs0) := by
  unfold f_X2_readClause_b73
  refine v_istore (lv' := [(4, .int xs0), (1, rf g a1)]) (pc' := 75) dX2_readClause_73 (by decide) rfl rfl ?_
  refine v_iload (pc' := 77) 0 dX2_readClause_75 rfl rfl ?_
  refine v_ifeq (t := 93) (pc' := 80) dX2_readClause_77 (by decide) rfl ?_ ?_
  · refine v_iconst (v := 0) (pc' := 94) dX2_readClause_93 rfl rfl ?_
    exact v_zret rfl rfl dX2_readClause_94
  · refine v_aload_n (pc' := 81) 1 dX2_readClause_80 rfl rfl rfl ?_
    refine v_bipush (v := 59) (pc' := 83) dX2_readClause_81 rfl rfl ?_
    refine v_callV (vs := [.int 59]) (pc' := 86) (h_X8_need g a1 59) mv_X8_need wl_X2_70 rfl (Nat.le_of_ble_eq_true rfl) (by omega) (by decide) (Nat.le_of_ble_eq_true rfl) rfl dX2_readClause_83 rfl fun v3 => ?_
    refine v_ifeq (t := 93) (pc' := 89) dX2_readClause_86 (by decide) rfl ?_ ?_
    · refine v_iconst (v := 0) (pc' := 94) dX2_readClause_93 rfl rfl ?_
      exact v_zret rfl rfl dX2_readClause_94
    · refine v_iconst (v := 1) (pc' := 90) dX2_readClause_89 rfl rfl ?_
      refine v_goto (t := 94) dX2_readClause_90 (by decide) ?_
      exact v_zret rfl rfl dX2_readClause_94
set_option maxRecDepth 20000 in
theorem h_X2_readClause_b43 (g : GW) (a0 : Nat) (a1 : Nat) (x3 : Int32) : V g mX2_readClause 11 rtI 43 [(0, rf g a0), (1, rf g a1), (3, .int x3)] [] (f_X2_readClause_b43 a0 a1 x3) := by
  unfold f_X2_readClause_b43
  refine v_iload_n (pc' := 44) 2 dX2_readClause_43 rfl rfl rfl ?_
  refine v_ifne (t := 55) (pc' := 47) dX2_readClause_44 (by decide) rfl ?_ ?_
  · refine v_iload_n (pc' := 56) 2 dX2_readClause_55 rfl rfl rfl ?_
    refine v_iconst (v := 1) (pc' := 57) dX2_readClause_56 rfl rfl ?_
    refine v_icmpne (t := 68) (pc' := 60) dX2_readClause_57 (by decide) rfl ?_ ?_
    · refine v_aload_n (pc' := 69) 0 dX2_readClause_68 rfl rfl rfl ?_
      refine v_aload_n (pc' := 70) 1 dX2_readClause_69 rfl rfl rfl ?_
      refine v_callV (vs := [rf g a1]) (pc' := 73) (h_X2_readLike g a0 a1) mv_X2_readLike wl_X2_67 rfl (Nat.le_of_ble_eq_true rfl) (by omega) (by decide) (Nat.le_of_ble_eq_true rfl) rfl dX2_readClause_70 rfl fun v4 => ?_
      refine V.sub [1] rfl ?_
      exact h_X2_readClause_b73 g a1 v4
    · refine v_aload_n (pc' := 61) 0 dX2_readClause_60 rfl rfl rfl ?_
      refine v_aload_n (pc' := 62) 1 dX2_readClause_61 rfl rfl rfl ?_
      refine v_callV (vs := [rf g a1]) (pc' := 65) (h_X2_readShy g a0 a1) mv_X2_readShy wl_X2_64 rfl (Nat.le_of_ble_eq_true rfl) (by omega) (by decide) (Nat.le_of_ble_eq_true rfl) rfl dX2_readClause_62 rfl fun v5 => ?_
      refine v_goto (t := 73) dX2_readClause_65 (by decide) ?_
      refine V.sub [1] rfl ?_
      exact h_X2_readClause_b73 g a1 v5
  · refine v_aload_n (pc' := 48) 0 dX2_readClause_47 rfl rfl rfl ?_
    refine v_aload_n (pc' := 49) 1 dX2_readClause_48 rfl rfl rfl ?_
    refine v_callV (vs := [rf g a1]) (pc' := 52) (h_X2_readPerson g a0 a1) mv_X2_readPerson wl_X2_60 rfl (Nat.le_of_ble_eq_true rfl) (by omega) (by decide) (Nat.le_of_ble_eq_true rfl) rfl dX2_readClause_49 rfl fun v6 => ?_
    refine v_goto (t := 73) dX2_readClause_52 (by decide) ?_
    refine V.sub [1] rfl ?_
    exact h_X2_readClause_b73 g a1 v6
set_option maxRecDepth 20000 in
theorem h_X2_readClause (g : GW) (a0 : Nat) (a1 : Nat) (x2 : Int32) : V g mX2_readClause 11 rtI 0 [(0, rf g a0), (1, rf g a1), (2, .int x2)] [] (f_X2_readClause a0 a1 x2) := by
  unfold f_X2_readClause
  refine v_aload_n (pc' := 1) 1 dX2_readClause_0 rfl rfl rfl ?_
  refine v_ldcS (pc' := 3) 0 (fun _ _ h => h.2.2.2.2.1.1) dX2_readClause_1 rfl ?_
  refine v_callV (vs := [.ref (gK g 0)]) (pc' := 6) (h_X8_word g a1 0) mv_X8_word wl_X2_49 rfl (Nat.le_of_ble_eq_true rfl) (by omega) (by decide) (Nat.le_of_ble_eq_true rfl) rfl dX2_readClause_3 rfl fun v7 => ?_
  refine v_istore_n (lv' := [(3, .int v7), (0, rf g a0), (1, rf g a1), (2, .int x2)]) (pc' := 7) dX2_readClause_6 rfl (by decide) rfl rfl ?_
  refine v_iload_n (pc' := 8) 0 dX2_readClause_7 rfl rfl rfl ?_
  refine v_iconst (v := -1) (pc' := 9) dX2_readClause_8 rfl rfl ?_
  refine v_icmpne (t := 14) (pc' := 12) dX2_readClause_9 (by decide) rfl ?_ ?_
  · refine v_iload_n (pc' := 15) 3 dX2_readClause_14 rfl rfl rfl ?_
    refine v_bipush (v := 60) (pc' := 17) dX2_readClause_15 rfl rfl ?_
    refine v_icmpge (t := 33) (pc' := 20) dX2_readClause_17 (by decide) rfl ?_ ?_
    · refine V.sub [2] rfl ?_
      exact h_X2_readClause_b33 g a1
    · refine v_iload_n (pc' := 21) 0 dX2_readClause_20 rfl rfl rfl ?_
      refine v_ifne (t := 43) (pc' := 24) dX2_readClause_21 (by decide) rfl ?_ ?_
      · refine V.sub [1, 2, 0] rfl ?_
        exact h_X2_readClause_b43 g a0 a1 v7
      · refine v_aload_n (pc' := 25) 1 dX2_readClause_24 rfl rfl rfl ?_
        refine v_getI (pc' := 28) fl_X2_34 dX2_readClause_25 rfl fun v8 => ?_
        refine v_bipush (v := 8) (pc' := 30) dX2_readClause_28 rfl rfl ?_
        refine v_icmplt (t := 43) (pc' := 33) dX2_readClause_30 (by decide) rfl ?_ ?_
        · refine V.sub [1, 2, 0] rfl ?_
          exact h_X2_readClause_b43 g a0 a1 v7
        · refine V.sub [2] rfl ?_
          exact h_X2_readClause_b33 g a1
  · refine v_iconst (v := 0) (pc' := 13) dX2_readClause_12 rfl rfl ?_
    exact v_zret rfl rfl dX2_readClause_13
-- read
def f_X2_read_b12 : Nat → Nat → Nat → Int32 → Mo Int32
  | 0, _, _, _ => fl
  | n + 1, a0, a1, x2 => if (60 < x2 : Prop) then (pu 1) else bd (cv 8 a1 (f_X8_atEnd a1)) fun v1 => if (v1 = 0 : Prop) then (bd (cv 2 a0 (f_X2_readClause a0 a1 x2)) fun v2 => if (v2 = 0 : Prop) then (pu 0) else (f_X2_read_b12 n) a0 a1 (x2 + 1)) else pu 1
def f_X2_read (a0 : Nat) (a1 : Nat) : Mo Int32 := bd (pf 2 4 a0 (.int 0)) fun _ => bd (pf 2 5 a0 (.int 1)) fun _ => f_X2_read_b12 NF a0 a1 0
set_option maxRecDepth 20000 in
theorem h_X2_read_b12 (g : GW) : ∀ n : Nat, ∀ a0 a1 x2, V g mX2_read 12 rtI 12 [(0, rf g a0), (1, rf g a1), (2, .int x2)] [] (f_X2_read_b12 n a0 a1 x2) := by
  intro n
  induction n with
  | zero => intro a0 a1 x2; exact V.vain
  | succ n ih =>
    intro a0 a1 x2
    unfold f_X2_read_b12
    refine v_iload_n (pc' := 13) 2 dX2_read_12 rfl rfl rfl ?_
    refine v_bipush (v := 60) (pc' := 15) dX2_read_13 rfl rfl ?_
    refine v_icmpgt (t := 42) (pc' := 18) dX2_read_15 (by decide) rfl ?_ ?_
    · refine v_iconst (v := 1) (pc' := 43) dX2_read_42 rfl rfl ?_
      exact v_zret rfl rfl dX2_read_43
    · refine v_aload_n (pc' := 19) 1 dX2_read_18 rfl rfl rfl ?_
      refine v_callV (vs := []) (pc' := 22) (h_X8_atEnd g a1) mv_X8_atEnd wl_X2_37 rfl (Nat.le_of_ble_eq_true rfl) (by omega) (by decide) (Nat.le_of_ble_eq_true rfl) rfl dX2_read_19 rfl fun v1 => ?_
      refine v_ifne (t := 42) (pc' := 25) dX2_read_22 (by decide) rfl ?_ ?_
      · refine v_iconst (v := 1) (pc' := 43) dX2_read_42 rfl rfl ?_
        exact v_zret rfl rfl dX2_read_43
      · refine v_aload_n (pc' := 26) 0 dX2_read_25 rfl rfl rfl ?_
        refine v_aload_n (pc' := 27) 1 dX2_read_26 rfl rfl rfl ?_
        refine v_iload_n (pc' := 28) 2 dX2_read_27 rfl rfl rfl ?_
        refine v_callV (vs := [rf g a1, .int x2]) (pc' := 31) (h_X2_readClause g a0 a1 x2) mv_X2_readClause wl_X2_43 rfl (Nat.le_of_ble_eq_true rfl) (by omega) (by decide) (Nat.le_of_ble_eq_true rfl) rfl dX2_read_28 rfl fun v2 => ?_
        refine v_ifne (t := 36) (pc' := 34) dX2_read_31 (by decide) rfl ?_ ?_
        · refine v_iinc (v := x2 + 1) (lv' := [(2, .int (x2 + 1)), (0, rf g a0), (1, rf g a1)]) (pc' := 39) 2 dX2_read_36 rfl rfl (by decide) rfl rfl ?_
          refine v_goto (t := 12) dX2_read_39 (by decide) ?_
          refine V.sub [1, 2, 0] rfl ?_
          exact ih a0 a1 (x2 + 1)
        · refine v_iconst (v := 0) (pc' := 35) dX2_read_34 rfl rfl ?_
          exact v_zret rfl rfl dX2_read_35
set_option maxRecDepth 20000 in
theorem h_X2_read (g : GW) (a0 : Nat) (a1 : Nat) : V g mX2_read 12 rtI 0 [(0, rf g a0), (1, rf g a1)] [] (f_X2_read a0 a1) := by
  unfold f_X2_read
  refine v_aload_n (pc' := 1) 0 dX2_read_0 rfl rfl rfl ?_
  refine v_iconst (v := 0) (pc' := 2) dX2_read_1 rfl rfl ?_
  refine v_put (v := (.int 0)) (v' := .int 0) (pc' := 5) fw_X2_34 rfl rfl rfl (fun h => nomatch h) dX2_read_2 rfl ?_
  refine v_aload_n (pc' := 6) 0 dX2_read_5 rfl rfl rfl ?_
  refine v_iconst (v := 1) (pc' := 7) dX2_read_6 rfl rfl ?_
  refine v_put (v := (.int 1)) (v' := .int 1) (pc' := 10) fw_X2_24 rfl rfl rfl (fun h => nomatch h) dX2_read_7 rfl ?_
  refine v_iconst (v := 0) (pc' := 11) dX2_read_10 rfl rfl ?_
  refine v_istore_n (lv' := [(2, .int 0), (0, rf g a0), (1, rf g a1)]) (pc' := 12) dX2_read_11 rfl (by decide) rfl rfl ?_
  refine V.sub [1, 2, 0] rfl ?_
  exact h_X2_read_b12 g NF a0 a1 0
-- everybody
def f_X2_everybody (a0 : Nat) : Mo Int32 := bd (gI 2 4 a0) fun v1 => pu (((1 : Int32) <<< (v1 &&& 31)) - (1 : Int32))
set_option maxRecDepth 20000 in
theorem h_X2_everybody (g : GW) (a0 : Nat) : V g mX2_everybody 8 rtI 0 [(0, rf g a0)] [] (f_X2_everybody a0) := by
  unfold f_X2_everybody
  refine v_iconst (v := 1) (pc' := 1) dX2_everybody_0 rfl rfl ?_
  refine v_aload_n (pc' := 2) 0 dX2_everybody_1 rfl rfl rfl ?_
  refine v_getI (pc' := 5) fl_X2_34 dX2_everybody_2 rfl fun v1 => ?_
  refine v_ishl (pc' := 6) dX2_everybody_5 rfl ?_
  refine v_iconst (v := 1) (pc' := 7) dX2_everybody_6 rfl rfl ?_
  refine v_isub (pc' := 8) dX2_everybody_7 rfl ?_
  exact v_ireturn rfl dX2_everybody_8
-- alike
def f_X2_alike (a0 : Nat) (x1 : Int32) (x2 : Int32) : Mo Int32 := bd (gI 2 5 a0) fun v1 => if (v1 < (bc32 (x1 ^^^ x2)) : Prop) then (pu 0) else pu 1
set_option maxRecDepth 20000 in
theorem h_X2_alike (g : GW) (a0 : Nat) (x1 : Int32) (x2 : Int32) : V g mX2_alike 8 rtI 0 [(0, rf g a0), (1, .int x1), (2, .int x2)] [] (f_X2_alike a0 x1 x2) := by
  unfold f_X2_alike
  refine v_iload_n (pc' := 1) 1 dX2_alike_0 rfl rfl rfl ?_
  refine v_iload_n (pc' := 2) 2 dX2_alike_1 rfl rfl rfl ?_
  refine v_ixor (pc' := 3) dX2_alike_2 rfl ?_
  refine v_bc32 (pc' := 6) (by omega) (tg2 208 (by decide +kernel) (by decide +kernel)) (Nat.le_of_ble_eq_true rfl) rfl dX2_alike_3 rfl ?_
  refine v_aload_n (pc' := 7) 0 dX2_alike_6 rfl rfl rfl ?_
  refine v_getI (pc' := 10) fl_X2_24 dX2_alike_7 rfl fun v1 => ?_
  refine v_icmpgt (t := 17) (pc' := 13) dX2_alike_10 (by decide) rfl ?_ ?_
  · refine v_iconst (v := 0) (pc' := 18) dX2_alike_17 rfl rfl ?_
    exact v_zret rfl rfl dX2_alike_18
  · refine v_iconst (v := 1) (pc' := 14) dX2_alike_13 rfl rfl ?_
    refine v_goto (t := 18) dX2_alike_14 (by decide) ?_
    exact v_zret rfl rfl dX2_alike_18
-- never
def f_X2_never (a0 : Nat) (x1 : Int32) (x2 : Int32) : Mo Int32 := bd (gR 2 3 a0) fun r1 => bd (al 0 r1 x1) fun v2 => if (((v2 >>> (x2 &&& 31)) &&& (1 : Int32)) = 1 : Prop) then (pu 1) else pu 0
set_option maxRecDepth 20000 in
theorem h_X2_never (g : GW) (a0 : Nat) (x1 : Int32) (x2 : Int32) : V g mX2_never 8 rtI 0 [(0, rf g a0), (1, .int x1), (2, .int x2)] [] (f_X2_never a0 x1 x2) := by
  unfold f_X2_never
  refine v_aload_n (pc' := 1) 0 dX2_never_0 rfl rfl rfl ?_
  refine v_getR (pc' := 4) fl_X2_21 dX2_never_1 rfl fun r1 => ?_
  refine v_iload_n (pc' := 5) 1 dX2_never_4 rfl rfl rfl ?_
  refine v_iald (pc' := 6) dX2_never_5 rfl fun v2 => ?_
  refine v_iload_n (pc' := 7) 2 dX2_never_6 rfl rfl rfl ?_
  refine v_ishr (pc' := 8) dX2_never_7 rfl ?_
  refine v_iconst (v := 1) (pc' := 9) dX2_never_8 rfl rfl ?_
  refine v_iand (pc' := 10) dX2_never_9 rfl ?_
  refine v_iconst (v := 1) (pc' := 11) dX2_never_10 rfl rfl ?_
  refine v_icmpne (t := 18) (pc' := 14) dX2_never_11 (by decide) rfl ?_ ?_
  · refine v_iconst (v := 0) (pc' := 19) dX2_never_18 rfl rfl ?_
    exact v_zret rfl rfl dX2_never_19
  · refine v_iconst (v := 1) (pc' := 15) dX2_never_14 rfl rfl ?_
    refine v_goto (t := 19) dX2_never_15 (by decide) ?_
    exact v_zret rfl rfl dX2_never_19
-- shyPairs
def f_X2_shyPairs_b4 : Nat → Nat → Int32 → Int32 → Mo Int32
  | 0, _, _, _ => fl
  | n + 1, a0, x1, x2 => bd (gI 2 4 a0) fun v1 => if (v1 ≤ x2 : Prop) then (pu x1) else bd (gR 2 3 a0) fun r2 => bd (al 0 r2 x2) fun v3 => (f_X2_shyPairs_b4 n) a0 (x1 + (bc32 v3)) (x2 + 1)
def f_X2_shyPairs (a0 : Nat) : Mo Int32 := f_X2_shyPairs_b4 NF a0 0 0
set_option maxRecDepth 20000 in
theorem h_X2_shyPairs_b4 (g : GW) : ∀ n : Nat, ∀ a0 x1 x2, V g mX2_shyPairs 8 rtI 4 [(0, rf g a0), (1, .int x1), (2, .int x2)] [] (f_X2_shyPairs_b4 n a0 x1 x2) := by
  intro n
  induction n with
  | zero => intro a0 x1 x2; exact V.vain
  | succ n ih =>
    intro a0 x1 x2
    unfold f_X2_shyPairs_b4
    refine v_iload_n (pc' := 5) 2 dX2_shyPairs_4 rfl rfl rfl ?_
    refine v_aload_n (pc' := 6) 0 dX2_shyPairs_5 rfl rfl rfl ?_
    refine v_getI (pc' := 9) fl_X2_34 dX2_shyPairs_6 rfl fun v1 => ?_
    refine v_icmpge (t := 30) (pc' := 12) dX2_shyPairs_9 (by decide) rfl ?_ ?_
    · refine v_iload_n (pc' := 31) 1 dX2_shyPairs_30 rfl rfl rfl ?_
      exact v_ireturn rfl dX2_shyPairs_31
    · refine v_iload_n (pc' := 13) 1 dX2_shyPairs_12 rfl rfl rfl ?_
      refine v_aload_n (pc' := 14) 0 dX2_shyPairs_13 rfl rfl rfl ?_
      refine v_getR (pc' := 17) fl_X2_21 dX2_shyPairs_14 rfl fun r2 => ?_
      refine v_iload_n (pc' := 18) 2 dX2_shyPairs_17 rfl rfl rfl ?_
      refine v_iald (pc' := 19) dX2_shyPairs_18 rfl fun v3 => ?_
      refine v_bc32 (pc' := 22) (by omega) (tg2 208 (by decide +kernel) (by decide +kernel)) (Nat.le_of_ble_eq_true rfl) rfl dX2_shyPairs_19 rfl ?_
      refine v_iadd (pc' := 23) dX2_shyPairs_22 rfl ?_
      refine v_istore_n (lv' := [(1, .int (x1 + (bc32 v3))), (0, rf g a0), (2, .int x2)]) (pc' := 24) dX2_shyPairs_23 rfl (by decide) rfl rfl ?_
      refine v_iinc (v := x2 + 1) (lv' := [(2, .int (x2 + 1)), (1, .int (x1 + (bc32 v3))), (0, rf g a0)]) (pc' := 27) 2 dX2_shyPairs_24 rfl rfl (by decide) rfl rfl ?_
      refine v_goto (t := 4) dX2_shyPairs_27 (by decide) ?_
      refine V.sub [2, 1, 0] rfl ?_
      exact ih a0 (x1 + (bc32 v3)) (x2 + 1)
set_option maxRecDepth 20000 in
theorem h_X2_shyPairs (g : GW) (a0 : Nat) : V g mX2_shyPairs 8 rtI 0 [(0, rf g a0)] [] (f_X2_shyPairs a0) := by
  unfold f_X2_shyPairs
  refine v_iconst (v := 0) (pc' := 1) dX2_shyPairs_0 rfl rfl ?_
  refine v_istore_n (lv' := [(1, .int 0), (0, rf g a0)]) (pc' := 2) dX2_shyPairs_1 rfl (by decide) rfl rfl ?_
  refine v_iconst (v := 0) (pc' := 3) dX2_shyPairs_2 rfl rfl ?_
  refine v_istore_n (lv' := [(2, .int 0), (1, .int 0), (0, rf g a0)]) (pc' := 4) dX2_shyPairs_3 rfl (by decide) rfl rfl ?_
  refine V.sub [2, 1, 0] rfl ?_
  exact h_X2_shyPairs_b4 g NF a0 0 0
-- nearest
def f_X2_nearest_b39 (k4 : Nat → Int32 → Int32 → Int32 → Mo Int32) (a0 : Nat) (x1 : Int32) (x2 : Int32) (x3 : Int32) : Mo Int32 := k4 a0 x1 x2 (x3 + 1)
def f_X2_nearest_b4 : Nat → Nat → Int32 → Int32 → Int32 → Mo Int32
  | 0, _, _, _, _ => fl
  | n + 1, a0, x1, x2, x3 => bd (gI 2 4 a0) fun v1 => if (v1 ≤ x3 : Prop) then (pu x2) else bd (gR 2 0 a0) fun r2 => bd (al 0 r2 x3) fun v3 => bd (gR 2 0 a0) fun r4 => bd (al 0 r4 x2) fun v5 => if ((bc32 (v5 ^^^ x1)) ≤ (bc32 (v3 ^^^ x1)) : Prop) then (f_X2_nearest_b39 (f_X2_nearest_b4 n) a0 x1 x2 x3) else f_X2_nearest_b39 (f_X2_nearest_b4 n) a0 x1 x3 x3
def f_X2_nearest (a0 : Nat) (x1 : Int32) : Mo Int32 := f_X2_nearest_b4 NF a0 x1 0 1
set_option maxRecDepth 20000 in
theorem h_X2_nearest_b39 (g : GW) (k4 : Nat → Int32 → Int32 → Int32 → Mo Int32) (hk4 : ∀ a0 x1 x2 x3, V g mX2_nearest 8 rtI 4 [(0, rf g a0), (1, .int x1), (2, .int x2), (3, .int x3)] [] (k4 a0 x1 x2 x3)) (a0 : Nat) (x1 : Int32) (x2 : Int32) (x3 : Int32) : V g mX2_nearest 8 rtI 39 [(0, rf g a0), (1, .int x1), (2, .int x2), (3, .int x3)] [] (f_X2_nearest_b39 k4 a0 x1 x2 x3) := by
  unfold f_X2_nearest_b39
  refine v_iinc (v := x3 + 1) (lv' := [(3, .int (x3 + 1)), (0, rf g a0), (1, .int x1), (2, .int x2)]) (pc' := 42) 3 dX2_nearest_39 rfl rfl (by decide) rfl rfl ?_
  refine v_goto (t := 4) dX2_nearest_42 (by decide) ?_
  refine V.sub [1, 2, 3, 0] rfl ?_
  exact hk4 a0 x1 x2 (x3 + 1)
set_option maxRecDepth 20000 in
theorem h_X2_nearest_b4 (g : GW) : ∀ n : Nat, ∀ a0 x1 x2 x3, V g mX2_nearest 8 rtI 4 [(0, rf g a0), (1, .int x1), (2, .int x2), (3, .int x3)] [] (f_X2_nearest_b4 n a0 x1 x2 x3) := by
  intro n
  induction n with
  | zero => intro a0 x1 x2 x3; exact V.vain
  | succ n ih =>
    intro a0 x1 x2 x3
    unfold f_X2_nearest_b4
    refine v_iload_n (pc' := 5) 3 dX2_nearest_4 rfl rfl rfl ?_
    refine v_aload_n (pc' := 6) 0 dX2_nearest_5 rfl rfl rfl ?_
    refine v_getI (pc' := 9) fl_X2_34 dX2_nearest_6 rfl fun v1 => ?_
    refine v_icmpge (t := 45) (pc' := 12) dX2_nearest_9 (by decide) rfl ?_ ?_
    · refine v_iload_n (pc' := 46) 2 dX2_nearest_45 rfl rfl rfl ?_
      exact v_ireturn rfl dX2_nearest_46
    · refine v_aload_n (pc' := 13) 0 dX2_nearest_12 rfl rfl rfl ?_
      refine v_getR (pc' := 16) fl_X2_9 dX2_nearest_13 rfl fun r2 => ?_
      refine v_iload_n (pc' := 17) 3 dX2_nearest_16 rfl rfl rfl ?_
      refine v_iald (pc' := 18) dX2_nearest_17 rfl fun v3 => ?_
      refine v_iload_n (pc' := 19) 1 dX2_nearest_18 rfl rfl rfl ?_
      refine v_ixor (pc' := 20) dX2_nearest_19 rfl ?_
      refine v_bc32 (pc' := 23) (by omega) (tg2 208 (by decide +kernel) (by decide +kernel)) (Nat.le_of_ble_eq_true rfl) rfl dX2_nearest_20 rfl ?_
      refine v_aload_n (pc' := 24) 0 dX2_nearest_23 rfl rfl rfl ?_
      refine v_getR (pc' := 27) fl_X2_9 dX2_nearest_24 rfl fun r4 => ?_
      refine v_iload_n (pc' := 28) 2 dX2_nearest_27 rfl rfl rfl ?_
      refine v_iald (pc' := 29) dX2_nearest_28 rfl fun v5 => ?_
      refine v_iload_n (pc' := 30) 1 dX2_nearest_29 rfl rfl rfl ?_
      refine v_ixor (pc' := 31) dX2_nearest_30 rfl ?_
      refine v_bc32 (pc' := 34) (by omega) (tg2 208 (by decide +kernel) (by decide +kernel)) (Nat.le_of_ble_eq_true rfl) rfl dX2_nearest_31 rfl ?_
      refine v_icmpge (t := 39) (pc' := 37) dX2_nearest_34 (by decide) rfl ?_ ?_
      · refine V.sub [0, 1, 2, 3] rfl ?_
        exact h_X2_nearest_b39 g (f_X2_nearest_b4 n) ih a0 x1 x2 x3
      · refine v_iload_n (pc' := 38) 3 dX2_nearest_37 rfl rfl rfl ?_
        refine v_istore_n (lv' := [(2, .int x3), (0, rf g a0), (1, .int x1), (3, .int x3)]) (pc' := 39) dX2_nearest_38 rfl (by decide) rfl rfl ?_
        refine V.sub [1, 2, 0, 3] rfl ?_
        exact h_X2_nearest_b39 g (f_X2_nearest_b4 n) ih a0 x1 x3 x3
set_option maxRecDepth 20000 in
theorem h_X2_nearest (g : GW) (a0 : Nat) (x1 : Int32) : V g mX2_nearest 8 rtI 0 [(0, rf g a0), (1, .int x1)] [] (f_X2_nearest a0 x1) := by
  unfold f_X2_nearest
  refine v_iconst (v := 0) (pc' := 1) dX2_nearest_0 rfl rfl ?_
  refine v_istore_n (lv' := [(2, .int 0), (0, rf g a0), (1, .int x1)]) (pc' := 2) dX2_nearest_1 rfl (by decide) rfl rfl ?_
  refine v_iconst (v := 1) (pc' := 3) dX2_nearest_2 rfl rfl ?_
  refine v_istore_n (lv' := [(3, .int 1), (2, .int 0), (0, rf g a0), (1, .int x1)]) (pc' := 4) dX2_nearest_3 rfl (by decide) rfl rfl ?_
  refine V.sub [2, 3, 1, 0] rfl ?_
  exact h_X2_nearest_b4 g NF a0 x1 0 1
-- together
def f_X2_together_b30 (k4 : Nat → Int32 → Int32 → Int32 → Mo Int32) (a0 : Nat) (x1 : Int32) (x2 : Int32) (x3 : Int32) : Mo Int32 := k4 a0 x1 x2 (x3 + 1)
def f_X2_together_b4 : Nat → Nat → Int32 → Int32 → Int32 → Mo Int32
  | 0, _, _, _, _ => fl
  | n + 1, a0, x1, x2, x3 => bd (gI 2 4 a0) fun v1 => if (v1 ≤ x3 : Prop) then (pu x2) else if (((x1 >>> (x3 &&& 31)) &&& (1 : Int32)) = 1 : Prop) then (bd (gR 2 0 a0) fun r2 => bd (al 0 r2 x3) fun v3 => f_X2_together_b30 (f_X2_together_b4 n) a0 x1 (x2 ||| v3) x3) else f_X2_together_b30 (f_X2_together_b4 n) a0 x1 x2 x3
def f_X2_together (a0 : Nat) (x1 : Int32) : Mo Int32 := f_X2_together_b4 NF a0 x1 0 0
set_option maxRecDepth 20000 in
theorem h_X2_together_b30 (g : GW) (k4 : Nat → Int32 → Int32 → Int32 → Mo Int32) (hk4 : ∀ a0 x1 x2 x3, V g mX2_together 8 rtI 4 [(0, rf g a0), (1, .int x1), (2, .int x2), (3, .int x3)] [] (k4 a0 x1 x2 x3)) (a0 : Nat) (x1 : Int32) (x2 : Int32) (x3 : Int32) : V g mX2_together 8 rtI 30 [(0, rf g a0), (1, .int x1), (2, .int x2), (3, .int x3)] [] (f_X2_together_b30 k4 a0 x1 x2 x3) := by
  unfold f_X2_together_b30
  refine v_iinc (v := x3 + 1) (lv' := [(3, .int (x3 + 1)), (0, rf g a0), (1, .int x1), (2, .int x2)]) (pc' := 33) 3 dX2_together_30 rfl rfl (by decide) rfl rfl ?_
  refine v_goto (t := 4) dX2_together_33 (by decide) ?_
  refine V.sub [1, 2, 3, 0] rfl ?_
  exact hk4 a0 x1 x2 (x3 + 1)
set_option maxRecDepth 20000 in
theorem h_X2_together_b4 (g : GW) : ∀ n : Nat, ∀ a0 x1 x2 x3, V g mX2_together 8 rtI 4 [(0, rf g a0), (1, .int x1), (2, .int x2), (3, .int x3)] [] (f_X2_together_b4 n a0 x1 x2 x3) := by
  intro n
  induction n with
  | zero => intro a0 x1 x2 x3; exact V.vain
  | succ n ih =>
    intro a0 x1 x2 x3
    unfold f_X2_together_b4
    refine v_iload_n (pc' := 5) 3 dX2_together_4 rfl rfl rfl ?_
    refine v_aload_n (pc' := 6) 0 dX2_together_5 rfl rfl rfl ?_
    refine v_getI (pc' := 9) fl_X2_34 dX2_together_6 rfl fun v1 => ?_
    refine v_icmpge (t := 36) (pc' := 12) dX2_together_9 (by decide) rfl ?_ ?_
    · refine v_iload_n (pc' := 37) 2 dX2_together_36 rfl rfl rfl ?_
      exact v_ireturn rfl dX2_together_37
    · refine v_iload_n (pc' := 13) 1 dX2_together_12 rfl rfl rfl ?_
      refine v_iload_n (pc' := 14) 3 dX2_together_13 rfl rfl rfl ?_
      refine v_ishr (pc' := 15) dX2_together_14 rfl ?_
      refine v_iconst (v := 1) (pc' := 16) dX2_together_15 rfl rfl ?_
      refine v_iand (pc' := 17) dX2_together_16 rfl ?_
      refine v_iconst (v := 1) (pc' := 18) dX2_together_17 rfl rfl ?_
      refine v_icmpne (t := 30) (pc' := 21) dX2_together_18 (by decide) rfl ?_ ?_
      · refine V.sub [0, 1, 2, 3] rfl ?_
        exact h_X2_together_b30 g (f_X2_together_b4 n) ih a0 x1 x2 x3
      · refine v_iload_n (pc' := 22) 2 dX2_together_21 rfl rfl rfl ?_
        refine v_aload_n (pc' := 23) 0 dX2_together_22 rfl rfl rfl ?_
        refine v_getR (pc' := 26) fl_X2_9 dX2_together_23 rfl fun r2 => ?_
        refine v_iload_n (pc' := 27) 3 dX2_together_26 rfl rfl rfl ?_
        refine v_iald (pc' := 28) dX2_together_27 rfl fun v3 => ?_
        refine v_ior (pc' := 29) dX2_together_28 rfl ?_
        refine v_istore_n (lv' := [(2, .int (x2 ||| v3)), (0, rf g a0), (1, .int x1), (3, .int x3)]) (pc' := 30) dX2_together_29 rfl (by decide) rfl rfl ?_
        refine V.sub [1, 2, 0, 3] rfl ?_
        exact h_X2_together_b30 g (f_X2_together_b4 n) ih a0 x1 (x2 ||| v3) x3
set_option maxRecDepth 20000 in
theorem h_X2_together (g : GW) (a0 : Nat) (x1 : Int32) : V g mX2_together 8 rtI 0 [(0, rf g a0), (1, .int x1)] [] (f_X2_together a0 x1) := by
  unfold f_X2_together
  refine v_iconst (v := 0) (pc' := 1) dX2_together_0 rfl rfl ?_
  refine v_istore_n (lv' := [(2, .int 0), (0, rf g a0), (1, .int x1)]) (pc' := 2) dX2_together_1 rfl (by decide) rfl rfl ?_
  refine v_iconst (v := 0) (pc' := 3) dX2_together_2 rfl rfl ?_
  refine v_istore_n (lv' := [(3, .int 0), (2, .int 0), (0, rf g a0), (1, .int x1)]) (pc' := 4) dX2_together_3 rfl (by decide) rfl rfl ?_
  refine V.sub [2, 3, 1, 0] rfl ?_
  exact h_X2_together_b4 g NF a0 x1 0 0
-- givenBy
def f_X2_givenBy_b38 (k5 : Nat → Int32 → Int32 → Int32 → Int32 → Mo Int32) (a0 : Nat) (x1 : Int32) (x2 : Int32) (x3 : Int32) (x4 : Int32) : Mo Int32 := k5 a0 x1 x2 x3 (x4 + 1)
def f_X2_givenBy_b5 : Nat → Nat → Int32 → Int32 → Int32 → Int32 → Mo Int32
  | 0, _, _, _, _, _ => fl
  | n + 1, a0, x1, x2, x3, x4 => bd (gI 2 4 a0) fun v1 => if (v1 ≤ x4 : Prop) then (pu x3) else if (((x1 >>> (x4 &&& 31)) &&& (1 : Int32)) = 1 : Prop) then (bd (gR 2 2 a0) fun r2 => bd (al 0 r2 x4) fun v3 => f_X2_givenBy_b38 (f_X2_givenBy_b5 n) a0 x1 x2 (x3 + (mn32 v3 x2)) x4) else f_X2_givenBy_b38 (f_X2_givenBy_b5 n) a0 x1 x2 x3 x4
def f_X2_givenBy (a0 : Nat) (x1 : Int32) (x2 : Int32) : Mo Int32 := f_X2_givenBy_b5 NF a0 x1 x2 0 0
set_option maxRecDepth 20000 in
theorem h_X2_givenBy_b38 (g : GW) (k5 : Nat → Int32 → Int32 → Int32 → Int32 → Mo Int32) (hk5 : ∀ a0 x1 x2 x3 x4, V g mX2_givenBy 8 rtI 5 [(0, rf g a0), (1, .int x1), (2, .int x2), (3, .int x3), (4, .int x4)] [] (k5 a0 x1 x2 x3 x4)) (a0 : Nat) (x1 : Int32) (x2 : Int32) (x3 : Int32) (x4 : Int32) : V g mX2_givenBy 8 rtI 38 [(0, rf g a0), (1, .int x1), (2, .int x2), (3, .int x3), (4, .int x4)] [] (f_X2_givenBy_b38 k5 a0 x1 x2 x3 x4) := by
  unfold f_X2_givenBy_b38
  refine v_iinc (v := x4 + 1) (lv' := [(4, .int (x4 + 1)), (0, rf g a0), (1, .int x1), (2, .int x2), (3, .int x3)]) (pc' := 41) 4 dX2_givenBy_38 rfl rfl (by decide) rfl rfl ?_
  refine v_goto (t := 5) dX2_givenBy_41 (by decide) ?_
  refine V.sub [1, 2, 3, 4, 0] rfl ?_
  exact hk5 a0 x1 x2 x3 (x4 + 1)
set_option maxRecDepth 20000 in
theorem h_X2_givenBy_b5 (g : GW) : ∀ n : Nat, ∀ a0 x1 x2 x3 x4, V g mX2_givenBy 8 rtI 5 [(0, rf g a0), (1, .int x1), (2, .int x2), (3, .int x3), (4, .int x4)] [] (f_X2_givenBy_b5 n a0 x1 x2 x3 x4) := by
  intro n
  induction n with
  | zero => intro a0 x1 x2 x3 x4; exact V.vain
  | succ n ih =>
    intro a0 x1 x2 x3 x4
    unfold f_X2_givenBy_b5
    refine v_iload (pc' := 7) 4 dX2_givenBy_5 rfl rfl ?_
    refine v_aload_n (pc' := 8) 0 dX2_givenBy_7 rfl rfl rfl ?_
    refine v_getI (pc' := 11) fl_X2_34 dX2_givenBy_8 rfl fun v1 => ?_
    refine v_icmpge (t := 44) (pc' := 14) dX2_givenBy_11 (by decide) rfl ?_ ?_
    · refine v_iload_n (pc' := 45) 3 dX2_givenBy_44 rfl rfl rfl ?_
      exact v_ireturn rfl dX2_givenBy_45
    · refine v_iload_n (pc' := 15) 1 dX2_givenBy_14 rfl rfl rfl ?_
      refine v_iload (pc' := 17) 4 dX2_givenBy_15 rfl rfl ?_
      refine v_ishr (pc' := 18) dX2_givenBy_17 rfl ?_
      refine v_iconst (v := 1) (pc' := 19) dX2_givenBy_18 rfl rfl ?_
      refine v_iand (pc' := 20) dX2_givenBy_19 rfl ?_
      refine v_iconst (v := 1) (pc' := 21) dX2_givenBy_20 rfl rfl ?_
      refine v_icmpne (t := 38) (pc' := 24) dX2_givenBy_21 (by decide) rfl ?_ ?_
      · refine V.sub [0, 1, 2, 3, 4] rfl ?_
        exact h_X2_givenBy_b38 g (f_X2_givenBy_b5 n) ih a0 x1 x2 x3 x4
      · refine v_iload_n (pc' := 25) 3 dX2_givenBy_24 rfl rfl rfl ?_
        refine v_aload_n (pc' := 26) 0 dX2_givenBy_25 rfl rfl rfl ?_
        refine v_getR (pc' := 29) fl_X2_18 dX2_givenBy_26 rfl fun r2 => ?_
        refine v_iload (pc' := 31) 4 dX2_givenBy_29 rfl rfl ?_
        refine v_iald (pc' := 32) dX2_givenBy_31 rfl fun v3 => ?_
        refine v_iload_n (pc' := 33) 2 dX2_givenBy_32 rfl rfl rfl ?_
        refine v_mn32 (pc' := 36) (by omega) (tg5 103 (by decide +kernel) (by decide +kernel)) (Nat.le_of_ble_eq_true rfl) rfl dX2_givenBy_33 rfl ?_
        refine v_iadd (pc' := 37) dX2_givenBy_36 rfl ?_
        refine v_istore_n (lv' := [(3, .int (x3 + (mn32 v3 x2))), (0, rf g a0), (1, .int x1), (2, .int x2), (4, .int x4)]) (pc' := 38) dX2_givenBy_37 rfl (by decide) rfl rfl ?_
        refine V.sub [1, 2, 3, 0, 4] rfl ?_
        exact h_X2_givenBy_b38 g (f_X2_givenBy_b5 n) ih a0 x1 x2 (x3 + (mn32 v3 x2)) x4
set_option maxRecDepth 20000 in
theorem h_X2_givenBy (g : GW) (a0 : Nat) (x1 : Int32) (x2 : Int32) : V g mX2_givenBy 8 rtI 0 [(0, rf g a0), (1, .int x1), (2, .int x2)] [] (f_X2_givenBy a0 x1 x2) := by
  unfold f_X2_givenBy
  refine v_iconst (v := 0) (pc' := 1) dX2_givenBy_0 rfl rfl ?_
  refine v_istore_n (lv' := [(3, .int 0), (0, rf g a0), (1, .int x1), (2, .int x2)]) (pc' := 2) dX2_givenBy_1 rfl (by decide) rfl rfl ?_
  refine v_iconst (v := 0) (pc' := 3) dX2_givenBy_2 rfl rfl ?_
  refine v_istore (lv' := [(4, .int 0), (3, .int 0), (0, rf g a0), (1, .int x1), (2, .int x2)]) (pc' := 5) dX2_givenBy_3 (by decide) rfl rfl ?_
  refine V.sub [2, 3, 4, 1, 0] rfl ?_
  exact h_X2_givenBy_b5 g NF a0 x1 x2 0 0
-- priceOf
def f_X2_priceOf (a0 : Nat) (x1 : Int32) : Mo Int32 := bd (cv 2 a0 (f_X2_givenBy a0 x1 40)) fun v1 => pu v1
set_option maxRecDepth 20000 in
theorem h_X2_priceOf (g : GW) (a0 : Nat) (x1 : Int32) : V g mX2_priceOf 9 rtI 0 [(0, rf g a0), (1, .int x1)] [] (f_X2_priceOf a0 x1) := by
  unfold f_X2_priceOf
  refine v_aload_n (pc' := 1) 0 dX2_priceOf_0 rfl rfl rfl ?_
  refine v_iload_n (pc' := 2) 1 dX2_priceOf_1 rfl rfl rfl ?_
  refine v_bipush (v := 40) (pc' := 4) dX2_priceOf_2 rfl rfl ?_
  refine v_callV (vs := [.int x1, .int 40]) (pc' := 7) (h_X2_givenBy g a0 x1 40) mv_X2_givenBy wl_X2_83 rfl (Nat.le_of_ble_eq_true rfl) (by omega) (by decide) (Nat.le_of_ble_eq_true rfl) rfl dX2_priceOf_4 rfl fun v1 => ?_
  exact v_ireturn rfl dX2_priceOf_7
