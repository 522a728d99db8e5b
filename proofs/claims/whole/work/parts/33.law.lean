-- put
def f_X4_put (a0 : Nat) (x1 : Int32) : Mo Int32 := bd (gI 4 2 a0) fun v1 => bd (gR 4 0 a0) fun r2 => bd (aLen r2) fun v3 => if (v1 < v3 : Prop) then (bd (gR 4 0 a0) fun r4 => bd (gI 4 2 a0) fun v5 => bd (as_ r4 v5 x1) fun _ => bd (gI 4 2 a0) fun v6 => bd (pf 4 2 a0 (.int (v6 + (1 : Int32)))) fun _ => pu 1) else pu 0
set_option maxRecDepth 20000 in
theorem h_X4_put (g : GW) (a0 : Nat) (x1 : Int32) : V g mX4_put 8 rtI 0 [(0, rf g a0), (1, .int x1)] [] (f_X4_put a0 x1) := by
  unfold f_X4_put
  refine v_aload_n (pc' := 1) 0 dX4_put_0 rfl rfl rfl ?_
  refine v_getI (pc' := 4) fl_X4_21 dX4_put_1 rfl fun v1 => ?_
  refine v_aload_n (pc' := 5) 0 dX4_put_4 rfl rfl rfl ?_
  refine v_getR (pc' := 8) fl_X4_9 dX4_put_5 rfl fun r2 => ?_
  refine v_alen (pc' := 9) dX4_put_8 rfl fun v3 => ?_
  refine v_icmplt (t := 14) (pc' := 12) dX4_put_9 (by decide) rfl ?_ ?_
  · refine v_aload_n (pc' := 15) 0 dX4_put_14 rfl rfl rfl ?_
    refine v_getR (pc' := 18) fl_X4_9 dX4_put_15 rfl fun r4 => ?_
    refine v_aload_n (pc' := 19) 0 dX4_put_18 rfl rfl rfl ?_
    refine v_getI (pc' := 22) fl_X4_21 dX4_put_19 rfl fun v5 => ?_
    refine v_iload_n (pc' := 23) 1 dX4_put_22 rfl rfl rfl ?_
    refine v_iast (pc' := 24) dX4_put_23 rfl ?_
    refine v_aload_n (pc' := 25) 0 dX4_put_24 rfl rfl rfl ?_
    refine v_dup (pc' := 26) dX4_put_25 rfl rfl ?_
    refine v_getI (pc' := 29) fl_X4_21 dX4_put_26 rfl fun v6 => ?_
    refine v_iconst (v := 1) (pc' := 30) dX4_put_29 rfl rfl ?_
    refine v_iadd (pc' := 31) dX4_put_30 rfl ?_
    refine v_put (v := (.int (v6 + (1 : Int32)))) (v' := .int (v6 + (1 : Int32))) (pc' := 34) fw_X4_21 rfl rfl rfl (fun h => nomatch h) dX4_put_31 rfl ?_
    refine v_iconst (v := 1) (pc' := 35) dX4_put_34 rfl rfl ?_
    exact v_zret rfl rfl dX4_put_35
  · refine v_iconst (v := 0) (pc' := 13) dX4_put_12 rfl rfl ?_
    exact v_zret rfl rfl dX4_put_13
-- setUsual
def f_X4_setUsual (a0 : Nat) : Mo Unit := bd (pf 4 2 a0 (.int 0)) fun _ => bd (cv 4 a0 (f_X4_put a0 1000)) fun v1 => bd (cv 4 a0 (f_X4_put a0 1002)) fun v2 => bd (cv 4 a0 (f_X4_put a0 2000)) fun v3 => pu ()
set_option maxRecDepth 20000 in
theorem h_X4_setUsual (g : GW) (a0 : Nat) : V g mX4_setUsual 9 rtU 0 [(0, rf g a0)] [] (f_X4_setUsual a0) := by
  unfold f_X4_setUsual
  refine v_aload_n (pc' := 1) 0 dX4_setUsual_0 rfl rfl rfl ?_
  refine v_iconst (v := 0) (pc' := 2) dX4_setUsual_1 rfl rfl ?_
  refine v_put (v := (.int 0)) (v' := .int 0) (pc' := 5) fw_X4_21 rfl rfl rfl (fun h => nomatch h) dX4_setUsual_2 rfl ?_
  refine v_aload_n (pc' := 6) 0 dX4_setUsual_5 rfl rfl rfl ?_
  refine v_sipush (v := 1000) (pc' := 9) dX4_setUsual_6 rfl rfl ?_
  refine v_callV (vs := [.int 1000]) (pc' := 12) (h_X4_put g a0 1000) mv_X4_put wl_X4_25 rfl (Nat.le_of_ble_eq_true rfl) (by omega) (by decide) (Nat.le_of_ble_eq_true rfl) rfl dX4_setUsual_9 rfl fun v1 => ?_
  refine v_pop (pc' := 13) dX4_setUsual_12 rfl rfl ?_
  refine v_aload_n (pc' := 14) 0 dX4_setUsual_13 rfl rfl rfl ?_
  refine v_sipush (v := 1002) (pc' := 17) dX4_setUsual_14 rfl rfl ?_
  refine v_callV (vs := [.int 1002]) (pc' := 20) (h_X4_put g a0 1002) mv_X4_put wl_X4_25 rfl (Nat.le_of_ble_eq_true rfl) (by omega) (by decide) (Nat.le_of_ble_eq_true rfl) rfl dX4_setUsual_17 rfl fun v2 => ?_
  refine v_pop (pc' := 21) dX4_setUsual_20 rfl rfl ?_
  refine v_aload_n (pc' := 22) 0 dX4_setUsual_21 rfl rfl rfl ?_
  refine v_sipush (v := 2000) (pc' := 25) dX4_setUsual_22 rfl rfl ?_
  refine v_callV (vs := [.int 2000]) (pc' := 28) (h_X4_put g a0 2000) mv_X4_put wl_X4_25 rfl (Nat.le_of_ble_eq_true rfl) (by omega) (by decide) (Nat.le_of_ble_eq_true rfl) rfl dX4_setUsual_25 rfl fun v3 => ?_
  refine v_pop (pc' := 29) dX4_setUsual_28 rfl rfl ?_
  exact v_return rfl dX4_setUsual_29
-- <init>
def f_X4_init (a0 : Nat) : Mo Unit := bd (nA 0 150) fun r1 => bd (pf 4 0 a0 (.ref r1)) fun _ => bd (nA 0 24) fun r2 => bd (pf 4 1 a0 (.ref r2)) fun _ => bd (cv 4 a0 (f_X4_setUsual a0)) fun _ => pu ()
set_option maxRecDepth 20000 in
theorem h_X4_init (g : GW) (a0 : Nat) : V g mX4_init 10 rtU 0 [(0, rf g a0)] [] (f_X4_init a0) := by
  unfold f_X4_init
  refine v_aload_n (pc' := 1) 0 dX4_init_0 rfl rfl rfl ?_
  refine v_objInit (pc' := 4) (tg1 119 (by decide +kernel) (by decide +kernel)) wo_inst wo_code (by omega) (Nat.le_of_ble_eq_true rfl) dX4_init_1 rfl ?_
  refine v_aload_n (pc' := 5) 0 dX4_init_4 rfl rfl rfl ?_
  refine v_sipush (v := 150) (pc' := 8) dX4_init_5 rfl rfl ?_
  refine v_newI (pc' := 10) wa_int dX4_init_8 rfl fun r1 => ?_
  refine v_put (v := (.ref r1)) (v' := rf g r1) (pc' := 13) fw_X4_9 rfl rfl rfl (fun _ => rfl) dX4_init_10 rfl ?_
  refine v_aload_n (pc' := 14) 0 dX4_init_13 rfl rfl rfl ?_
  refine v_bipush (v := 24) (pc' := 16) dX4_init_14 rfl rfl ?_
  refine v_newI (pc' := 18) wa_int dX4_init_16 rfl fun r2 => ?_
  refine v_put (v := (.ref r2)) (v' := rf g r2) (pc' := 21) fw_X4_15 rfl rfl rfl (fun _ => rfl) dX4_init_18 rfl ?_
  refine v_aload_n (pc' := 22) 0 dX4_init_21 rfl rfl rfl ?_
  refine v_callV (vs := []) (pc' := 25) (h_X4_setUsual g a0) mv_X4_setUsual wl_X4_18 rfl (Nat.le_of_ble_eq_true rfl) (by omega) (by decide) (Nat.le_of_ble_eq_true rfl) rfl dX4_init_22 rfl fun _ => ?_
  exact v_return rfl dX4_init_25
-- copyFrom
def f_X4_copyFrom (a0 : Nat) (a1 : Nat) : Mo Unit := bd (gR 4 0 a1) fun r1 => bd (gR 4 0 a0) fun r2 => bd (cp_ r1 0 r2 0 150) fun _ => bd (gI 4 2 a1) fun v3 => bd (pf 4 2 a0 (.int v3)) fun _ => pu ()
set_option maxRecDepth 20000 in
theorem h_X4_copyFrom (g : GW) (a0 : Nat) (a1 : Nat) : V g mX4_copyFrom 8 rtU 0 [(0, rf g a0), (1, rf g a1)] [] (f_X4_copyFrom a0 a1) := by
  unfold f_X4_copyFrom
  refine v_aload_n (pc' := 1) 1 dX4_copyFrom_0 rfl rfl rfl ?_
  refine v_getR (pc' := 4) fl_X4_9 dX4_copyFrom_1 rfl fun r1 => ?_
  refine v_iconst (v := 0) (pc' := 5) dX4_copyFrom_4 rfl rfl ?_
  refine v_aload_n (pc' := 6) 0 dX4_copyFrom_5 rfl rfl rfl ?_
  refine v_getR (pc' := 9) fl_X4_9 dX4_copyFrom_6 rfl fun r2 => ?_
  refine v_iconst (v := 0) (pc' := 10) dX4_copyFrom_9 rfl rfl ?_
  refine v_sipush (v := 150) (pc' := 13) dX4_copyFrom_10 rfl rfl ?_
  refine v_copy (pc' := 16) (tg4 71 (by decide +kernel) (by decide +kernel)) wy_nat wy_stat wy_ini (by omega) (Nat.le_of_ble_eq_true rfl) dX4_copyFrom_13 rfl ?_
  refine v_aload_n (pc' := 17) 0 dX4_copyFrom_16 rfl rfl rfl ?_
  refine v_aload_n (pc' := 18) 1 dX4_copyFrom_17 rfl rfl rfl ?_
  refine v_getI (pc' := 21) fl_X4_21 dX4_copyFrom_18 rfl fun v3 => ?_
  refine v_put (v := (.int v3)) (v' := .int v3) (pc' := 24) fw_X4_21 rfl rfl rfl (fun h => nomatch h) dX4_copyFrom_21 rfl ?_
  exact v_return rfl dX4_copyFrom_24
-- readBracket
def f_X4_readBracket (rec : Nat → Nat → Int32 → Mo Int32) (a0 : Nat) (a1 : Nat) (x2 : Int32) : Mo Int32 := if (x2 < 6 : Prop) then (bd (cv 8 a1 (f_X8_need a1 40)) fun v1 => if (v1 = 0 : Prop) then (pu 0) else bd (cv 4 a0 (rec a0 a1 (x2 + (1 : Int32)))) fun v2 => if (v2 = 0 : Prop) then (pu 0) else bd (cv 8 a1 (f_X8_need a1 41)) fun v3 => if (v3 = 0 : Prop) then (pu 0) else pu 1) else bd (gI 8 3 a1) fun v4 => bd (cv 8 a1 (f_X8_fail a1 3 v4)) fun v5 => rz v5
set_option maxRecDepth 20000 in
theorem h_X4_readBracket (g : GW) (rec : Nat → Nat → Int32 → Mo Int32) (e : Nat) (he : 10 ≤ e) (hrec : ∀ a0 a1 x2, V g mX4_readSum e rtI 0 [(0, rf g a0), (1, rf g a1), (2, .int x2)] [] (rec a0 a1 x2)) (a0 : Nat) (a1 : Nat) (x2 : Int32) : V g mX4_readBracket (e + 1) rtI 0 [(0, rf g a0), (1, rf g a1), (2, .int x2)] [] (f_X4_readBracket rec a0 a1 x2) := by
  unfold f_X4_readBracket
  refine v_iload_n (pc' := 1) 2 dX4_readBracket_0 rfl rfl rfl ?_
  refine v_bipush (v := 6) (pc' := 3) dX4_readBracket_1 rfl rfl ?_
  refine v_icmplt (t := 16) (pc' := 6) dX4_readBracket_3 (by decide) rfl ?_ ?_
  · refine v_aload_n (pc' := 17) 1 dX4_readBracket_16 rfl rfl rfl ?_
    refine v_bipush (v := 40) (pc' := 19) dX4_readBracket_17 rfl rfl ?_
    refine v_callV (vs := [.int 40]) (pc' := 22) (h_X8_need g a1 40) mv_X8_need wl_X4_84 rfl (Nat.le_of_ble_eq_true rfl) (by omega) (by decide) (Nat.le_of_ble_eq_true rfl) rfl dX4_readBracket_19 rfl fun v1 => ?_
    refine v_ifeq (t := 49) (pc' := 25) dX4_readBracket_22 (by decide) rfl ?_ ?_
    · refine v_iconst (v := 0) (pc' := 50) dX4_readBracket_49 rfl rfl ?_
      exact v_zret rfl rfl dX4_readBracket_50
    · refine v_aload_n (pc' := 26) 0 dX4_readBracket_25 rfl rfl rfl ?_
      refine v_aload_n (pc' := 27) 1 dX4_readBracket_26 rfl rfl rfl ?_
      refine v_iload_n (pc' := 28) 2 dX4_readBracket_27 rfl rfl rfl ?_
      refine v_iconst (v := 1) (pc' := 29) dX4_readBracket_28 rfl rfl ?_
      refine v_iadd (pc' := 30) dX4_readBracket_29 rfl ?_
      refine v_callV (vs := [rf g a1, .int (x2 + (1 : Int32))]) (pc' := 33) (hrec a0 a1 (x2 + (1 : Int32))) mv_X4_readSum wl_X4_35 rfl (Nat.le_of_ble_eq_true rfl) (by omega) (by decide) (Nat.le_of_ble_eq_true rfl) rfl dX4_readBracket_30 rfl fun v2 => ?_
      refine v_ifeq (t := 49) (pc' := 36) dX4_readBracket_33 (by decide) rfl ?_ ?_
      · refine v_iconst (v := 0) (pc' := 50) dX4_readBracket_49 rfl rfl ?_
        exact v_zret rfl rfl dX4_readBracket_50
      · refine v_aload_n (pc' := 37) 1 dX4_readBracket_36 rfl rfl rfl ?_
        refine v_bipush (v := 41) (pc' := 39) dX4_readBracket_37 rfl rfl ?_
        refine v_callV (vs := [.int 41]) (pc' := 42) (h_X8_need g a1 41) mv_X8_need wl_X4_84 rfl (Nat.le_of_ble_eq_true rfl) (by omega) (by decide) (Nat.le_of_ble_eq_true rfl) rfl dX4_readBracket_39 rfl fun v3 => ?_
        refine v_ifeq (t := 49) (pc' := 45) dX4_readBracket_42 (by decide) rfl ?_ ?_
        · refine v_iconst (v := 0) (pc' := 50) dX4_readBracket_49 rfl rfl ?_
          exact v_zret rfl rfl dX4_readBracket_50
        · refine v_iconst (v := 1) (pc' := 46) dX4_readBracket_45 rfl rfl ?_
          refine v_goto (t := 50) dX4_readBracket_46 (by decide) ?_
          exact v_zret rfl rfl dX4_readBracket_50
  · refine v_aload_n (pc' := 7) 1 dX4_readBracket_6 rfl rfl rfl ?_
    refine v_iconst (v := 3) (pc' := 8) dX4_readBracket_7 rfl rfl ?_
    refine v_aload_n (pc' := 9) 1 dX4_readBracket_8 rfl rfl rfl ?_
    refine v_getI (pc' := 12) fl_X4_45 dX4_readBracket_9 rfl fun v4 => ?_
    refine v_callV (vs := [.int 3, .int v4]) (pc' := 15) (h_X8_fail g a1 3 v4) mv_X8_fail wl_X4_48 rfl (Nat.le_of_ble_eq_true rfl) (by omega) (by decide) (Nat.le_of_ble_eq_true rfl) rfl dX4_readBracket_12 rfl fun v5 => ?_
    exact v_zretV rfl dX4_readBracket_15
-- readPair
def f_X4_readPair (rec : Nat → Nat → Int32 → Mo Int32) (a0 : Nat) (a1 : Nat) (x2 : Int32) (x3 : Int32) : Mo Int32 := if (x2 < 6 : Prop) then (bd (cv 8 a1 (f_X8_need a1 91)) fun v1 => if (v1 = 0 : Prop) then (pu 0) else bd (cv 4 a0 (rec a0 a1 (x2 + (1 : Int32)))) fun v2 => if (v2 = 0 : Prop) then (pu 0) else bd (cv 8 a1 (f_X8_need a1 44)) fun v3 => if (v3 = 0 : Prop) then (pu 0) else bd (cv 4 a0 (rec a0 a1 (x2 + (1 : Int32)))) fun v4 => if (v4 = 0 : Prop) then (pu 0) else bd (cv 8 a1 (f_X8_need a1 93)) fun v5 => if (v5 = 0 : Prop) then (pu 0) else bd (cv 4 a0 (f_X4_put a0 x3)) fun v6 => if (v6 = 0 : Prop) then (pu 0) else pu 1) else bd (gI 8 4 a1) fun v7 => bd (cv 8 a1 (f_X8_fail a1 3 v7)) fun v8 => rz v8
set_option maxRecDepth 20000 in
theorem h_X4_readPair (g : GW) (rec : Nat → Nat → Int32 → Mo Int32) (e : Nat) (he : 10 ≤ e) (hrec : ∀ a0 a1 x2, V g mX4_readSum e rtI 0 [(0, rf g a0), (1, rf g a1), (2, .int x2)] [] (rec a0 a1 x2)) (a0 : Nat) (a1 : Nat) (x2 : Int32) (x3 : Int32) : V g mX4_readPair (e + 1) rtI 0 [(0, rf g a0), (1, rf g a1), (2, .int x2), (3, .int x3)] [] (f_X4_readPair rec a0 a1 x2 x3) := by
  unfold f_X4_readPair
  refine v_iload_n (pc' := 1) 2 dX4_readPair_0 rfl rfl rfl ?_
  refine v_bipush (v := 6) (pc' := 3) dX4_readPair_1 rfl rfl ?_
  refine v_icmplt (t := 16) (pc' := 6) dX4_readPair_3 (by decide) rfl ?_ ?_
  · refine v_aload_n (pc' := 17) 1 dX4_readPair_16 rfl rfl rfl ?_
    refine v_bipush (v := 91) (pc' := 19) dX4_readPair_17 rfl rfl ?_
    refine v_callV (vs := [.int 91]) (pc' := 22) (h_X8_need g a1 91) mv_X8_need wl_X4_84 rfl (Nat.le_of_ble_eq_true rfl) (by omega) (by decide) (Nat.le_of_ble_eq_true rfl) rfl dX4_readPair_19 rfl fun v1 => ?_
    refine v_ifeq (t := 77) (pc' := 25) dX4_readPair_22 (by decide) rfl ?_ ?_
    · refine v_iconst (v := 0) (pc' := 78) dX4_readPair_77 rfl rfl ?_
      exact v_zret rfl rfl dX4_readPair_78
    · refine v_aload_n (pc' := 26) 0 dX4_readPair_25 rfl rfl rfl ?_
      refine v_aload_n (pc' := 27) 1 dX4_readPair_26 rfl rfl rfl ?_
      refine v_iload_n (pc' := 28) 2 dX4_readPair_27 rfl rfl rfl ?_
      refine v_iconst (v := 1) (pc' := 29) dX4_readPair_28 rfl rfl ?_
      refine v_iadd (pc' := 30) dX4_readPair_29 rfl ?_
      refine v_callV (vs := [rf g a1, .int (x2 + (1 : Int32))]) (pc' := 33) (hrec a0 a1 (x2 + (1 : Int32))) mv_X4_readSum wl_X4_35 rfl (Nat.le_of_ble_eq_true rfl) (by omega) (by decide) (Nat.le_of_ble_eq_true rfl) rfl dX4_readPair_30 rfl fun v2 => ?_
      refine v_ifeq (t := 77) (pc' := 36) dX4_readPair_33 (by decide) rfl ?_ ?_
      · refine v_iconst (v := 0) (pc' := 78) dX4_readPair_77 rfl rfl ?_
        exact v_zret rfl rfl dX4_readPair_78
      · refine v_aload_n (pc' := 37) 1 dX4_readPair_36 rfl rfl rfl ?_
        refine v_bipush (v := 44) (pc' := 39) dX4_readPair_37 rfl rfl ?_
        refine v_callV (vs := [.int 44]) (pc' := 42) (h_X8_need g a1 44) mv_X8_need wl_X4_84 rfl (Nat.le_of_ble_eq_true rfl) (by omega) (by decide) (Nat.le_of_ble_eq_true rfl) rfl dX4_readPair_39 rfl fun v3 => ?_
        refine v_ifeq (t := 77) (pc' := 45) dX4_readPair_42 (by decide) rfl ?_ ?_
        · refine v_iconst (v := 0) (pc' := 78) dX4_readPair_77 rfl rfl ?_
          exact v_zret rfl rfl dX4_readPair_78
        · refine v_aload_n (pc' := 46) 0 dX4_readPair_45 rfl rfl rfl ?_
          refine v_aload_n (pc' := 47) 1 dX4_readPair_46 rfl rfl rfl ?_
          refine v_iload_n (pc' := 48) 2 dX4_readPair_47 rfl rfl rfl ?_
          refine v_iconst (v := 1) (pc' := 49) dX4_readPair_48 rfl rfl ?_
          refine v_iadd (pc' := 50) dX4_readPair_49 rfl ?_
          refine v_callV (vs := [rf g a1, .int (x2 + (1 : Int32))]) (pc' := 53) (hrec a0 a1 (x2 + (1 : Int32))) mv_X4_readSum wl_X4_35 rfl (Nat.le_of_ble_eq_true rfl) (by omega) (by decide) (Nat.le_of_ble_eq_true rfl) rfl dX4_readPair_50 rfl fun v4 => ?_
          refine v_ifeq (t := 77) (pc' := 56) dX4_readPair_53 (by decide) rfl ?_ ?_
          · refine v_iconst (v := 0) (pc' := 78) dX4_readPair_77 rfl rfl ?_
            exact v_zret rfl rfl dX4_readPair_78
          · refine v_aload_n (pc' := 57) 1 dX4_readPair_56 rfl rfl rfl ?_
            refine v_bipush (v := 93) (pc' := 59) dX4_readPair_57 rfl rfl ?_
            refine v_callV (vs := [.int 93]) (pc' := 62) (h_X8_need g a1 93) mv_X8_need wl_X4_84 rfl (Nat.le_of_ble_eq_true rfl) (by omega) (by decide) (Nat.le_of_ble_eq_true rfl) rfl dX4_readPair_59 rfl fun v5 => ?_
            refine v_ifeq (t := 77) (pc' := 65) dX4_readPair_62 (by decide) rfl ?_ ?_
            · refine v_iconst (v := 0) (pc' := 78) dX4_readPair_77 rfl rfl ?_
              exact v_zret rfl rfl dX4_readPair_78
            · refine v_aload_n (pc' := 66) 0 dX4_readPair_65 rfl rfl rfl ?_
              refine v_iload_n (pc' := 67) 3 dX4_readPair_66 rfl rfl rfl ?_
              refine v_callV (vs := [.int x3]) (pc' := 70) (h_X4_put g a0 x3) mv_X4_put wl_X4_25 rfl (Nat.le_of_ble_eq_true rfl) (by omega) (by decide) (Nat.le_of_ble_eq_true rfl) rfl dX4_readPair_67 rfl fun v6 => ?_
              refine v_ifeq (t := 77) (pc' := 73) dX4_readPair_70 (by decide) rfl ?_ ?_
              · refine v_iconst (v := 0) (pc' := 78) dX4_readPair_77 rfl rfl ?_
                exact v_zret rfl rfl dX4_readPair_78
              · refine v_iconst (v := 1) (pc' := 74) dX4_readPair_73 rfl rfl ?_
                refine v_goto (t := 78) dX4_readPair_74 (by decide) ?_
                exact v_zret rfl rfl dX4_readPair_78
  · refine v_aload_n (pc' := 7) 1 dX4_readPair_6 rfl rfl rfl ?_
    refine v_iconst (v := 3) (pc' := 8) dX4_readPair_7 rfl rfl ?_
    refine v_aload_n (pc' := 9) 1 dX4_readPair_8 rfl rfl rfl ?_
    refine v_getI (pc' := 12) fl_X4_87 dX4_readPair_9 rfl fun v7 => ?_
    refine v_callV (vs := [.int 3, .int v7]) (pc' := 15) (h_X8_fail g a1 3 v7) mv_X8_fail wl_X4_48 rfl (Nat.le_of_ble_eq_true rfl) (by omega) (by decide) (Nat.le_of_ble_eq_true rfl) rfl dX4_readPair_12 rfl fun v8 => ?_
    exact v_zretV rfl dX4_readPair_15
-- readUnit
def f_X4_readUnit_b100 (rec : Nat → Nat → Int32 → Mo Int32) (xs0 : Int32) (xs1 : Int32) (as2 : Nat) (as3 : Nat) : Mo Int32 := bd (cv 4 as3 (f_X4_readPair rec as3 as2 xs1 xs0)) fun v1 => rz v1
def f_X4_readUnit (rec : Nat → Nat → Int32 → Mo Int32) (a0 : Nat) (a1 : Nat) (x2 : Int32) : Mo Int32 := bd (cv 8 a1 (f_X8_nextIsDigit a1)) fun v2 => if (v2 = 0 : Prop) then (bd (cv 8 a1 (f_X8_nextIs a1 40)) fun v3 => if (v3 = 0 : Prop) then (bd (cv 8 a1 (f_X8_word a1 1)) fun v4 => if (v4 = (-1) : Prop) then (pu 0) else if (8 ≤ v4 : Prop) then (if (v4 = 8 : Prop) then (f_X4_readUnit_b100 rec 2005 x2 a1 a0) else f_X4_readUnit_b100 rec 2006 x2 a1 a0) else bd (cv 4 a0 (f_X4_put a0 ((1000 : Int32) + v4))) fun v5 => rz v5) else bd (cv 4 a0 (f_X4_readBracket rec a0 a1 x2)) fun v6 => rz v6) else bd (cv 8 a1 (f_X8_number a1 999)) fun v7 => if (v7 = (-1) : Prop) then (pu 0) else bd (cv 4 a0 (f_X4_put a0 v7)) fun v8 => if (v8 = 0 : Prop) then (pu 0) else pu 1
set_option maxRecDepth 20000 in
theorem h_X4_readUnit_b100 (g : GW) (rec : Nat → Nat → Int32 → Mo Int32) (e : Nat) (he : 10 ≤ e) (hrec : ∀ a0 a1 x2, V g mX4_readSum e rtI 0 [(0, rf g a0), (1, rf g a1), (2, .int x2)] [] (rec a0 a1 x2)) (xs0 : Int32) (xs1 : Int32) (as2 : Nat) (as3 : Nat) : V g mX4_readUnit (e + 2) rtI 100 [] [.int xs0, .int xs1, rf g as2, rf g as3] (f_X4_readUnit_b100 rec xs0 xs1 as2 as3) := by
  unfold f_X4_readUnit_b100
  refine v_callV (vs := [rf g as2, .int xs1, .int xs0]) (pc' := 103) (h_X4_readPair g rec e he hrec as3 as2 xs1 xs0) mv_X4_readPair wl_X4_80 rfl (Nat.le_of_ble_eq_true rfl) (by omega) (by decide) (Nat.le_of_ble_eq_true rfl) rfl dX4_readUnit_100 rfl fun v1 => ?_
  exact v_zretV rfl dX4_readUnit_103
set_option maxRecDepth 20000 in
theorem h_X4_readUnit (g : GW) (rec : Nat → Nat → Int32 → Mo Int32) (e : Nat) (he : 10 ≤ e) (hrec : ∀ a0 a1 x2, V g mX4_readSum e rtI 0 [(0, rf g a0), (1, rf g a1), (2, .int x2)] [] (rec a0 a1 x2)) (a0 : Nat) (a1 : Nat) (x2 : Int32) : V g mX4_readUnit (e + 2) rtI 0 [(0, rf g a0), (1, rf g a1), (2, .int x2)] [] (f_X4_readUnit rec a0 a1 x2) := by
  unfold f_X4_readUnit
  refine v_aload_n (pc' := 1) 1 dX4_readUnit_0 rfl rfl rfl ?_
  refine v_callV (vs := []) (pc' := 4) (h_X8_nextIsDigit g a1) mv_X8_nextIsDigit wl_X4_61 rfl (Nat.le_of_ble_eq_true rfl) (by omega) (by decide) (Nat.le_of_ble_eq_true rfl) rfl dX4_readUnit_1 rfl fun v2 => ?_
  refine v_ifeq (t := 34) (pc' := 7) dX4_readUnit_4 (by decide) rfl ?_ ?_
  · refine v_aload_n (pc' := 35) 1 dX4_readUnit_34 rfl rfl rfl ?_
    refine v_bipush (v := 40) (pc' := 37) dX4_readUnit_35 rfl rfl ?_
    refine v_callV (vs := [.int 40]) (pc' := 40) (h_X8_nextIs g a1 40) mv_X8_nextIs wl_X4_68 rfl (Nat.le_of_ble_eq_true rfl) (by omega) (by decide) (Nat.le_of_ble_eq_true rfl) rfl dX4_readUnit_37 rfl fun v3 => ?_
    refine v_ifeq (t := 50) (pc' := 43) dX4_readUnit_40 (by decide) rfl ?_ ?_
    · refine v_aload_n (pc' := 51) 1 dX4_readUnit_50 rfl rfl rfl ?_
      refine v_ldcS (pc' := 53) 1 (fun _ _ h => h.2.2.2.2.1.2.1) dX4_readUnit_51 rfl ?_
      refine v_callV (vs := [.ref (gK g 1)]) (pc' := 56) (h_X8_word g a1 1) mv_X8_word wl_X4_76 rfl (Nat.le_of_ble_eq_true rfl) (by omega) (by decide) (Nat.le_of_ble_eq_true rfl) rfl dX4_readUnit_53 rfl fun v4 => ?_
      refine v_istore_n (lv' := [(3, .int v4), (0, rf g a0), (1, rf g a1), (2, .int x2)]) (pc' := 57) dX4_readUnit_56 rfl (by decide) rfl rfl ?_
      refine v_iload_n (pc' := 58) 0 dX4_readUnit_57 rfl rfl rfl ?_
      refine v_iconst (v := -1) (pc' := 59) dX4_readUnit_58 rfl rfl ?_
      refine v_icmpne (t := 64) (pc' := 62) dX4_readUnit_59 (by decide) rfl ?_ ?_
      · refine v_iload_n (pc' := 65) 0 dX4_readUnit_64 rfl rfl rfl ?_
        refine v_bipush (v := 8) (pc' := 67) dX4_readUnit_65 rfl rfl ?_
        refine v_icmpge (t := 82) (pc' := 70) dX4_readUnit_67 (by decide) rfl ?_ ?_
        · refine v_aload_n (pc' := 83) 1 dX4_readUnit_82 rfl rfl rfl ?_
          refine v_aload_n (pc' := 84) 2 dX4_readUnit_83 rfl rfl rfl ?_
          refine v_iload_n (pc' := 85) 3 dX4_readUnit_84 rfl rfl rfl ?_
          refine v_iload_n (pc' := 86) 0 dX4_readUnit_85 rfl rfl rfl ?_
          refine v_bipush (v := 8) (pc' := 88) dX4_readUnit_86 rfl rfl ?_
          refine v_icmpne (t := 97) (pc' := 91) dX4_readUnit_88 (by decide) rfl ?_ ?_
          · refine v_sipush (v := 2006) (pc' := 100) dX4_readUnit_97 rfl rfl ?_
            refine V.sub [] rfl ?_
            exact h_X4_readUnit_b100 g rec e he hrec 2006 x2 a1 a0
          · refine v_sipush (v := 2005) (pc' := 94) dX4_readUnit_91 rfl rfl ?_
            refine v_goto (t := 100) dX4_readUnit_94 (by decide) ?_
            refine V.sub [] rfl ?_
            exact h_X4_readUnit_b100 g rec e he hrec 2005 x2 a1 a0
        · refine v_aload_n (pc' := 71) 1 dX4_readUnit_70 rfl rfl rfl ?_
          refine v_sipush (v := 1000) (pc' := 74) dX4_readUnit_71 rfl rfl ?_
          refine v_iload_n (pc' := 75) 0 dX4_readUnit_74 rfl rfl rfl ?_
          refine v_iadd (pc' := 76) dX4_readUnit_75 rfl ?_
          refine v_callV (vs := [.int ((1000 : Int32) + v4)]) (pc' := 79) (h_X4_put g a0 ((1000 : Int32) + v4)) mv_X4_put wl_X4_25 rfl (Nat.le_of_ble_eq_true rfl) (by omega) (by decide) (Nat.le_of_ble_eq_true rfl) rfl dX4_readUnit_76 rfl fun v5 => ?_
          refine v_goto (t := 103) dX4_readUnit_79 (by decide) ?_
          exact v_zretV rfl dX4_readUnit_103
      · refine v_iconst (v := 0) (pc' := 63) dX4_readUnit_62 rfl rfl ?_
        exact v_zret rfl rfl dX4_readUnit_63
    · refine v_aload_n (pc' := 44) 0 dX4_readUnit_43 rfl rfl rfl ?_
      refine v_aload_n (pc' := 45) 1 dX4_readUnit_44 rfl rfl rfl ?_
      refine v_iload_n (pc' := 46) 2 dX4_readUnit_45 rfl rfl rfl ?_
      refine v_callV (vs := [rf g a1, .int x2]) (pc' := 49) (h_X4_readBracket g rec e he hrec a0 a1 x2) mv_X4_readBracket wl_X4_71 rfl (Nat.le_of_ble_eq_true rfl) (by omega) (by decide) (Nat.le_of_ble_eq_true rfl) rfl dX4_readUnit_46 rfl fun v6 => ?_
      exact v_zretV rfl dX4_readUnit_49
  · refine v_aload_n (pc' := 8) 1 dX4_readUnit_7 rfl rfl rfl ?_
    refine v_sipush (v := 999) (pc' := 11) dX4_readUnit_8 rfl rfl ?_
    refine v_callV (vs := [.int 999]) (pc' := 14) (h_X8_number g a1 999) mv_X8_number wl_X4_64 rfl (Nat.le_of_ble_eq_true rfl) (by omega) (by decide) (Nat.le_of_ble_eq_true rfl) rfl dX4_readUnit_11 rfl fun v7 => ?_
    refine v_istore_n (lv' := [(3, .int v7), (0, rf g a0), (1, rf g a1), (2, .int x2)]) (pc' := 15) dX4_readUnit_14 rfl (by decide) rfl rfl ?_
    refine v_iload_n (pc' := 16) 0 dX4_readUnit_15 rfl rfl rfl ?_
    refine v_iconst (v := -1) (pc' := 17) dX4_readUnit_16 rfl rfl ?_
    refine v_icmpeq (t := 32) (pc' := 20) dX4_readUnit_17 (by decide) rfl ?_ ?_
    · refine v_iconst (v := 0) (pc' := 33) dX4_readUnit_32 rfl rfl ?_
      exact v_zret rfl rfl dX4_readUnit_33
    · refine v_aload_n (pc' := 21) 1 dX4_readUnit_20 rfl rfl rfl ?_
      refine v_iload_n (pc' := 22) 0 dX4_readUnit_21 rfl rfl rfl ?_
      refine v_callV (vs := [.int v7]) (pc' := 25) (h_X4_put g a0 v7) mv_X4_put wl_X4_25 rfl (Nat.le_of_ble_eq_true rfl) (by omega) (by decide) (Nat.le_of_ble_eq_true rfl) rfl dX4_readUnit_22 rfl fun v8 => ?_
      refine v_ifeq (t := 32) (pc' := 28) dX4_readUnit_25 (by decide) rfl ?_ ?_
      · refine v_iconst (v := 0) (pc' := 33) dX4_readUnit_32 rfl rfl ?_
        exact v_zret rfl rfl dX4_readUnit_33
      · refine v_iconst (v := 1) (pc' := 29) dX4_readUnit_28 rfl rfl ?_
        refine v_goto (t := 33) dX4_readUnit_29 (by decide) ?_
        exact v_zret rfl rfl dX4_readUnit_33
-- readProduct
def f_X4_readProduct_b101 (rec : Nat → Nat → Int32 → Mo Int32) (k10 : Nat → Nat → Int32 → Int32 → Int32 → Mo Int32) (a0 : Nat) (a1 : Nat) (x2 : Int32) (x4 : Int32) (xs0 : Int32) : Mo Int32 := k10 a0 a1 x2 xs0 (x4 + 1)
def f_X4_readProduct_b100 (rec : Nat → Nat → Int32 → Mo Int32) (k10 : Nat → Nat → Int32 → Int32 → Int32 → Mo Int32) (a0 : Nat) (a1 : Nat) (x2 : Int32) (x4 : Int32) : Mo Int32 := f_X4_readProduct_b101 rec k10 a0 a1 x2 x4 0
def f_X4_readProduct_b68 (rec : Nat → Nat → Int32 → Mo Int32) (k10 : Nat → Nat → Int32 → Int32 → Int32 → Mo Int32) (a0 : Nat) (a1 : Nat) (x2 : Int32) (x4 : Int32) (xs0 : Int32) : Mo Int32 := if (xs0 = (-1) : Prop) then (pu 1) else bd (cv 4 a0 (f_X4_readUnit rec a0 a1 x2)) fun v1 => if (v1 = 0 : Prop) then (f_X4_readProduct_b100 rec k10 a0 a1 x2 x4) else bd (cv 4 a0 (f_X4_put a0 xs0)) fun v2 => if (v2 = 0 : Prop) then (f_X4_readProduct_b100 rec k10 a0 a1 x2 x4) else f_X4_readProduct_b101 rec k10 a0 a1 x2 x4 1
def f_X4_readProduct_b10 (rec : Nat → Nat → Int32 → Mo Int32) : Nat → Nat → Nat → Int32 → Int32 → Int32 → Mo Int32
  | 0, _, _, _, _, _ => fl
  | n + 1, a0, a1, x2, x3, x4 => if (x3 = 0 : Prop) then (rz x3) else if (150 ≤ x4 : Prop) then (rz x3) else bd (cv 8 a1 (f_X8_accept a1 42)) fun v3 => if (v3 = 0 : Prop) then (bd (cv 8 a1 (f_X8_accept a1 47)) fun v4 => if (v4 = 0 : Prop) then (bd (cv 8 a1 (f_X8_accept a1 37)) fun v5 => if (v5 = 0 : Prop) then (f_X4_readProduct_b68 rec (f_X4_readProduct_b10 rec n) a0 a1 x2 x4 (-1)) else f_X4_readProduct_b68 rec (f_X4_readProduct_b10 rec n) a0 a1 x2 x4 2004) else f_X4_readProduct_b68 rec (f_X4_readProduct_b10 rec n) a0 a1 x2 x4 2003) else f_X4_readProduct_b68 rec (f_X4_readProduct_b10 rec n) a0 a1 x2 x4 2002
def f_X4_readProduct (rec : Nat → Nat → Int32 → Mo Int32) (a0 : Nat) (a1 : Nat) (x2 : Int32) : Mo Int32 := bd (cv 4 a0 (f_X4_readUnit rec a0 a1 x2)) fun v6 => f_X4_readProduct_b10 rec NF a0 a1 x2 v6 0
set_option maxRecDepth 20000 in
theorem h_X4_readProduct_b101 (g : GW) (rec : Nat → Nat → Int32 → Mo Int32) (e : Nat) (he : 10 ≤ e) (hrec : ∀ a0 a1 x2, V g mX4_readSum e rtI 0 [(0, rf g a0), (1, rf g a1), (2, .int x2)] [] (rec a0 a1 x2)) (k10 : Nat → Nat → Int32 → Int32 → Int32 → Mo Int32) (hk10 : ∀ a0 a1 x2 x3 x4, V g mX4_readProduct (e + 3) rtI 10 [(0, rf g a0), (1, rf g a1), (2, .int x2), (3, .int x3), (4, .int x4)] [] (k10 a0 a1 x2 x3 x4)) (a0 : Nat) (a1 : Nat) (x2 : Int32) (x4 : Int32) (xs0 : Int32) : V g mX4_readProduct (e + 3) rtI 101 [(0, rf g a0), (1, rf g a1), (2, .int x2), (4, .int x4)] [.int xs0] (f_X4_readProduct_b101 rec k10 a0 a1 x2 x4 xs0) := by
  unfold f_X4_readProduct_b101
  refine v_istore_n (lv' := [(3, .int xs0), (0, rf g a0), (1, rf g a1), (2, .int x2), (4, .int x4)]) (pc' := 102) dX4_readProduct_101 rfl (by decide) rfl rfl ?_
  refine v_iinc (v := x4 + 1) (lv' := [(4, .int (x4 + 1)), (3, .int xs0), (0, rf g a0), (1, rf g a1), (2, .int x2)]) (pc' := 105) 4 dX4_readProduct_102 rfl rfl (by decide) rfl rfl ?_
  refine v_goto (t := 10) dX4_readProduct_105 (by decide) ?_
  refine V.sub [2, 3, 4, 1, 0] rfl ?_
  exact hk10 a0 a1 x2 xs0 (x4 + 1)
set_option maxRecDepth 20000 in
theorem h_X4_readProduct_b100 (g : GW) (rec : Nat → Nat → Int32 → Mo Int32) (e : Nat) (he : 10 ≤ e) (hrec : ∀ a0 a1 x2, V g mX4_readSum e rtI 0 [(0, rf g a0), (1, rf g a1), (2, .int x2)] [] (rec a0 a1 x2)) (k10 : Nat → Nat → Int32 → Int32 → Int32 → Mo Int32) (hk10 : ∀ a0 a1 x2 x3 x4, V g mX4_readProduct (e + 3) rtI 10 [(0, rf g a0), (1, rf g a1), (2, .int x2), (3, .int x3), (4, .int x4)] [] (k10 a0 a1 x2 x3 x4)) (a0 : Nat) (a1 : Nat) (x2 : Int32) (x4 : Int32) : V g mX4_readProduct (e + 3) rtI 100 [(0, rf g a0), (1, rf g a1), (2, .int x2), (4, .int x4)] [] (f_X4_readProduct_b100 rec k10 a0 a1 x2 x4) := by
  unfold f_X4_readProduct_b100
  refine v_iconst (v := 0) (pc' := 101) dX4_readProduct_100 rfl rfl ?_
  refine V.sub [0, 1, 2, 3] rfl ?_
  exact h_X4_readProduct_b101 g rec e he hrec k10 hk10 a0 a1 x2 x4 0
set_option maxRecDepth 20000 in
theorem h_X4_readProduct_b68 (g : GW) (rec : Nat → Nat → Int32 → Mo Int32) (e : Nat) (he : 10 ≤ e) (hrec : ∀ a0 a1 x2, V g mX4_readSum e rtI 0 [(0, rf g a0), (1, rf g a1), (2, .int x2)] [] (rec a0 a1 x2)) (k10 : Nat → Nat → Int32 → Int32 → Int32 → Mo Int32) (hk10 : ∀ a0 a1 x2 x3 x4, V g mX4_readProduct (e + 3) rtI 10 [(0, rf g a0), (1, rf g a1), (2, .int x2), (3, .int x3), (4, .int x4)] [] (k10 a0 a1 x2 x3 x4)) (a0 : Nat) (a1 : Nat) (x2 : Int32) (x4 : Int32) (xs0 : Int32) : V g mX4_readProduct (e + 3) rtI 68 [(0, rf g a0), (1, rf g a1), (2, .int x2), (4, .int x4)] [.int xs0] (f_X4_readProduct_b68 rec k10 a0 a1 x2 x4 xs0) := by
  unfold f_X4_readProduct_b68
  refine v_istore (lv' := [(5, .int xs0), (0, rf g a0), (1, rf g a1), (2, .int x2), (4, .int x4)]) (pc' := 70) dX4_readProduct_68 (by decide) rfl rfl ?_
  refine v_iload (pc' := 72) 0 dX4_readProduct_70 rfl rfl ?_
  refine v_iconst (v := -1) (pc' := 73) dX4_readProduct_72 rfl rfl ?_
  refine v_icmpne (t := 78) (pc' := 76) dX4_readProduct_73 (by decide) rfl ?_ ?_
  · refine v_aload_n (pc' := 79) 1 dX4_readProduct_78 rfl rfl rfl ?_
    refine v_aload_n (pc' := 80) 2 dX4_readProduct_79 rfl rfl rfl ?_
    refine v_iload_n (pc' := 81) 3 dX4_readProduct_80 rfl rfl rfl ?_
    refine v_callV (vs := [rf g a1, .int x2]) (pc' := 84) (h_X4_readUnit g rec e he hrec a0 a1 x2) mv_X4_readUnit wl_X4_58 rfl (Nat.le_of_ble_eq_true rfl) (by omega) (by decide) (Nat.le_of_ble_eq_true rfl) rfl dX4_readProduct_81 rfl fun v1 => ?_
    refine v_ifeq (t := 100) (pc' := 87) dX4_readProduct_84 (by decide) rfl ?_ ?_
    · refine V.sub [1, 2, 3, 4] rfl ?_
      exact h_X4_readProduct_b100 g rec e he hrec k10 hk10 a0 a1 x2 x4
    · refine v_aload_n (pc' := 88) 1 dX4_readProduct_87 rfl rfl rfl ?_
      refine v_iload (pc' := 90) 0 dX4_readProduct_88 rfl rfl ?_
      refine v_callV (vs := [.int xs0]) (pc' := 93) (h_X4_put g a0 xs0) mv_X4_put wl_X4_25 rfl (Nat.le_of_ble_eq_true rfl) (by omega) (by decide) (Nat.le_of_ble_eq_true rfl) rfl dX4_readProduct_90 rfl fun v2 => ?_
      refine v_ifeq (t := 100) (pc' := 96) dX4_readProduct_93 (by decide) rfl ?_ ?_
      · refine V.sub [1, 2, 3, 4] rfl ?_
        exact h_X4_readProduct_b100 g rec e he hrec k10 hk10 a0 a1 x2 x4
      · refine v_iconst (v := 1) (pc' := 97) dX4_readProduct_96 rfl rfl ?_
        refine v_goto (t := 101) dX4_readProduct_97 (by decide) ?_
        refine V.sub [1, 2, 3, 4] rfl ?_
        exact h_X4_readProduct_b101 g rec e he hrec k10 hk10 a0 a1 x2 x4 1
  · refine v_iconst (v := 1) (pc' := 77) dX4_readProduct_76 rfl rfl ?_
    exact v_zret rfl rfl dX4_readProduct_77
set_option maxRecDepth 20000 in
theorem h_X4_readProduct_b10 (g : GW) (rec : Nat → Nat → Int32 → Mo Int32) (e : Nat) (he : 10 ≤ e) (hrec : ∀ a0 a1 x2, V g mX4_readSum e rtI 0 [(0, rf g a0), (1, rf g a1), (2, .int x2)] [] (rec a0 a1 x2)) : ∀ n : Nat, ∀ a0 a1 x2 x3 x4, V g mX4_readProduct (e + 3) rtI 10 [(0, rf g a0), (1, rf g a1), (2, .int x2), (3, .int x3), (4, .int x4)] [] (f_X4_readProduct_b10 rec n a0 a1 x2 x3 x4) := by
  intro n
  induction n with
  | zero => intro a0 a1 x2 x3 x4; exact V.vain
  | succ n ih =>
    intro a0 a1 x2 x3 x4
    unfold f_X4_readProduct_b10
    refine v_iload_n (pc' := 11) 3 dX4_readProduct_10 rfl rfl rfl ?_
    refine v_ifeq (t := 108) (pc' := 14) dX4_readProduct_11 (by decide) rfl ?_ ?_
    · refine v_iload_n (pc' := 109) 3 dX4_readProduct_108 rfl rfl rfl ?_
      exact v_zretV rfl dX4_readProduct_109
    · refine v_iload (pc' := 16) 4 dX4_readProduct_14 rfl rfl ?_
      refine v_sipush (v := 150) (pc' := 19) dX4_readProduct_16 rfl rfl ?_
      refine v_icmpge (t := 108) (pc' := 22) dX4_readProduct_19 (by decide) rfl ?_ ?_
      · refine v_iload_n (pc' := 109) 3 dX4_readProduct_108 rfl rfl rfl ?_
        exact v_zretV rfl dX4_readProduct_109
      · refine v_aload_n (pc' := 23) 1 dX4_readProduct_22 rfl rfl rfl ?_
        refine v_bipush (v := 42) (pc' := 25) dX4_readProduct_23 rfl rfl ?_
        refine v_callV (vs := [.int 42]) (pc' := 28) (h_X8_accept g a1 42) mv_X8_accept wl_X4_55 rfl (Nat.le_of_ble_eq_true rfl) (by omega) (by decide) (Nat.le_of_ble_eq_true rfl) rfl dX4_readProduct_25 rfl fun v3 => ?_
        refine v_ifeq (t := 37) (pc' := 31) dX4_readProduct_28 (by decide) rfl ?_ ?_
        · refine v_aload_n (pc' := 38) 1 dX4_readProduct_37 rfl rfl rfl ?_
          refine v_bipush (v := 47) (pc' := 40) dX4_readProduct_38 rfl rfl ?_
          refine v_callV (vs := [.int 47]) (pc' := 43) (h_X8_accept g a1 47) mv_X8_accept wl_X4_55 rfl (Nat.le_of_ble_eq_true rfl) (by omega) (by decide) (Nat.le_of_ble_eq_true rfl) rfl dX4_readProduct_40 rfl fun v4 => ?_
          refine v_ifeq (t := 52) (pc' := 46) dX4_readProduct_43 (by decide) rfl ?_ ?_
          · refine v_aload_n (pc' := 53) 1 dX4_readProduct_52 rfl rfl rfl ?_
            refine v_bipush (v := 37) (pc' := 55) dX4_readProduct_53 rfl rfl ?_
            refine v_callV (vs := [.int 37]) (pc' := 58) (h_X8_accept g a1 37) mv_X8_accept wl_X4_55 rfl (Nat.le_of_ble_eq_true rfl) (by omega) (by decide) (Nat.le_of_ble_eq_true rfl) rfl dX4_readProduct_55 rfl fun v5 => ?_
            refine v_ifeq (t := 67) (pc' := 61) dX4_readProduct_58 (by decide) rfl ?_ ?_
            · refine v_iconst (v := -1) (pc' := 68) dX4_readProduct_67 rfl rfl ?_
              refine V.sub [0, 1, 2, 4] rfl ?_
              exact h_X4_readProduct_b68 g rec e he hrec (f_X4_readProduct_b10 rec n) ih a0 a1 x2 x4 (-1)
            · refine v_sipush (v := 2004) (pc' := 64) dX4_readProduct_61 rfl rfl ?_
              refine v_goto (t := 68) dX4_readProduct_64 (by decide) ?_
              refine V.sub [0, 1, 2, 4] rfl ?_
              exact h_X4_readProduct_b68 g rec e he hrec (f_X4_readProduct_b10 rec n) ih a0 a1 x2 x4 2004
          · refine v_sipush (v := 2003) (pc' := 49) dX4_readProduct_46 rfl rfl ?_
            refine v_goto (t := 68) dX4_readProduct_49 (by decide) ?_
            refine V.sub [0, 1, 2, 4] rfl ?_
            exact h_X4_readProduct_b68 g rec e he hrec (f_X4_readProduct_b10 rec n) ih a0 a1 x2 x4 2003
        · refine v_sipush (v := 2002) (pc' := 34) dX4_readProduct_31 rfl rfl ?_
          refine v_goto (t := 68) dX4_readProduct_34 (by decide) ?_
          refine V.sub [0, 1, 2, 4] rfl ?_
          exact h_X4_readProduct_b68 g rec e he hrec (f_X4_readProduct_b10 rec n) ih a0 a1 x2 x4 2002
set_option maxRecDepth 20000 in
theorem h_X4_readProduct (g : GW) (rec : Nat → Nat → Int32 → Mo Int32) (e : Nat) (he : 10 ≤ e) (hrec : ∀ a0 a1 x2, V g mX4_readSum e rtI 0 [(0, rf g a0), (1, rf g a1), (2, .int x2)] [] (rec a0 a1 x2)) (a0 : Nat) (a1 : Nat) (x2 : Int32) : V g mX4_readProduct (e + 3) rtI 0 [(0, rf g a0), (1, rf g a1), (2, .int x2)] [] (f_X4_readProduct rec a0 a1 x2) := by
  unfold f_X4_readProduct
  refine v_aload_n (pc' := 1) 0 dX4_readProduct_0 rfl rfl rfl ?_
  refine v_aload_n (pc' := 2) 1 dX4_readProduct_1 rfl rfl rfl ?_
  refine v_iload_n (pc' := 3) 2 dX4_readProduct_2 rfl rfl rfl ?_
  refine v_callV (vs := [rf g a1, .int x2]) (pc' := 6) (h_X4_readUnit g rec e he hrec a0 a1 x2) mv_X4_readUnit wl_X4_58 rfl (Nat.le_of_ble_eq_true rfl) (by omega) (by decide) (Nat.le_of_ble_eq_true rfl) rfl dX4_readProduct_3 rfl fun v6 => ?_
  refine v_istore_n (lv' := [(3, .int v6), (0, rf g a0), (1, rf g a1), (2, .int x2)]) (pc' := 7) dX4_readProduct_6 rfl (by decide) rfl rfl ?_
  refine v_iconst (v := 0) (pc' := 8) dX4_readProduct_7 rfl rfl ?_
  refine v_istore (lv' := [(4, .int 0), (3, .int v6), (0, rf g a0), (1, rf g a1), (2, .int x2)]) (pc' := 10) dX4_readProduct_8 (by decide) rfl rfl ?_
  refine V.sub [2, 3, 4, 1, 0] rfl ?_
  exact h_X4_readProduct_b10 g rec e he hrec NF a0 a1 x2 v6 0
-- readSum
def f_X4_readSum_b86 (rec : Nat → Nat → Int32 → Mo Int32) (k10 : Nat → Nat → Int32 → Int32 → Int32 → Mo Int32) (a0 : Nat) (a1 : Nat) (x2 : Int32) (x4 : Int32) (xs0 : Int32) : Mo Int32 := k10 a0 a1 x2 xs0 (x4 + 1)
def f_X4_readSum_b85 (rec : Nat → Nat → Int32 → Mo Int32) (k10 : Nat → Nat → Int32 → Int32 → Int32 → Mo Int32) (a0 : Nat) (a1 : Nat) (x2 : Int32) (x4 : Int32) : Mo Int32 := f_X4_readSum_b86 rec k10 a0 a1 x2 x4 0
def f_X4_readSum_b53 (rec : Nat → Nat → Int32 → Mo Int32) (k10 : Nat → Nat → Int32 → Int32 → Int32 → Mo Int32) (a0 : Nat) (a1 : Nat) (x2 : Int32) (x4 : Int32) (xs0 : Int32) : Mo Int32 := if (xs0 = (-1) : Prop) then (pu 1) else bd (cv 4 a0 (f_X4_readProduct rec a0 a1 x2)) fun v1 => if (v1 = 0 : Prop) then (f_X4_readSum_b85 rec k10 a0 a1 x2 x4) else bd (cv 4 a0 (f_X4_put a0 xs0)) fun v2 => if (v2 = 0 : Prop) then (f_X4_readSum_b85 rec k10 a0 a1 x2 x4) else f_X4_readSum_b86 rec k10 a0 a1 x2 x4 1
def f_X4_readSum_b10 (rec : Nat → Nat → Int32 → Mo Int32) : Nat → Nat → Nat → Int32 → Int32 → Int32 → Mo Int32
  | 0, _, _, _, _, _ => fl
  | n + 1, a0, a1, x2, x3, x4 => if (x3 = 0 : Prop) then (rz x3) else if (150 ≤ x4 : Prop) then (rz x3) else bd (cv 8 a1 (f_X8_accept a1 43)) fun v3 => if (v3 = 0 : Prop) then (bd (cv 8 a1 (f_X8_accept a1 45)) fun v4 => if (v4 = 0 : Prop) then (f_X4_readSum_b53 rec (f_X4_readSum_b10 rec n) a0 a1 x2 x4 (-1)) else f_X4_readSum_b53 rec (f_X4_readSum_b10 rec n) a0 a1 x2 x4 2001) else f_X4_readSum_b53 rec (f_X4_readSum_b10 rec n) a0 a1 x2 x4 2000
def f_X4_readSum (rec : Nat → Nat → Int32 → Mo Int32) (a0 : Nat) (a1 : Nat) (x2 : Int32) : Mo Int32 := bd (cv 4 a0 (f_X4_readProduct rec a0 a1 x2)) fun v5 => f_X4_readSum_b10 rec NF a0 a1 x2 v5 0
def F_X4_readSum : Nat → Nat → Nat → Int32 → Mo Int32
  | 0, _, _, _ => fl
  | D + 1, a0, a1, x2 => f_X4_readSum (F_X4_readSum D) a0 a1 x2
set_option maxRecDepth 20000 in
theorem h_X4_readSum_b86 (g : GW) (rec : Nat → Nat → Int32 → Mo Int32) (e : Nat) (he : 10 ≤ e) (hrec : ∀ a0 a1 x2, V g mX4_readSum e rtI 0 [(0, rf g a0), (1, rf g a1), (2, .int x2)] [] (rec a0 a1 x2)) (k10 : Nat → Nat → Int32 → Int32 → Int32 → Mo Int32) (hk10 : ∀ a0 a1 x2 x3 x4, V g mX4_readSum (e + 4) rtI 10 [(0, rf g a0), (1, rf g a1), (2, .int x2), (3, .int x3), (4, .int x4)] [] (k10 a0 a1 x2 x3 x4)) (a0 : Nat) (a1 : Nat) (x2 : Int32) (x4 : Int32) (xs0 : Int32) : V g mX4_readSum (e + 4) rtI 86 [(0, rf g a0), (1, rf g a1), (2, .int x2), (4, .int x4)] [.int xs0] (f_X4_readSum_b86 rec k10 a0 a1 x2 x4 xs0) := by
  unfold f_X4_readSum_b86
  refine v_istore_n (lv' := [(3, .int xs0), (0, rf g a0), (1, rf g a1), (2, .int x2), (4, .int x4)]) (pc' := 87) dX4_readSum_86 rfl (by decide) rfl rfl ?_
  refine v_iinc (v := x4 + 1) (lv' := [(4, .int (x4 + 1)), (3, .int xs0), (0, rf g a0), (1, rf g a1), (2, .int x2)]) (pc' := 90) 4 dX4_readSum_87 rfl rfl (by decide) rfl rfl ?_
  refine v_goto (t := 10) dX4_readSum_90 (by decide) ?_
  refine V.sub [2, 3, 4, 1, 0] rfl ?_
  exact hk10 a0 a1 x2 xs0 (x4 + 1)
set_option maxRecDepth 20000 in
theorem h_X4_readSum_b85 (g : GW) (rec : Nat → Nat → Int32 → Mo Int32) (e : Nat) (he : 10 ≤ e) (hrec : ∀ a0 a1 x2, V g mX4_readSum e rtI 0 [(0, rf g a0), (1, rf g a1), (2, .int x2)] [] (rec a0 a1 x2)) (k10 : Nat → Nat → Int32 → Int32 → Int32 → Mo Int32) (hk10 : ∀ a0 a1 x2 x3 x4, V g mX4_readSum (e + 4) rtI 10 [(0, rf g a0), (1, rf g a1), (2, .int x2), (3, .int x3), (4, .int x4)] [] (k10 a0 a1 x2 x3 x4)) (a0 : Nat) (a1 : Nat) (x2 : Int32) (x4 : Int32) : V g mX4_readSum (e + 4) rtI 85 [(0, rf g a0), (1, rf g a1), (2, .int x2), (4, .int x4)] [] (f_X4_readSum_b85 rec k10 a0 a1 x2 x4) := by
  unfold f_X4_readSum_b85
  refine v_iconst (v := 0) (pc' := 86) dX4_readSum_85 rfl rfl ?_
  refine V.sub [0, 1, 2, 3] rfl ?_
  exact h_X4_readSum_b86 g rec e he hrec k10 hk10 a0 a1 x2 x4 0
set_option maxRecDepth 20000 in
theorem h_X4_readSum_b53 (g : GW) (rec : Nat → Nat → Int32 → Mo Int32) (e : Nat) (he : 10 ≤ e) (hrec : ∀ a0 a1 x2, V g mX4_readSum e rtI 0 [(0, rf g a0), (1, rf g a1), (2, .int x2)] [] (rec a0 a1 x2)) (k10 : Nat → Nat → Int32 → Int32 → Int32 → Mo Int32) (hk10 : ∀ a0 a1 x2 x3 x4, V g mX4_readSum (e + 4) rtI 10 [(0, rf g a0), (1, rf g a1), (2, .int x2), (3, .int x3), (4, .int x4)] [] (k10 a0 a1 x2 x3 x4)) (a0 : Nat) (a1 : Nat) (x2 : Int32) (x4 : Int32) (xs0 : Int32) : V g mX4_readSum (e + 4) rtI 53 [(0, rf g a0), (1, rf g a1), (2, .int x2), (4, .int x4)] [.int xs0] (f_X4_readSum_b53 rec k10 a0 a1 x2 x4 xs0) := by
  unfold f_X4_readSum_b53
  refine v_istore (lv' := [(5, .int xs0), (0, rf g a0), (1, rf g a1), (2, .int x2), (4, .int x4)]) (pc' := 55) dX4_readSum_53 (by decide) rfl rfl ?_
  refine v_iload (pc' := 57) 0 dX4_readSum_55 rfl rfl ?_
  refine v_iconst (v := -1) (pc' := 58) dX4_readSum_57 rfl rfl ?_
  refine v_icmpne (t := 63) (pc' := 61) dX4_readSum_58 (by decide) rfl ?_ ?_
  · refine v_aload_n (pc' := 64) 1 dX4_readSum_63 rfl rfl rfl ?_
    refine v_aload_n (pc' := 65) 2 dX4_readSum_64 rfl rfl rfl ?_
    refine v_iload_n (pc' := 66) 3 dX4_readSum_65 rfl rfl rfl ?_
    refine v_callV (vs := [rf g a1, .int x2]) (pc' := 69) (h_X4_readProduct g rec e he hrec a0 a1 x2) mv_X4_readProduct wl_X4_52 rfl (Nat.le_of_ble_eq_true rfl) (by omega) (by decide) (Nat.le_of_ble_eq_true rfl) rfl dX4_readSum_66 rfl fun v1 => ?_
    refine v_ifeq (t := 85) (pc' := 72) dX4_readSum_69 (by decide) rfl ?_ ?_
    · refine V.sub [1, 2, 3, 4] rfl ?_
      exact h_X4_readSum_b85 g rec e he hrec k10 hk10 a0 a1 x2 x4
    · refine v_aload_n (pc' := 73) 1 dX4_readSum_72 rfl rfl rfl ?_
      refine v_iload (pc' := 75) 0 dX4_readSum_73 rfl rfl ?_
      refine v_callV (vs := [.int xs0]) (pc' := 78) (h_X4_put g a0 xs0) mv_X4_put wl_X4_25 rfl (Nat.le_of_ble_eq_true rfl) (by omega) (by decide) (Nat.le_of_ble_eq_true rfl) rfl dX4_readSum_75 rfl fun v2 => ?_
      refine v_ifeq (t := 85) (pc' := 81) dX4_readSum_78 (by decide) rfl ?_ ?_
      · refine V.sub [1, 2, 3, 4] rfl ?_
        exact h_X4_readSum_b85 g rec e he hrec k10 hk10 a0 a1 x2 x4
      · refine v_iconst (v := 1) (pc' := 82) dX4_readSum_81 rfl rfl ?_
        refine v_goto (t := 86) dX4_readSum_82 (by decide) ?_
        refine V.sub [1, 2, 3, 4] rfl ?_
        exact h_X4_readSum_b86 g rec e he hrec k10 hk10 a0 a1 x2 x4 1
  · refine v_iconst (v := 1) (pc' := 62) dX4_readSum_61 rfl rfl ?_
    exact v_zret rfl rfl dX4_readSum_62
set_option maxRecDepth 20000 in
theorem h_X4_readSum_b10 (g : GW) (rec : Nat → Nat → Int32 → Mo Int32) (e : Nat) (he : 10 ≤ e) (hrec : ∀ a0 a1 x2, V g mX4_readSum e rtI 0 [(0, rf g a0), (1, rf g a1), (2, .int x2)] [] (rec a0 a1 x2)) : ∀ n : Nat, ∀ a0 a1 x2 x3 x4, V g mX4_readSum (e + 4) rtI 10 [(0, rf g a0), (1, rf g a1), (2, .int x2), (3, .int x3), (4, .int x4)] [] (f_X4_readSum_b10 rec n a0 a1 x2 x3 x4) := by
  intro n
  induction n with
  | zero => intro a0 a1 x2 x3 x4; exact V.vain
  | succ n ih =>
    intro a0 a1 x2 x3 x4
    unfold f_X4_readSum_b10
    refine v_iload_n (pc' := 11) 3 dX4_readSum_10 rfl rfl rfl ?_
    refine v_ifeq (t := 93) (pc' := 14) dX4_readSum_11 (by decide) rfl ?_ ?_
    · refine v_iload_n (pc' := 94) 3 dX4_readSum_93 rfl rfl rfl ?_
      exact v_zretV rfl dX4_readSum_94
    · refine v_iload (pc' := 16) 4 dX4_readSum_14 rfl rfl ?_
      refine v_sipush (v := 150) (pc' := 19) dX4_readSum_16 rfl rfl ?_
      refine v_icmpge (t := 93) (pc' := 22) dX4_readSum_19 (by decide) rfl ?_ ?_
      · refine v_iload_n (pc' := 94) 3 dX4_readSum_93 rfl rfl rfl ?_
        exact v_zretV rfl dX4_readSum_94
      · refine v_aload_n (pc' := 23) 1 dX4_readSum_22 rfl rfl rfl ?_
        refine v_bipush (v := 43) (pc' := 25) dX4_readSum_23 rfl rfl ?_
        refine v_callV (vs := [.int 43]) (pc' := 28) (h_X8_accept g a1 43) mv_X8_accept wl_X4_55 rfl (Nat.le_of_ble_eq_true rfl) (by omega) (by decide) (Nat.le_of_ble_eq_true rfl) rfl dX4_readSum_25 rfl fun v3 => ?_
        refine v_ifeq (t := 37) (pc' := 31) dX4_readSum_28 (by decide) rfl ?_ ?_
        · refine v_aload_n (pc' := 38) 1 dX4_readSum_37 rfl rfl rfl ?_
          refine v_bipush (v := 45) (pc' := 40) dX4_readSum_38 rfl rfl ?_
          refine v_callV (vs := [.int 45]) (pc' := 43) (h_X8_accept g a1 45) mv_X8_accept wl_X4_55 rfl (Nat.le_of_ble_eq_true rfl) (by omega) (by decide) (Nat.le_of_ble_eq_true rfl) rfl dX4_readSum_40 rfl fun v4 => ?_
          refine v_ifeq (t := 52) (pc' := 46) dX4_readSum_43 (by decide) rfl ?_ ?_
          · refine v_iconst (v := -1) (pc' := 53) dX4_readSum_52 rfl rfl ?_
            refine V.sub [0, 1, 2, 4] rfl ?_
            exact h_X4_readSum_b53 g rec e he hrec (f_X4_readSum_b10 rec n) ih a0 a1 x2 x4 (-1)
          · refine v_sipush (v := 2001) (pc' := 49) dX4_readSum_46 rfl rfl ?_
            refine v_goto (t := 53) dX4_readSum_49 (by decide) ?_
            refine V.sub [0, 1, 2, 4] rfl ?_
            exact h_X4_readSum_b53 g rec e he hrec (f_X4_readSum_b10 rec n) ih a0 a1 x2 x4 2001
        · refine v_sipush (v := 2000) (pc' := 34) dX4_readSum_31 rfl rfl ?_
          refine v_goto (t := 53) dX4_readSum_34 (by decide) ?_
          refine V.sub [0, 1, 2, 4] rfl ?_
          exact h_X4_readSum_b53 g rec e he hrec (f_X4_readSum_b10 rec n) ih a0 a1 x2 x4 2000
set_option maxRecDepth 20000 in
theorem h_X4_readSum (g : GW) (rec : Nat → Nat → Int32 → Mo Int32) (e : Nat) (he : 10 ≤ e) (hrec : ∀ a0 a1 x2, V g mX4_readSum e rtI 0 [(0, rf g a0), (1, rf g a1), (2, .int x2)] [] (rec a0 a1 x2)) (a0 : Nat) (a1 : Nat) (x2 : Int32) : V g mX4_readSum (e + 4) rtI 0 [(0, rf g a0), (1, rf g a1), (2, .int x2)] [] (f_X4_readSum rec a0 a1 x2) := by
  unfold f_X4_readSum
  refine v_aload_n (pc' := 1) 0 dX4_readSum_0 rfl rfl rfl ?_
  refine v_aload_n (pc' := 2) 1 dX4_readSum_1 rfl rfl rfl ?_
  refine v_iload_n (pc' := 3) 2 dX4_readSum_2 rfl rfl rfl ?_
  refine v_callV (vs := [rf g a1, .int x2]) (pc' := 6) (h_X4_readProduct g rec e he hrec a0 a1 x2) mv_X4_readProduct wl_X4_52 rfl (Nat.le_of_ble_eq_true rfl) (by omega) (by decide) (Nat.le_of_ble_eq_true rfl) rfl dX4_readSum_3 rfl fun v5 => ?_
  refine v_istore_n (lv' := [(3, .int v5), (0, rf g a0), (1, rf g a1), (2, .int x2)]) (pc' := 7) dX4_readSum_6 rfl (by decide) rfl rfl ?_
  refine v_iconst (v := 0) (pc' := 8) dX4_readSum_7 rfl rfl ?_
  refine v_istore (lv' := [(4, .int 0), (3, .int v5), (0, rf g a0), (1, rf g a1), (2, .int x2)]) (pc' := 10) dX4_readSum_8 (by decide) rfl rfl ?_
  refine V.sub [2, 3, 4, 1, 0] rfl ?_
  exact h_X4_readSum_b10 g rec e he hrec NF a0 a1 x2 v5 0
theorem H_X4_readSum (g : GW) : ∀ (D : Nat) a0 a1 x2, V g mX4_readSum (10 + D * 4) rtI 0 [(0, rf g a0), (1, rf g a1), (2, .int x2)] [] (F_X4_readSum D a0 a1 x2)
  | 0, _, _, _ => V.vain
  | D + 1, a0, a1, x2 => by
    have h := h_X4_readSum g (F_X4_readSum D) (10 + D * 4) (Nat.le_add_right _ _) (fun a0 a1 x2 => H_X4_readSum g D a0 a1 x2) a0 a1 x2
    rw [show 10 + (D + 1) * 4 = 10 + D * 4 + 4 by omega]
    exact h
-- read
def f_X4_read (a0 : Nat) (a1 : Nat) : Mo Int32 := bd (pf 4 2 a0 (.int 0)) fun _ => bd (cv 4 a0 (F_X4_readSum 12 a0 a1 0)) fun v1 => if (v1 = 0 : Prop) then (pu 0) else bd (cv 8 a1 (f_X8_atEnd a1)) fun v2 => if (v2 = 0 : Prop) then (bd (gI 8 3 a1) fun v3 => bd (cv 8 a1 (f_X8_fail a1 1 v3)) fun v4 => if (v4 = 0 : Prop) then (pu 0) else pu 1) else pu 1
set_option maxRecDepth 20000 in
theorem h_X4_read (g : GW) (a0 : Nat) (a1 : Nat) : V g mX4_read 59 rtI 0 [(0, rf g a0), (1, rf g a1)] [] (f_X4_read a0 a1) := by
  unfold f_X4_read
  refine v_aload_n (pc' := 1) 0 dX4_read_0 rfl rfl rfl ?_
  refine v_iconst (v := 0) (pc' := 2) dX4_read_1 rfl rfl ?_
  refine v_put (v := (.int 0)) (v' := .int 0) (pc' := 5) fw_X4_21 rfl rfl rfl (fun h => nomatch h) dX4_read_2 rfl ?_
  refine v_aload_n (pc' := 6) 0 dX4_read_5 rfl rfl rfl ?_
  refine v_aload_n (pc' := 7) 1 dX4_read_6 rfl rfl rfl ?_
  refine v_iconst (v := 0) (pc' := 8) dX4_read_7 rfl rfl ?_
  refine v_callV (vs := [rf g a1, .int 0]) (pc' := 11) (H_X4_readSum g 12 a0 a1 0) mv_X4_readSum wl_X4_35 rfl (Nat.le_of_ble_eq_true rfl) (by omega) (by decide) (Nat.le_of_ble_eq_true rfl) rfl dX4_read_8 rfl fun v1 => ?_
  refine v_ifeq (t := 37) (pc' := 14) dX4_read_11 (by decide) rfl ?_ ?_
  · refine v_iconst (v := 0) (pc' := 38) dX4_read_37 rfl rfl ?_
    exact v_zret rfl rfl dX4_read_38
  · refine v_aload_n (pc' := 15) 1 dX4_read_14 rfl rfl rfl ?_
    refine v_callV (vs := []) (pc' := 18) (h_X8_atEnd g a1) mv_X8_atEnd wl_X4_39 rfl (Nat.le_of_ble_eq_true rfl) (by omega) (by decide) (Nat.le_of_ble_eq_true rfl) rfl dX4_read_15 rfl fun v2 => ?_
    refine v_ifne (t := 33) (pc' := 21) dX4_read_18 (by decide) rfl ?_ ?_
    · refine v_iconst (v := 1) (pc' := 34) dX4_read_33 rfl rfl ?_
      refine v_goto (t := 38) dX4_read_34 (by decide) ?_
      exact v_zret rfl rfl dX4_read_38
    · refine v_aload_n (pc' := 22) 1 dX4_read_21 rfl rfl rfl ?_
      refine v_iconst (v := 1) (pc' := 23) dX4_read_22 rfl rfl ?_
      refine v_aload_n (pc' := 24) 1 dX4_read_23 rfl rfl rfl ?_
      refine v_getI (pc' := 27) fl_X4_45 dX4_read_24 rfl fun v3 => ?_
      refine v_callV (vs := [.int 1, .int v3]) (pc' := 30) (h_X8_fail g a1 1 v3) mv_X8_fail wl_X4_48 rfl (Nat.le_of_ble_eq_true rfl) (by omega) (by decide) (Nat.le_of_ble_eq_true rfl) rfl dX4_read_27 rfl fun v4 => ?_
      refine v_ifeq (t := 37) (pc' := 33) dX4_read_30 (by decide) rfl ?_ ?_
      · refine v_iconst (v := 0) (pc' := 38) dX4_read_37 rfl rfl ?_
        exact v_zret rfl rfl dX4_read_38
      · refine v_iconst (v := 1) (pc' := 34) dX4_read_33 rfl rfl ?_
        refine v_goto (t := 38) dX4_read_34 (by decide) ?_
        exact v_zret rfl rfl dX4_read_38
-- joined
def f_X4_joined (x0 : Int32) (x1 : Int32) (x2 : Int32) : Mo Int32 := sw x0 2000 [(pu (x1 + x2)), (pu (x1 - x2)), (pu (x1 * x2)), (if (x2 = 0 : Prop) then (pu 0) else bd (dv x1 x2) fun v1 => pu v1), (if (x2 = 0 : Prop) then (pu 0) else bd (rm_ x1 x2) fun v2 => pu v2), (if (x2 ≤ x1 : Prop) then (pu x2) else pu x1)] (if (x1 ≤ x2 : Prop) then (pu x2) else pu x1)
set_option maxRecDepth 20000 in
theorem h_X4_joined (g : GW) (x0 : Int32) (x1 : Int32) (x2 : Int32) : V g mX4_joined 8 rtI 0 [(0, .int x0), (1, .int x1), (2, .int x2)] [] (f_X4_joined x0 x1 x2) := by
  unfold f_X4_joined
  refine v_iload_n (pc' := 1) 0 dX4_joined_0 rfl rfl rfl ?_
  refine v_table (td := 87) dX4_joined_1 rfl (by decide) ⟨⟨40, by decide, ?_⟩, ⟨44, by decide, ?_⟩, ⟨48, by decide, ?_⟩, ⟨52, by decide, ?_⟩, ⟨64, by decide, ?_⟩, ⟨76, by decide, ?_⟩, trivial⟩ ?_
  · refine v_iload_n (pc' := 41) 1 dX4_joined_40 rfl rfl rfl ?_
    refine v_iload_n (pc' := 42) 2 dX4_joined_41 rfl rfl rfl ?_
    refine v_iadd (pc' := 43) dX4_joined_42 rfl ?_
    exact v_ireturn rfl dX4_joined_43
  · refine v_iload_n (pc' := 45) 1 dX4_joined_44 rfl rfl rfl ?_
    refine v_iload_n (pc' := 46) 2 dX4_joined_45 rfl rfl rfl ?_
    refine v_isub (pc' := 47) dX4_joined_46 rfl ?_
    exact v_ireturn rfl dX4_joined_47
  · refine v_iload_n (pc' := 49) 1 dX4_joined_48 rfl rfl rfl ?_
    refine v_iload_n (pc' := 50) 2 dX4_joined_49 rfl rfl rfl ?_
    refine v_imul (pc' := 51) dX4_joined_50 rfl ?_
    exact v_ireturn rfl dX4_joined_51
  · refine v_iload_n (pc' := 53) 2 dX4_joined_52 rfl rfl rfl ?_
    refine v_ifne (t := 60) (pc' := 56) dX4_joined_53 (by decide) rfl ?_ ?_
    · refine v_iload_n (pc' := 61) 1 dX4_joined_60 rfl rfl rfl ?_
      refine v_iload_n (pc' := 62) 2 dX4_joined_61 rfl rfl rfl ?_
      refine v_idiv (pc' := 63) dX4_joined_62 rfl fun v1 => ?_
      exact v_ireturn rfl dX4_joined_63
    · refine v_iconst (v := 0) (pc' := 57) dX4_joined_56 rfl rfl ?_
      refine v_goto (t := 63) dX4_joined_57 (by decide) ?_
      exact v_ireturn rfl dX4_joined_63
  · refine v_iload_n (pc' := 65) 2 dX4_joined_64 rfl rfl rfl ?_
    refine v_ifne (t := 72) (pc' := 68) dX4_joined_65 (by decide) rfl ?_ ?_
    · refine v_iload_n (pc' := 73) 1 dX4_joined_72 rfl rfl rfl ?_
      refine v_iload_n (pc' := 74) 2 dX4_joined_73 rfl rfl rfl ?_
      refine v_irem (pc' := 75) dX4_joined_74 rfl fun v2 => ?_
      exact v_ireturn rfl dX4_joined_75
    · refine v_iconst (v := 0) (pc' := 69) dX4_joined_68 rfl rfl ?_
      refine v_goto (t := 75) dX4_joined_69 (by decide) ?_
      exact v_ireturn rfl dX4_joined_75
  · refine v_iload_n (pc' := 77) 1 dX4_joined_76 rfl rfl rfl ?_
    refine v_iload_n (pc' := 78) 2 dX4_joined_77 rfl rfl rfl ?_
    refine v_icmpge (t := 85) (pc' := 81) dX4_joined_78 (by decide) rfl ?_ ?_
    · refine v_iload_n (pc' := 86) 2 dX4_joined_85 rfl rfl rfl ?_
      exact v_ireturn rfl dX4_joined_86
    · refine v_iload_n (pc' := 82) 1 dX4_joined_81 rfl rfl rfl ?_
      refine v_goto (t := 86) dX4_joined_82 (by decide) ?_
      exact v_ireturn rfl dX4_joined_86
  · refine v_iload_n (pc' := 88) 1 dX4_joined_87 rfl rfl rfl ?_
    refine v_iload_n (pc' := 89) 2 dX4_joined_88 rfl rfl rfl ?_
    refine v_icmple (t := 96) (pc' := 92) dX4_joined_89 (by decide) rfl ?_ ?_
    · refine v_iload_n (pc' := 97) 2 dX4_joined_96 rfl rfl rfl ?_
      exact v_ireturn rfl dX4_joined_97
    · refine v_iload_n (pc' := 93) 1 dX4_joined_92 rfl rfl rfl ?_
      refine v_goto (t := 97) dX4_joined_93 (by decide) ?_
      exact v_ireturn rfl dX4_joined_97
-- faceFor
def f_X4_faceFor_b114 (k4 : Nat → Nat → Int32 → Int32 → Mo Int32) (a0 : Nat) (a1 : Nat) (x2 : Int32) (x3 : Int32) : Mo Int32 := k4 a0 a1 x2 (x3 + 1)
def f_X4_faceFor_b110 (k4 : Nat → Nat → Int32 → Int32 → Mo Int32) (a0 : Nat) (a1 : Nat) (x2 : Int32) (x3 : Int32) (xs0 : Int32) (xs1 : Int32) (as2 : Nat) : Mo Int32 := bd (as_ as2 xs1 xs0) fun _ => f_X4_faceFor_b114 k4 a0 a1 (x2 + 1) x3
def f_X4_faceFor_b4 : Nat → Nat → Nat → Int32 → Int32 → Mo Int32
  | 0, _, _, _, _ => fl
  | n + 1, a0, a1, x2, x3 => bd (gI 4 2 a0) fun v1 => if (v1 ≤ x3 : Prop) then (if (x2 = 1 : Prop) then (bd (gR 4 1 a0) fun r2 => bd (al 0 r2 0) fun v3 => pu (mx32 0 (mn32 63 v3))) else pu 0) else bd (gR 4 0 a0) fun r4 => bd (al 0 r4 x3) fun v5 => if (v5 < 2000 : Prop) then (if (24 ≤ x2 : Prop) then (pu 0) else bd (aLen a1) fun v6 => if ((v5 - (1000 : Int32)) < v6 : Prop) then (bd (gR 4 1 a0) fun r7 => if ((v5 - (1000 : Int32)) < 0 : Prop) then (f_X4_faceFor_b110 (f_X4_faceFor_b4 n) a0 a1 x2 x3 v5 x2 r7) else bd (al 0 a1 (v5 - (1000 : Int32))) fun v8 => f_X4_faceFor_b110 (f_X4_faceFor_b4 n) a0 a1 x2 x3 v8 x2 r7) else pu 0) else if (2 ≤ x2 : Prop) then (bd (gR 4 1 a0) fun r9 => bd (gR 4 1 a0) fun r10 => bd (al 0 r10 ((x2 + (-1)) - (1 : Int32))) fun v11 => bd (gR 4 1 a0) fun r12 => bd (al 0 r12 (x2 + (-1))) fun v13 => bd (f_X4_joined v5 v11 v13) fun v14 => bd (as_ r9 ((x2 + (-1)) - (1 : Int32)) v14) fun _ => f_X4_faceFor_b114 (f_X4_faceFor_b4 n) a0 a1 (x2 + (-1)) x3) else pu 0
def f_X4_faceFor (a0 : Nat) (a1 : Nat) : Mo Int32 := f_X4_faceFor_b4 NF a0 a1 0 0
set_option maxRecDepth 20000 in
theorem h_X4_faceFor_b114 (g : GW) (k4 : Nat → Nat → Int32 → Int32 → Mo Int32) (hk4 : ∀ a0 a1 x2 x3, V g mX4_faceFor 9 rtI 4 [(0, rf g a0), (1, rf g a1), (2, .int x2), (3, .int x3)] [] (k4 a0 a1 x2 x3)) (a0 : Nat) (a1 : Nat) (x2 : Int32) (x3 : Int32) : V g mX4_faceFor 9 rtI 114 [(0, rf g a0), (1, rf g a1), (2, .int x2), (3, .int x3)] [] (f_X4_faceFor_b114 k4 a0 a1 x2 x3) := by
  unfold f_X4_faceFor_b114
  refine v_iinc (v := x3 + 1) (lv' := [(3, .int (x3 + 1)), (0, rf g a0), (1, rf g a1), (2, .int x2)]) (pc' := 117) 3 dX4_faceFor_114 rfl rfl (by decide) rfl rfl ?_
  refine v_goto (t := 4) dX4_faceFor_117 (by decide) ?_
  refine V.sub [1, 2, 3, 0] rfl ?_
  exact hk4 a0 a1 x2 (x3 + 1)
set_option maxRecDepth 20000 in
theorem h_X4_faceFor_b110 (g : GW) (k4 : Nat → Nat → Int32 → Int32 → Mo Int32) (hk4 : ∀ a0 a1 x2 x3, V g mX4_faceFor 9 rtI 4 [(0, rf g a0), (1, rf g a1), (2, .int x2), (3, .int x3)] [] (k4 a0 a1 x2 x3)) (a0 : Nat) (a1 : Nat) (x2 : Int32) (x3 : Int32) (xs0 : Int32) (xs1 : Int32) (as2 : Nat) : V g mX4_faceFor 9 rtI 110 [(0, rf g a0), (1, rf g a1), (2, .int x2), (3, .int x3)] [.int xs0, .int xs1, rf g as2] (f_X4_faceFor_b110 k4 a0 a1 x2 x3 xs0 xs1 as2) := by
  unfold f_X4_faceFor_b110
  refine v_iast (pc' := 111) dX4_faceFor_110 rfl ?_
  refine v_iinc (v := x2 + 1) (lv' := [(2, .int (x2 + 1)), (0, rf g a0), (1, rf g a1), (3, .int x3)]) (pc' := 114) 2 dX4_faceFor_111 rfl rfl (by decide) rfl rfl ?_
  refine V.sub [1, 2, 0, 3] rfl ?_
  exact h_X4_faceFor_b114 g k4 hk4 a0 a1 (x2 + 1) x3
set_option maxRecDepth 20000 in
theorem h_X4_faceFor_b4 (g : GW) : ∀ n : Nat, ∀ a0 a1 x2 x3, V g mX4_faceFor 9 rtI 4 [(0, rf g a0), (1, rf g a1), (2, .int x2), (3, .int x3)] [] (f_X4_faceFor_b4 n a0 a1 x2 x3) := by
  intro n
  induction n with
  | zero => intro a0 a1 x2 x3; exact V.vain
  | succ n ih =>
    intro a0 a1 x2 x3
    unfold f_X4_faceFor_b4
    refine v_iload_n (pc' := 5) 3 dX4_faceFor_4 rfl rfl rfl ?_
    refine v_aload_n (pc' := 6) 0 dX4_faceFor_5 rfl rfl rfl ?_
    refine v_getI (pc' := 9) fl_X4_21 dX4_faceFor_6 rfl fun v1 => ?_
    refine v_icmpge (t := 120) (pc' := 12) dX4_faceFor_9 (by decide) rfl ?_ ?_
    · refine v_iload_n (pc' := 121) 2 dX4_faceFor_120 rfl rfl rfl ?_
      refine v_iconst (v := 1) (pc' := 122) dX4_faceFor_121 rfl rfl ?_
      refine v_icmpne (t := 143) (pc' := 125) dX4_faceFor_122 (by decide) rfl ?_ ?_
      · refine v_iconst (v := 0) (pc' := 144) dX4_faceFor_143 rfl rfl ?_
        exact v_ireturn rfl dX4_faceFor_144
      · refine v_iconst (v := 0) (pc' := 126) dX4_faceFor_125 rfl rfl ?_
        refine v_bipush (v := 63) (pc' := 128) dX4_faceFor_126 rfl rfl ?_
        refine v_aload_n (pc' := 129) 0 dX4_faceFor_128 rfl rfl rfl ?_
        refine v_getR (pc' := 132) fl_X4_15 dX4_faceFor_129 rfl fun r2 => ?_
        refine v_iconst (v := 0) (pc' := 133) dX4_faceFor_132 rfl rfl ?_
        refine v_iald (pc' := 134) dX4_faceFor_133 rfl fun v3 => ?_
        refine v_mn32 (pc' := 137) (by omega) (tg4 141 (by decide +kernel) (by decide +kernel)) (Nat.le_of_ble_eq_true rfl) rfl dX4_faceFor_134 rfl ?_
        refine v_mx32 (pc' := 140) (by omega) (tg4 142 (by decide +kernel) (by decide +kernel)) (Nat.le_of_ble_eq_true rfl) rfl dX4_faceFor_137 rfl ?_
        refine v_goto (t := 144) dX4_faceFor_140 (by decide) ?_
        exact v_ireturn rfl dX4_faceFor_144
    · refine v_aload_n (pc' := 13) 0 dX4_faceFor_12 rfl rfl rfl ?_
      refine v_getR (pc' := 16) fl_X4_9 dX4_faceFor_13 rfl fun r4 => ?_
      refine v_iload_n (pc' := 17) 3 dX4_faceFor_16 rfl rfl rfl ?_
      refine v_iald (pc' := 18) dX4_faceFor_17 rfl fun v5 => ?_
      refine v_istore (lv' := [(4, .int v5), (0, rf g a0), (1, rf g a1), (2, .int x2), (3, .int x3)]) (pc' := 20) dX4_faceFor_18 (by decide) rfl rfl ?_
      refine v_iload (pc' := 22) 0 dX4_faceFor_20 rfl rfl ?_
      refine v_sipush (v := 2000) (pc' := 25) dX4_faceFor_22 rfl rfl ?_
      refine v_icmplt (t := 68) (pc' := 28) dX4_faceFor_25 (by decide) rfl ?_ ?_
      · refine v_iload (pc' := 70) 0 dX4_faceFor_68 rfl rfl ?_
        refine v_sipush (v := 1000) (pc' := 73) dX4_faceFor_70 rfl rfl ?_
        refine v_isub (pc' := 74) dX4_faceFor_73 rfl ?_
        refine v_istore (lv' := [(5, .int (v5 - (1000 : Int32))), (4, .int v5), (0, rf g a0), (1, rf g a1), (2, .int x2), (3, .int x3)]) (pc' := 76) dX4_faceFor_74 (by decide) rfl rfl ?_
        refine v_iload_n (pc' := 77) 4 dX4_faceFor_76 rfl rfl rfl ?_
        refine v_bipush (v := 24) (pc' := 79) dX4_faceFor_77 rfl rfl ?_
        refine v_icmpge (t := 89) (pc' := 82) dX4_faceFor_79 (by decide) rfl ?_ ?_
        · refine v_iconst (v := 0) (pc' := 90) dX4_faceFor_89 rfl rfl ?_
          exact v_ireturn rfl dX4_faceFor_90
        · refine v_iload (pc' := 84) 0 dX4_faceFor_82 rfl rfl ?_
          refine v_aload_n (pc' := 85) 3 dX4_faceFor_84 rfl rfl rfl ?_
          refine v_alen (pc' := 86) dX4_faceFor_85 rfl fun v6 => ?_
          refine v_icmplt (t := 91) (pc' := 89) dX4_faceFor_86 (by decide) rfl ?_ ?_
          · refine v_aload_n (pc' := 92) 2 dX4_faceFor_91 rfl rfl rfl ?_
            refine v_getR (pc' := 95) fl_X4_15 dX4_faceFor_92 rfl fun r7 => ?_
            refine v_iload_n (pc' := 96) 4 dX4_faceFor_95 rfl rfl rfl ?_
            refine v_iload (pc' := 98) 0 dX4_faceFor_96 rfl rfl ?_
            refine v_iflt (t := 108) (pc' := 101) dX4_faceFor_98 (by decide) rfl ?_ ?_
            · refine v_iload (pc' := 110) 1 dX4_faceFor_108 rfl rfl ?_
              refine V.sub [2, 3, 4, 5] rfl ?_
              exact h_X4_faceFor_b110 g (f_X4_faceFor_b4 n) ih a0 a1 x2 x3 v5 x2 r7
            · refine v_aload_n (pc' := 102) 3 dX4_faceFor_101 rfl rfl rfl ?_
              refine v_iload (pc' := 104) 0 dX4_faceFor_102 rfl rfl ?_
              refine v_iald (pc' := 105) dX4_faceFor_104 rfl fun v8 => ?_
              refine v_goto (t := 110) dX4_faceFor_105 (by decide) ?_
              refine V.sub [2, 3, 4, 5] rfl ?_
              exact h_X4_faceFor_b110 g (f_X4_faceFor_b4 n) ih a0 a1 x2 x3 v8 x2 r7
          · refine v_iconst (v := 0) (pc' := 90) dX4_faceFor_89 rfl rfl ?_
            exact v_ireturn rfl dX4_faceFor_90
      · refine v_iload_n (pc' := 29) 3 dX4_faceFor_28 rfl rfl rfl ?_
        refine v_iconst (v := 2) (pc' := 30) dX4_faceFor_29 rfl rfl ?_
        refine v_icmpge (t := 35) (pc' := 33) dX4_faceFor_30 (by decide) rfl ?_ ?_
        · refine v_iinc (v := x2 + (-1)) (lv' := [(2, .int (x2 + (-1))), (4, .int v5), (0, rf g a0), (1, rf g a1), (3, .int x3)]) (pc' := 38) 3 dX4_faceFor_35 rfl rfl (by decide) rfl rfl ?_
          refine v_aload_n (pc' := 39) 2 dX4_faceFor_38 rfl rfl rfl ?_
          refine v_getR (pc' := 42) fl_X4_15 dX4_faceFor_39 rfl fun r9 => ?_
          refine v_iload_n (pc' := 43) 0 dX4_faceFor_42 rfl rfl rfl ?_
          refine v_iconst (v := 1) (pc' := 44) dX4_faceFor_43 rfl rfl ?_
          refine v_isub (pc' := 45) dX4_faceFor_44 rfl ?_
          refine v_iload (pc' := 47) 1 dX4_faceFor_45 rfl rfl ?_
          refine v_aload_n (pc' := 48) 2 dX4_faceFor_47 rfl rfl rfl ?_
          refine v_getR (pc' := 51) fl_X4_15 dX4_faceFor_48 rfl fun r10 => ?_
          refine v_iload_n (pc' := 52) 0 dX4_faceFor_51 rfl rfl rfl ?_
          refine v_iconst (v := 1) (pc' := 53) dX4_faceFor_52 rfl rfl ?_
          refine v_isub (pc' := 54) dX4_faceFor_53 rfl ?_
          refine v_iald (pc' := 55) dX4_faceFor_54 rfl fun v11 => ?_
          refine v_aload_n (pc' := 56) 2 dX4_faceFor_55 rfl rfl rfl ?_
          refine v_getR (pc' := 59) fl_X4_15 dX4_faceFor_56 rfl fun r12 => ?_
          refine v_iload_n (pc' := 60) 0 dX4_faceFor_59 rfl rfl rfl ?_
          refine v_iald (pc' := 61) dX4_faceFor_60 rfl fun v13 => ?_
          refine v_callS (vs := [.int v5, .int v11, .int v13]) (pc' := 64) (h_X4_joined g v5 v11 v13) ms_X4_joined wl_X4_90 (Nat.le_of_ble_eq_true rfl) (by omega) (by decide) (Nat.le_of_ble_eq_true rfl) rfl dX4_faceFor_61 rfl fun v14 => ?_
          refine v_iast (pc' := 65) dX4_faceFor_64 rfl ?_
          refine v_goto (t := 114) dX4_faceFor_65 (by decide) ?_
          refine V.sub [2, 3, 0, 4] rfl ?_
          exact h_X4_faceFor_b114 g (f_X4_faceFor_b4 n) ih a0 a1 (x2 + (-1)) x3
        · refine v_iconst (v := 0) (pc' := 34) dX4_faceFor_33 rfl rfl ?_
          exact v_ireturn rfl dX4_faceFor_34
set_option maxRecDepth 20000 in
theorem h_X4_faceFor (g : GW) (a0 : Nat) (a1 : Nat) : V g mX4_faceFor 9 rtI 0 [(0, rf g a0), (1, rf g a1)] [] (f_X4_faceFor a0 a1) := by
  unfold f_X4_faceFor
  refine v_iconst (v := 0) (pc' := 1) dX4_faceFor_0 rfl rfl ?_
  refine v_istore_n (lv' := [(2, .int 0), (0, rf g a0), (1, rf g a1)]) (pc' := 2) dX4_faceFor_1 rfl (by decide) rfl rfl ?_
  refine v_iconst (v := 0) (pc' := 3) dX4_faceFor_2 rfl rfl ?_
  refine v_istore_n (lv' := [(3, .int 0), (2, .int 0), (0, rf g a0), (1, rf g a1)]) (pc' := 4) dX4_faceFor_3 rfl (by decide) rfl rfl ?_
  refine V.sub [2, 3, 1, 0] rfl ?_
  exact h_X4_faceFor_b4 g NF a0 a1 0 0
