-- <init>
def f_X3_init_b43 (xs0 : Int32) (as1 : Nat) : Mo Unit := bd (pf 3 2 as1 (.int xs0)) fun _ => pu ()
def f_X3_init (a0 : Nat) (a1 : Nat) (o2 : Option Nat) : Mo Unit := bd (nO 5 6 [.null, .null, .null, .null, .int 0, .int 0]) fun r1 => bd (ni (f_X5_init r1)) fun _ => bd (pf 3 0 a0 (.ref r1)) fun _ => bd (gR 3 0 a0) fun r2 => bd (cv 5 r2 (f_X5_copyFrom r2 a1)) fun _ => bd (pf 3 1 a0 (oV o2)) fun _ => mt o2 (fun r3 => bd (gI 3 2 r3) fun v4 => f_X3_init_b43 (v4 + (1 : Int32)) a0) (f_X3_init_b43 1 a0)
set_option maxRecDepth 20000 in
theorem h_X3_init_b43 (g : GW) (xs0 : Int32) (as1 : Nat) : V g mX3_init 9 rtU 43 [] [.int xs0, rf g as1] (f_X3_init_b43 xs0 as1) := by
  unfold f_X3_init_b43
  refine v_put (v := (.int xs0)) (v' := .int xs0) (pc' := 46) fw_X3_24 rfl rfl rfl (fun _ => rfl) dX3_init_43 rfl ?_
  exact v_return rfl dX3_init_46
set_option maxRecDepth 20000 in
theorem h_X3_init (g : GW) (a0 : Nat) (a1 : Nat) (o2 : Option Nat) : V g mX3_init 9 rtU 0 [(0, rf g a0), (1, rf g a1), (2, rn g o2)] [] (f_X3_init a0 a1 o2) := by
  unfold f_X3_init
  refine v_aload_n (pc' := 1) 0 dX3_init_0 rfl rfl rfl ?_
  refine v_objInit (pc' := 4) (tg3 25 (by decide +kernel) (by decide +kernel)) wo_inst wo_code (by omega) (Nat.le_of_ble_eq_true rfl) dX3_init_1 rfl ?_
  refine v_aload_n (pc' := 5) 0 dX3_init_4 rfl rfl rfl ?_
  refine v_newO (pc' := 8) nw_X3_7 dX3_init_5 rfl fun r1 => ?_
  refine v_dup (pc' := 9) dX3_init_8 rfl rfl ?_
  refine v_callI (vs := []) (pc' := 12) (h_X5_init g r1) mn_X5_init wl_X3_9 (Nat.le_of_ble_eq_true rfl) (by omega) (by decide) (Nat.le_of_ble_eq_true rfl) dX3_init_9 rfl ?_
  refine v_put (v := (.ref r1)) (v' := rf g r1) (pc' := 15) fw_X3_10 rfl rfl rfl (fun _ => rfl) dX3_init_12 rfl ?_
  refine v_aload_n (pc' := 16) 0 dX3_init_15 rfl rfl rfl ?_
  refine v_getR (pc' := 19) fl_X3_10 dX3_init_16 rfl fun r2 => ?_
  refine v_aload_n (pc' := 20) 1 dX3_init_19 rfl rfl rfl ?_
  refine v_callV (vs := [rf g a1]) (pc' := 23) (h_X5_copyFrom g r2 a1) mv_X5_copyFrom wl_X3_16 rfl (Nat.le_of_ble_eq_true rfl) (by omega) (by decide) (Nat.le_of_ble_eq_true rfl) rfl dX3_init_20 rfl fun _ => ?_
  refine v_aload_n (pc' := 24) 0 dX3_init_23 rfl rfl rfl ?_
  refine v_aload_nN (pc' := 25) 2 dX3_init_24 rfl rfl rfl ?_
  refine v_put (v := (oV o2)) (v' := rn g o2) (pc' := 28) fw_X3_20 (rv_oV g o2) (by cases o2 <;> rfl) (by cases o2 <;> rfl) (fun _ => rfl) dX3_init_25 rfl ?_
  refine v_aload_n (pc' := 29) 0 dX3_init_28 rfl rfl rfl ?_
  refine v_aload_nN (pc' := 30) 2 dX3_init_29 rfl rfl rfl ?_
  refine v_ifnn (t := 37) (pc' := 33) dX3_init_30 (by decide) rfl (fun r3 hh => ?_) (fun hh => ?_)
  · subst hh
    refine v_aload_n (pc' := 38) 2 dX3_init_37 rfl rfl rfl ?_
    refine v_getI (pc' := 41) fl_X3_24 dX3_init_38 rfl fun v4 => ?_
    refine v_iconst (v := 1) (pc' := 42) dX3_init_41 rfl rfl ?_
    refine v_iadd (pc' := 43) dX3_init_42 rfl ?_
    refine V.sub [] rfl ?_
    exact h_X3_init_b43 g (v4 + (1 : Int32)) a0
  · subst hh
    refine v_iconst (v := 1) (pc' := 34) dX3_init_33 rfl rfl ?_
    refine v_goto (t := 43) dX3_init_34 (by decide) ?_
    refine V.sub [] rfl ?_
    exact h_X3_init_b43 g 1 a0
-- <init>
def f_X6_init (a0 : Nat) (a1 : Nat) (a2 : Nat) : Mo Unit := bd (pf 6 0 a0 (.ref a1)) fun _ => bd (pf 6 1 a0 (.ref a2)) fun _ => bd (nA 0 8) fun r1 => bd (pf 6 2 a0 (.ref r1)) fun _ => pu ()
set_option maxRecDepth 20000 in
theorem h_X6_init (g : GW) (a0 : Nat) (a1 : Nat) (a2 : Nat) : V g mX6_init 8 rtU 0 [(0, rf g a0), (1, rf g a1), (2, rf g a2)] [] (f_X6_init a0 a1 a2) := by
  unfold f_X6_init
  refine v_aload_n (pc' := 1) 0 dX6_init_0 rfl rfl rfl ?_
  refine v_objInit (pc' := 4) (tg1 209 (by decide +kernel) (by decide +kernel)) wo_inst wo_code (by omega) (Nat.le_of_ble_eq_true rfl) dX6_init_1 rfl ?_
  refine v_aload_n (pc' := 5) 0 dX6_init_4 rfl rfl rfl ?_
  refine v_aload_n (pc' := 6) 1 dX6_init_5 rfl rfl rfl ?_
  refine v_put (v := (.ref a1)) (v' := rf g a1) (pc' := 9) fw_X6_7 rfl rfl rfl (fun _ => rfl) dX6_init_6 rfl ?_
  refine v_aload_n (pc' := 10) 0 dX6_init_9 rfl rfl rfl ?_
  refine v_aload_n (pc' := 11) 2 dX6_init_10 rfl rfl rfl ?_
  refine v_put (v := (.ref a2)) (v' := rf g a2) (pc' := 14) fw_X6_13 rfl rfl rfl (fun _ => rfl) dX6_init_11 rfl ?_
  refine v_aload_n (pc' := 15) 0 dX6_init_14 rfl rfl rfl ?_
  refine v_bipush (v := 8) (pc' := 17) dX6_init_15 rfl rfl ?_
  refine v_newI (pc' := 19) wa_int dX6_init_17 rfl fun r1 => ?_
  refine v_put (v := (.ref r1)) (v' := rf g r1) (pc' := 22) fw_X6_19 rfl rfl rfl (fun _ => rfl) dX6_init_19 rfl ?_
  exact v_return rfl dX6_init_22
-- faceBy
def f_X6_faceBy_b68 (a0 : Nat) (a1 : Nat) (x2 : Int32) (x4 : Int32) (xs0 : Int32) (xs1 : Int32) (as2 : Nat) : Mo Int32 := bd (as_ as2 xs1 xs0) fun _ => bd (gR 6 2 a0) fun r1 => bd (gI 5 5 a1) fun v2 => bd (as_ r1 5 v2) fun _ => bd (gR 6 2 a0) fun r3 => bd (gR 5 1 a1) fun r4 => bd (al 0 r4 x2) fun v5 => bd (as_ r3 6 v5) fun _ => bd (gR 6 2 a0) fun r6 => bd (as_ r6 7 x4) fun _ => bd (gR 6 1 a0) fun r7 => bd (gR 6 2 a0) fun r8 => bd (cv 4 r7 (f_X4_faceFor r7 r8)) fun v9 => pu v9
def f_X6_faceBy (a0 : Nat) (a1 : Nat) (x2 : Int32) (x3 : Int32) (x4 : Int32) (x5 : Int32) : Mo Int32 := bd (gR 6 2 a0) fun r10 => bd (gR 6 0 a0) fun r11 => bd (gR 2 0 r11) fun r12 => bd (al 0 r12 x2) fun v13 => bd (as_ r10 0 v13) fun _ => bd (gR 6 2 a0) fun r14 => bd (gR 6 0 a0) fun r15 => bd (gR 2 1 r15) fun r16 => bd (al 0 r16 x2) fun v17 => bd (as_ r14 1 v17) fun _ => bd (gR 6 2 a0) fun r18 => bd (as_ r18 2 x5) fun _ => bd (gR 6 2 a0) fun r19 => bd (gR 6 0 a0) fun r20 => bd (gR 2 0 r20) fun r21 => bd (al 0 r21 x3) fun v22 => bd (as_ r19 3 v22) fun _ => bd (gR 6 2 a0) fun r23 => if (x2 = x3 : Prop) then (f_X6_faceBy_b68 a0 a1 x2 x4 1 4 r23) else f_X6_faceBy_b68 a0 a1 x2 x4 0 4 r23
set_option maxRecDepth 20000 in
theorem h_X6_faceBy_b68 (g : GW) (a0 : Nat) (a1 : Nat) (x2 : Int32) (x4 : Int32) (xs0 : Int32) (xs1 : Int32) (as2 : Nat) : V g mX6_faceBy 10 rtI 68 [(0, rf g a0), (1, rf g a1), (2, .int x2), (4, .int x4)] [.int xs0, .int xs1, rf g as2] (f_X6_faceBy_b68 a0 a1 x2 x4 xs0 xs1 as2) := by
  unfold f_X6_faceBy_b68
  refine v_iast (pc' := 69) dX6_faceBy_68 rfl ?_
  refine v_aload_n (pc' := 70) 0 dX6_faceBy_69 rfl rfl rfl ?_
  refine v_getR (pc' := 73) fl_X6_19 dX6_faceBy_70 rfl fun r1 => ?_
  refine v_iconst (v := 5) (pc' := 74) dX6_faceBy_73 rfl rfl ?_
  refine v_aload_n (pc' := 75) 1 dX6_faceBy_74 rfl rfl rfl ?_
  refine v_getI (pc' := 78) fl_X6_31 dX6_faceBy_75 rfl fun v2 => ?_
  refine v_iast (pc' := 79) dX6_faceBy_78 rfl ?_
  refine v_aload_n (pc' := 80) 0 dX6_faceBy_79 rfl rfl rfl ?_
  refine v_getR (pc' := 83) fl_X6_19 dX6_faceBy_80 rfl fun r3 => ?_
  refine v_bipush (v := 6) (pc' := 85) dX6_faceBy_83 rfl rfl ?_
  refine v_aload_n (pc' := 86) 1 dX6_faceBy_85 rfl rfl rfl ?_
  refine v_getR (pc' := 89) fl_X6_37 dX6_faceBy_86 rfl fun r4 => ?_
  refine v_iload_n (pc' := 90) 2 dX6_faceBy_89 rfl rfl rfl ?_
  refine v_iald (pc' := 91) dX6_faceBy_90 rfl fun v5 => ?_
  refine v_iast (pc' := 92) dX6_faceBy_91 rfl ?_
  refine v_aload_n (pc' := 93) 0 dX6_faceBy_92 rfl rfl rfl ?_
  refine v_getR (pc' := 96) fl_X6_19 dX6_faceBy_93 rfl fun r6 => ?_
  refine v_bipush (v := 7) (pc' := 98) dX6_faceBy_96 rfl rfl ?_
  refine v_iload (pc' := 100) 3 dX6_faceBy_98 rfl rfl ?_
  refine v_iast (pc' := 101) dX6_faceBy_100 rfl ?_
  refine v_aload_n (pc' := 102) 0 dX6_faceBy_101 rfl rfl rfl ?_
  refine v_getR (pc' := 105) fl_X6_13 dX6_faceBy_102 rfl fun r7 => ?_
  refine v_aload_n (pc' := 106) 0 dX6_faceBy_105 rfl rfl rfl ?_
  refine v_getR (pc' := 109) fl_X6_19 dX6_faceBy_106 rfl fun r8 => ?_
  refine v_callV (vs := [rf g r8]) (pc' := 112) (h_X4_faceFor g r7 r8) mv_X4_faceFor wl_X6_40 rfl (Nat.le_of_ble_eq_true rfl) (by omega) (by decide) (Nat.le_of_ble_eq_true rfl) rfl dX6_faceBy_109 rfl fun v9 => ?_
  exact v_ireturn rfl dX6_faceBy_112
set_option maxRecDepth 20000 in
theorem h_X6_faceBy (g : GW) (a0 : Nat) (a1 : Nat) (x2 : Int32) (x3 : Int32) (x4 : Int32) (x5 : Int32) : V g mX6_faceBy 10 rtI 0 [(0, rf g a0), (1, rf g a1), (2, .int x2), (3, .int x3), (4, .int x4), (5, .int x5)] [] (f_X6_faceBy a0 a1 x2 x3 x4 x5) := by
  unfold f_X6_faceBy
  refine v_aload_n (pc' := 1) 0 dX6_faceBy_0 rfl rfl rfl ?_
  refine v_getR (pc' := 4) fl_X6_19 dX6_faceBy_1 rfl fun r10 => ?_
  refine v_iconst (v := 0) (pc' := 5) dX6_faceBy_4 rfl rfl ?_
  refine v_aload_n (pc' := 6) 0 dX6_faceBy_5 rfl rfl rfl ?_
  refine v_getR (pc' := 9) fl_X6_7 dX6_faceBy_6 rfl fun r11 => ?_
  refine v_getR (pc' := 12) fl_X6_23 dX6_faceBy_9 rfl fun r12 => ?_
  refine v_iload_n (pc' := 13) 2 dX6_faceBy_12 rfl rfl rfl ?_
  refine v_iald (pc' := 14) dX6_faceBy_13 rfl fun v13 => ?_
  refine v_iast (pc' := 15) dX6_faceBy_14 rfl ?_
  refine v_aload_n (pc' := 16) 0 dX6_faceBy_15 rfl rfl rfl ?_
  refine v_getR (pc' := 19) fl_X6_19 dX6_faceBy_16 rfl fun r14 => ?_
  refine v_iconst (v := 1) (pc' := 20) dX6_faceBy_19 rfl rfl ?_
  refine v_aload_n (pc' := 21) 0 dX6_faceBy_20 rfl rfl rfl ?_
  refine v_getR (pc' := 24) fl_X6_7 dX6_faceBy_21 rfl fun r15 => ?_
  refine v_getR (pc' := 27) fl_X6_28 dX6_faceBy_24 rfl fun r16 => ?_
  refine v_iload_n (pc' := 28) 2 dX6_faceBy_27 rfl rfl rfl ?_
  refine v_iald (pc' := 29) dX6_faceBy_28 rfl fun v17 => ?_
  refine v_iast (pc' := 30) dX6_faceBy_29 rfl ?_
  refine v_aload_n (pc' := 31) 0 dX6_faceBy_30 rfl rfl rfl ?_
  refine v_getR (pc' := 34) fl_X6_19 dX6_faceBy_31 rfl fun r18 => ?_
  refine v_iconst (v := 2) (pc' := 35) dX6_faceBy_34 rfl rfl ?_
  refine v_iload (pc' := 37) 5 dX6_faceBy_35 rfl rfl ?_
  refine v_iast (pc' := 38) dX6_faceBy_37 rfl ?_
  refine v_aload_n (pc' := 39) 0 dX6_faceBy_38 rfl rfl rfl ?_
  refine v_getR (pc' := 42) fl_X6_19 dX6_faceBy_39 rfl fun r19 => ?_
  refine v_iconst (v := 3) (pc' := 43) dX6_faceBy_42 rfl rfl ?_
  refine v_aload_n (pc' := 44) 0 dX6_faceBy_43 rfl rfl rfl ?_
  refine v_getR (pc' := 47) fl_X6_7 dX6_faceBy_44 rfl fun r20 => ?_
  refine v_getR (pc' := 50) fl_X6_23 dX6_faceBy_47 rfl fun r21 => ?_
  refine v_iload_n (pc' := 51) 3 dX6_faceBy_50 rfl rfl rfl ?_
  refine v_iald (pc' := 52) dX6_faceBy_51 rfl fun v22 => ?_
  refine v_iast (pc' := 53) dX6_faceBy_52 rfl ?_
  refine v_aload_n (pc' := 54) 0 dX6_faceBy_53 rfl rfl rfl ?_
  refine v_getR (pc' := 57) fl_X6_19 dX6_faceBy_54 rfl fun r23 => ?_
  refine v_iconst (v := 4) (pc' := 58) dX6_faceBy_57 rfl rfl ?_
  refine v_iload_n (pc' := 59) 2 dX6_faceBy_58 rfl rfl rfl ?_
  refine v_iload_n (pc' := 60) 3 dX6_faceBy_59 rfl rfl rfl ?_
  refine v_icmpne (t := 67) (pc' := 63) dX6_faceBy_60 (by decide) rfl ?_ ?_
  · refine v_iconst (v := 0) (pc' := 68) dX6_faceBy_67 rfl rfl ?_
    refine V.sub [0, 1, 2, 4] rfl ?_
    exact h_X6_faceBy_b68 g a0 a1 x2 x4 0 4 r23
  · refine v_iconst (v := 1) (pc' := 64) dX6_faceBy_63 rfl rfl ?_
    refine v_goto (t := 68) dX6_faceBy_64 (by decide) ?_
    refine V.sub [0, 1, 2, 4] rfl ?_
    exact h_X6_faceBy_b68 g a0 a1 x2 x4 1 4 r23
-- take
def f_X6_take (a0 : Nat) (a1 : Nat) (x2 : Int32) (x3 : Int32) (x4 : Int32) : Mo Int32 := bd (gR 6 0 a0) fun r1 => bd (cv 2 r1 (f_X2_never r1 x2 x3)) fun v2 => if (v2 = 0 : Prop) then (bd (cv 5 a1 (f_X5_isFull a1)) fun v3 => if (v3 = 0 : Prop) then (bd (gR 5 0 a1) fun r4 => bd (al 0 r4 x2) fun v5 => bd (cv 6 a0 (f_X6_faceBy a0 a1 x2 x3 x4 v5)) fun v6 => bd (cv 5 a1 (f_X5_hang a1 x2 x3 x4 v6)) fun _ => pu 1) else pu 0) else pu 0
set_option maxRecDepth 20000 in
theorem h_X6_take (g : GW) (a0 : Nat) (a1 : Nat) (x2 : Int32) (x3 : Int32) (x4 : Int32) : V g mX6_take 11 rtI 0 [(0, rf g a0), (1, rf g a1), (2, .int x2), (3, .int x3), (4, .int x4)] [] (f_X6_take a0 a1 x2 x3 x4) := by
  unfold f_X6_take
  refine v_aload_n (pc' := 1) 0 dX6_take_0 rfl rfl rfl ?_
  refine v_getR (pc' := 4) fl_X6_7 dX6_take_1 rfl fun r1 => ?_
  refine v_iload_n (pc' := 5) 2 dX6_take_4 rfl rfl rfl ?_
  refine v_iload_n (pc' := 6) 3 dX6_take_5 rfl rfl rfl ?_
  refine v_callV (vs := [.int x2, .int x3]) (pc' := 9) (h_X2_never g r1 x2 x3) mv_X2_never wl_X6_44 rfl (Nat.le_of_ble_eq_true rfl) (by omega) (by decide) (Nat.le_of_ble_eq_true rfl) rfl dX6_take_6 rfl fun v2 => ?_
  refine v_ifne (t := 19) (pc' := 12) dX6_take_9 (by decide) rfl ?_ ?_
  · refine v_iconst (v := 0) (pc' := 20) dX6_take_19 rfl rfl ?_
    exact v_zret rfl rfl dX6_take_20
  · refine v_aload_n (pc' := 13) 1 dX6_take_12 rfl rfl rfl ?_
    refine v_callV (vs := []) (pc' := 16) (h_X5_isFull g a1) mv_X5_isFull wl_X6_48 rfl (Nat.le_of_ble_eq_true rfl) (by omega) (by decide) (Nat.le_of_ble_eq_true rfl) rfl dX6_take_13 rfl fun v3 => ?_
    refine v_ifeq (t := 21) (pc' := 19) dX6_take_16 (by decide) rfl ?_ ?_
    · refine v_aload_n (pc' := 22) 1 dX6_take_21 rfl rfl rfl ?_
      refine v_iload_n (pc' := 23) 2 dX6_take_22 rfl rfl rfl ?_
      refine v_iload_n (pc' := 24) 3 dX6_take_23 rfl rfl rfl ?_
      refine v_iload (pc' := 26) 4 dX6_take_24 rfl rfl ?_
      refine v_aload_n (pc' := 27) 0 dX6_take_26 rfl rfl rfl ?_
      refine v_aload_n (pc' := 28) 1 dX6_take_27 rfl rfl rfl ?_
      refine v_iload_n (pc' := 29) 2 dX6_take_28 rfl rfl rfl ?_
      refine v_iload_n (pc' := 30) 3 dX6_take_29 rfl rfl rfl ?_
      refine v_iload (pc' := 32) 4 dX6_take_30 rfl rfl ?_
      refine v_aload_n (pc' := 33) 1 dX6_take_32 rfl rfl rfl ?_
      refine v_getR (pc' := 36) fl_X6_52 dX6_take_33 rfl fun r4 => ?_
      refine v_iload_n (pc' := 37) 2 dX6_take_36 rfl rfl rfl ?_
      refine v_iald (pc' := 38) dX6_take_37 rfl fun v5 => ?_
      refine v_callV (vs := [rf g a1, .int x2, .int x3, .int x4, .int v5]) (pc' := 41) (h_X6_faceBy g a0 a1 x2 x3 x4 v5) mv_X6_faceBy wl_X6_55 rfl (Nat.le_of_ble_eq_true rfl) (by omega) (by decide) (Nat.le_of_ble_eq_true rfl) rfl dX6_take_38 rfl fun v6 => ?_
      refine v_callV (vs := [.int x2, .int x3, .int x4, .int v6]) (pc' := 44) (h_X5_hang g a1 x2 x3 x4 v6) mv_X5_hang wl_X6_59 rfl (Nat.le_of_ble_eq_true rfl) (by omega) (by decide) (Nat.le_of_ble_eq_true rfl) rfl dX6_take_41 rfl fun _ => ?_
      refine v_iconst (v := 1) (pc' := 45) dX6_take_44 rfl rfl ?_
      exact v_zret rfl rfl dX6_take_45
    · refine v_iconst (v := 0) (pc' := 20) dX6_take_19 rfl rfl ?_
      exact v_zret rfl rfl dX6_take_20
-- hasAsHimself
def f_X6_hasAsHimself (a0 : Nat) (a1 : Nat) (x2 : Int32) (x3 : Int32) (x4 : Int32) : Mo Int32 := bd (gR 6 0 a0) fun r1 => bd (cv 2 r1 (f_X2_never r1 x2 x3)) fun v2 => if (v2 = 0 : Prop) then (bd (gR 6 0 a0) fun r3 => bd (cv 6 a0 (f_X6_faceBy a0 a1 x2 x3 0 x4)) fun v4 => bd (gR 6 0 a0) fun r5 => bd (gR 2 0 r5) fun r6 => bd (al 0 r6 x3) fun v7 => bd (cv 2 r3 (f_X2_alike r3 v4 v7)) fun v8 => if (v8 = 0 : Prop) then (pu 0) else pu 1) else pu 0
set_option maxRecDepth 20000 in
theorem h_X6_hasAsHimself (g : GW) (a0 : Nat) (a1 : Nat) (x2 : Int32) (x3 : Int32) (x4 : Int32) : V g mX6_hasAsHimself 11 rtI 0 [(0, rf g a0), (1, rf g a1), (2, .int x2), (3, .int x3), (4, .int x4)] [] (f_X6_hasAsHimself a0 a1 x2 x3 x4) := by
  unfold f_X6_hasAsHimself
  refine v_aload_n (pc' := 1) 0 dX6_hasAsHimself_0 rfl rfl rfl ?_
  refine v_getR (pc' := 4) fl_X6_7 dX6_hasAsHimself_1 rfl fun r1 => ?_
  refine v_iload_n (pc' := 5) 2 dX6_hasAsHimself_4 rfl rfl rfl ?_
  refine v_iload_n (pc' := 6) 3 dX6_hasAsHimself_5 rfl rfl rfl ?_
  refine v_callV (vs := [.int x2, .int x3]) (pc' := 9) (h_X2_never g r1 x2 x3) mv_X2_never wl_X6_44 rfl (Nat.le_of_ble_eq_true rfl) (by omega) (by decide) (Nat.le_of_ble_eq_true rfl) rfl dX6_hasAsHimself_6 rfl fun v2 => ?_
  refine v_ifne (t := 45) (pc' := 12) dX6_hasAsHimself_9 (by decide) rfl ?_ ?_
  · refine v_iconst (v := 0) (pc' := 46) dX6_hasAsHimself_45 rfl rfl ?_
    exact v_zret rfl rfl dX6_hasAsHimself_46
  · refine v_aload_n (pc' := 13) 0 dX6_hasAsHimself_12 rfl rfl rfl ?_
    refine v_getR (pc' := 16) fl_X6_7 dX6_hasAsHimself_13 rfl fun r3 => ?_
    refine v_aload_n (pc' := 17) 0 dX6_hasAsHimself_16 rfl rfl rfl ?_
    refine v_aload_n (pc' := 18) 1 dX6_hasAsHimself_17 rfl rfl rfl ?_
    refine v_iload_n (pc' := 19) 2 dX6_hasAsHimself_18 rfl rfl rfl ?_
    refine v_iload_n (pc' := 20) 3 dX6_hasAsHimself_19 rfl rfl rfl ?_
    refine v_iconst (v := 0) (pc' := 21) dX6_hasAsHimself_20 rfl rfl ?_
    refine v_iload (pc' := 23) 4 dX6_hasAsHimself_21 rfl rfl ?_
    refine v_callV (vs := [rf g a1, .int x2, .int x3, .int 0, .int x4]) (pc' := 26) (h_X6_faceBy g a0 a1 x2 x3 0 x4) mv_X6_faceBy wl_X6_55 rfl (Nat.le_of_ble_eq_true rfl) (by omega) (by decide) (Nat.le_of_ble_eq_true rfl) rfl dX6_hasAsHimself_23 rfl fun v4 => ?_
    refine v_aload_n (pc' := 27) 0 dX6_hasAsHimself_26 rfl rfl rfl ?_
    refine v_getR (pc' := 30) fl_X6_7 dX6_hasAsHimself_27 rfl fun r5 => ?_
    refine v_getR (pc' := 33) fl_X6_23 dX6_hasAsHimself_30 rfl fun r6 => ?_
    refine v_iload_n (pc' := 34) 3 dX6_hasAsHimself_33 rfl rfl rfl ?_
    refine v_iald (pc' := 35) dX6_hasAsHimself_34 rfl fun v7 => ?_
    refine v_callV (vs := [.int v4, .int v7]) (pc' := 38) (h_X2_alike g r3 v4 v7) mv_X2_alike wl_X6_63 rfl (Nat.le_of_ble_eq_true rfl) (by omega) (by decide) (Nat.le_of_ble_eq_true rfl) rfl dX6_hasAsHimself_35 rfl fun v8 => ?_
    refine v_ifeq (t := 45) (pc' := 41) dX6_hasAsHimself_38 (by decide) rfl ?_ ?_
    · refine v_iconst (v := 0) (pc' := 46) dX6_hasAsHimself_45 rfl rfl ?_
      exact v_zret rfl rfl dX6_hasAsHimself_46
    · refine v_iconst (v := 1) (pc' := 42) dX6_hasAsHimself_41 rfl rfl ?_
      refine v_goto (t := 46) dX6_hasAsHimself_42 (by decide) ?_
      exact v_zret rfl rfl dX6_hasAsHimself_46
-- takersOf
def f_X6_takersOf_b42 (k5 : Nat → Nat → Int32 → Int32 → Int32 → Mo Int32) (a0 : Nat) (a1 : Nat) (x2 : Int32) (x3 : Int32) (x4 : Int32) : Mo Int32 := k5 a0 a1 x2 x3 (x4 + 1)
def f_X6_takersOf_b5 : Nat → Nat → Nat → Int32 → Int32 → Int32 → Mo Int32
  | 0, _, _, _, _, _ => fl
  | n + 1, a0, a1, x2, x3, x4 => bd (gR 6 0 a0) fun r1 => bd (gI 2 4 r1) fun v2 => if (v2 ≤ x4 : Prop) then (pu x3) else bd (gR 5 0 a1) fun r3 => bd (al 0 r3 x4) fun v4 => bd (cv 6 a0 (f_X6_hasAsHimself a0 a1 x4 x2 v4)) fun v5 => if (v5 = 0 : Prop) then (f_X6_takersOf_b42 (f_X6_takersOf_b5 n) a0 a1 x2 x3 x4) else f_X6_takersOf_b42 (f_X6_takersOf_b5 n) a0 a1 x2 (x3 ||| ((1 : Int32) <<< (x4 &&& 31))) x4
def f_X6_takersOf (a0 : Nat) (a1 : Nat) (x2 : Int32) : Mo Int32 := f_X6_takersOf_b5 NF a0 a1 x2 0 0
set_option maxRecDepth 20000 in
theorem h_X6_takersOf_b42 (g : GW) (k5 : Nat → Nat → Int32 → Int32 → Int32 → Mo Int32) (hk5 : ∀ a0 a1 x2 x3 x4, V g mX6_takersOf 12 rtI 5 [(0, rf g a0), (1, rf g a1), (2, .int x2), (3, .int x3), (4, .int x4)] [] (k5 a0 a1 x2 x3 x4)) (a0 : Nat) (a1 : Nat) (x2 : Int32) (x3 : Int32) (x4 : Int32) : V g mX6_takersOf 12 rtI 42 [(0, rf g a0), (1, rf g a1), (2, .int x2), (3, .int x3), (4, .int x4)] [] (f_X6_takersOf_b42 k5 a0 a1 x2 x3 x4) := by
  unfold f_X6_takersOf_b42
  refine v_iinc (v := x4 + 1) (lv' := [(4, .int (x4 + 1)), (0, rf g a0), (1, rf g a1), (2, .int x2), (3, .int x3)]) (pc' := 45) 4 dX6_takersOf_42 rfl rfl (by decide) rfl rfl ?_
  refine v_goto (t := 5) dX6_takersOf_45 (by decide) ?_
  refine V.sub [1, 2, 3, 4, 0] rfl ?_
  exact hk5 a0 a1 x2 x3 (x4 + 1)
set_option maxRecDepth 20000 in
theorem h_X6_takersOf_b5 (g : GW) : ∀ n : Nat, ∀ a0 a1 x2 x3 x4, V g mX6_takersOf 12 rtI 5 [(0, rf g a0), (1, rf g a1), (2, .int x2), (3, .int x3), (4, .int x4)] [] (f_X6_takersOf_b5 n a0 a1 x2 x3 x4) := by
  intro n
  induction n with
  | zero => intro a0 a1 x2 x3 x4; exact V.vain
  | succ n ih =>
    intro a0 a1 x2 x3 x4
    unfold f_X6_takersOf_b5
    refine v_iload (pc' := 7) 4 dX6_takersOf_5 rfl rfl ?_
    refine v_aload_n (pc' := 8) 0 dX6_takersOf_7 rfl rfl rfl ?_
    refine v_getR (pc' := 11) fl_X6_7 dX6_takersOf_8 rfl fun r1 => ?_
    refine v_getI (pc' := 14) fl_X6_66 dX6_takersOf_11 rfl fun v2 => ?_
    refine v_icmpge (t := 48) (pc' := 17) dX6_takersOf_14 (by decide) rfl ?_ ?_
    · refine v_iload_n (pc' := 49) 3 dX6_takersOf_48 rfl rfl rfl ?_
      exact v_ireturn rfl dX6_takersOf_49
    · refine v_aload_n (pc' := 18) 0 dX6_takersOf_17 rfl rfl rfl ?_
      refine v_aload_n (pc' := 19) 1 dX6_takersOf_18 rfl rfl rfl ?_
      refine v_iload (pc' := 21) 4 dX6_takersOf_19 rfl rfl ?_
      refine v_iload_n (pc' := 22) 2 dX6_takersOf_21 rfl rfl rfl ?_
      refine v_aload_n (pc' := 23) 1 dX6_takersOf_22 rfl rfl rfl ?_
      refine v_getR (pc' := 26) fl_X6_52 dX6_takersOf_23 rfl fun r3 => ?_
      refine v_iload (pc' := 28) 4 dX6_takersOf_26 rfl rfl ?_
      refine v_iald (pc' := 29) dX6_takersOf_28 rfl fun v4 => ?_
      refine v_callV (vs := [rf g a1, .int x4, .int x2, .int v4]) (pc' := 32) (h_X6_hasAsHimself g a0 a1 x4 x2 v4) mv_X6_hasAsHimself wl_X6_69 rfl (Nat.le_of_ble_eq_true rfl) (by omega) (by decide) (Nat.le_of_ble_eq_true rfl) rfl dX6_takersOf_29 rfl fun v5 => ?_
      refine v_ifeq (t := 42) (pc' := 35) dX6_takersOf_32 (by decide) rfl ?_ ?_
      · refine V.sub [0, 1, 2, 3, 4] rfl ?_
        exact h_X6_takersOf_b42 g (f_X6_takersOf_b5 n) ih a0 a1 x2 x3 x4
      · refine v_iload_n (pc' := 36) 3 dX6_takersOf_35 rfl rfl rfl ?_
        refine v_iconst (v := 1) (pc' := 37) dX6_takersOf_36 rfl rfl ?_
        refine v_iload (pc' := 39) 4 dX6_takersOf_37 rfl rfl ?_
        refine v_ishl (pc' := 40) dX6_takersOf_39 rfl ?_
        refine v_ior (pc' := 41) dX6_takersOf_40 rfl ?_
        refine v_istore_n (lv' := [(3, .int (x3 ||| ((1 : Int32) <<< (x4 &&& 31)))), (0, rf g a0), (1, rf g a1), (2, .int x2), (4, .int x4)]) (pc' := 42) dX6_takersOf_41 rfl (by decide) rfl rfl ?_
        refine V.sub [1, 2, 3, 0, 4] rfl ?_
        exact h_X6_takersOf_b42 g (f_X6_takersOf_b5 n) ih a0 a1 x2 (x3 ||| ((1 : Int32) <<< (x4 &&& 31))) x4
set_option maxRecDepth 20000 in
theorem h_X6_takersOf (g : GW) (a0 : Nat) (a1 : Nat) (x2 : Int32) : V g mX6_takersOf 12 rtI 0 [(0, rf g a0), (1, rf g a1), (2, .int x2)] [] (f_X6_takersOf a0 a1 x2) := by
  unfold f_X6_takersOf
  refine v_iconst (v := 0) (pc' := 1) dX6_takersOf_0 rfl rfl ?_
  refine v_istore_n (lv' := [(3, .int 0), (0, rf g a0), (1, rf g a1), (2, .int x2)]) (pc' := 2) dX6_takersOf_1 rfl (by decide) rfl rfl ?_
  refine v_iconst (v := 0) (pc' := 3) dX6_takersOf_2 rfl rfl ?_
  refine v_istore (lv' := [(4, .int 0), (3, .int 0), (0, rf g a0), (1, rf g a1), (2, .int x2)]) (pc' := 5) dX6_takersOf_3 (by decide) rfl rfl ?_
  refine V.sub [2, 3, 4, 1, 0] rfl ?_
  exact h_X6_takersOf_b5 g NF a0 a1 x2 0 0
-- hadBits
def f_X6_hadBits_b65 (k5 : Nat → Nat → Int32 → Int32 → Int32 → Mo Int32) (a0 : Nat) (a1 : Nat) (x2 : Int32) (x3 : Int32) (x4 : Int32) : Mo Int32 := k5 a0 a1 x2 x3 (x4 + 1)
def f_X6_hadBits_b5 : Nat → Nat → Nat → Int32 → Int32 → Int32 → Mo Int32
  | 0, _, _, _, _, _ => fl
  | n + 1, a0, a1, x2, x3, x4 => bd (gI 5 4 a1) fun v1 => if (v1 ≤ x4 : Prop) then (pu x3) else bd (cv 5 a1 (f_X5_sitterOf a1 x4)) fun v2 => bd (cv 5 a1 (f_X5_hallOf a1 x4)) fun v3 => if (v3 = x2 : Prop) then (f_X6_hadBits_b65 (f_X6_hadBits_b5 n) a0 a1 x2 x3 x4) else bd (gR 6 0 a0) fun r4 => bd (cv 5 a1 (f_X5_faceOn a1 x4)) fun v5 => bd (gR 6 0 a0) fun r6 => bd (gR 2 0 r6) fun r7 => bd (al 0 r7 v2) fun v8 => bd (cv 2 r4 (f_X2_alike r4 v5 v8)) fun v9 => if (v9 = 0 : Prop) then (f_X6_hadBits_b65 (f_X6_hadBits_b5 n) a0 a1 x2 x3 x4) else f_X6_hadBits_b65 (f_X6_hadBits_b5 n) a0 a1 x2 (x3 ||| ((1 : Int32) <<< (v2 &&& 31))) x4
def f_X6_hadBits (a0 : Nat) (a1 : Nat) (x2 : Int32) : Mo Int32 := f_X6_hadBits_b5 NF a0 a1 x2 0 0
set_option maxRecDepth 20000 in
theorem h_X6_hadBits_b65 (g : GW) (k5 : Nat → Nat → Int32 → Int32 → Int32 → Mo Int32) (hk5 : ∀ a0 a1 x2 x3 x4, V g mX6_hadBits 9 rtI 5 [(0, rf g a0), (1, rf g a1), (2, .int x2), (3, .int x3), (4, .int x4)] [] (k5 a0 a1 x2 x3 x4)) (a0 : Nat) (a1 : Nat) (x2 : Int32) (x3 : Int32) (x4 : Int32) : V g mX6_hadBits 9 rtI 65 [(0, rf g a0), (1, rf g a1), (2, .int x2), (3, .int x3), (4, .int x4)] [] (f_X6_hadBits_b65 k5 a0 a1 x2 x3 x4) := by
  unfold f_X6_hadBits_b65
  refine v_iinc (v := x4 + 1) (lv' := [(4, .int (x4 + 1)), (0, rf g a0), (1, rf g a1), (2, .int x2), (3, .int x3)]) (pc' := 68) 4 dX6_hadBits_65 rfl rfl (by decide) rfl rfl ?_
  refine v_goto (t := 5) dX6_hadBits_68 (by decide) ?_
  refine V.sub [1, 2, 3, 4, 0] rfl ?_
  exact hk5 a0 a1 x2 x3 (x4 + 1)
set_option maxRecDepth 20000 in
theorem h_X6_hadBits_b5 (g : GW) : ∀ n : Nat, ∀ a0 a1 x2 x3 x4, V g mX6_hadBits 9 rtI 5 [(0, rf g a0), (1, rf g a1), (2, .int x2), (3, .int x3), (4, .int x4)] [] (f_X6_hadBits_b5 n a0 a1 x2 x3 x4) := by
  intro n
  induction n with
  | zero => intro a0 a1 x2 x3 x4; exact V.vain
  | succ n ih =>
    intro a0 a1 x2 x3 x4
    unfold f_X6_hadBits_b5
    refine v_iload (pc' := 7) 4 dX6_hadBits_5 rfl rfl ?_
    refine v_aload_n (pc' := 8) 1 dX6_hadBits_7 rfl rfl rfl ?_
    refine v_getI (pc' := 11) fl_X6_73 dX6_hadBits_8 rfl fun v1 => ?_
    refine v_icmpge (t := 71) (pc' := 14) dX6_hadBits_11 (by decide) rfl ?_ ?_
    · refine v_iload_n (pc' := 72) 3 dX6_hadBits_71 rfl rfl rfl ?_
      exact v_ireturn rfl dX6_hadBits_72
    · refine v_aload_n (pc' := 15) 1 dX6_hadBits_14 rfl rfl rfl ?_
      refine v_iload (pc' := 17) 4 dX6_hadBits_15 rfl rfl ?_
      refine v_callV (vs := [.int x4]) (pc' := 20) (h_X5_sitterOf g a1 x4) mv_X5_sitterOf wl_X6_76 rfl (Nat.le_of_ble_eq_true rfl) (by omega) (by decide) (Nat.le_of_ble_eq_true rfl) rfl dX6_hadBits_17 rfl fun v2 => ?_
      refine v_istore (lv' := [(5, .int v2), (0, rf g a0), (1, rf g a1), (2, .int x2), (3, .int x3), (4, .int x4)]) (pc' := 22) dX6_hadBits_20 (by decide) rfl rfl ?_
      refine v_aload_n (pc' := 23) 2 dX6_hadBits_22 rfl rfl rfl ?_
      refine v_iload (pc' := 25) 5 dX6_hadBits_23 rfl rfl ?_
      refine v_callV (vs := [.int x4]) (pc' := 28) (h_X5_hallOf g a1 x4) mv_X5_hallOf wl_X6_80 rfl (Nat.le_of_ble_eq_true rfl) (by omega) (by decide) (Nat.le_of_ble_eq_true rfl) rfl dX6_hadBits_25 rfl fun v3 => ?_
      refine v_iload_n (pc' := 29) 3 dX6_hadBits_28 rfl rfl rfl ?_
      refine v_icmpeq (t := 65) (pc' := 32) dX6_hadBits_29 (by decide) rfl ?_ ?_
      · refine V.sub [1, 2, 3, 4, 5] rfl ?_
        exact h_X6_hadBits_b65 g (f_X6_hadBits_b5 n) ih a0 a1 x2 x3 x4
      · refine v_aload_n (pc' := 33) 1 dX6_hadBits_32 rfl rfl rfl ?_
        refine v_getR (pc' := 36) fl_X6_7 dX6_hadBits_33 rfl fun r4 => ?_
        refine v_aload_n (pc' := 37) 2 dX6_hadBits_36 rfl rfl rfl ?_
        refine v_iload (pc' := 39) 5 dX6_hadBits_37 rfl rfl ?_
        refine v_callV (vs := [.int x4]) (pc' := 42) (h_X5_faceOn g a1 x4) mv_X5_faceOn wl_X6_83 rfl (Nat.le_of_ble_eq_true rfl) (by omega) (by decide) (Nat.le_of_ble_eq_true rfl) rfl dX6_hadBits_39 rfl fun v5 => ?_
        refine v_aload_n (pc' := 43) 1 dX6_hadBits_42 rfl rfl rfl ?_
        refine v_getR (pc' := 46) fl_X6_7 dX6_hadBits_43 rfl fun r6 => ?_
        refine v_getR (pc' := 49) fl_X6_23 dX6_hadBits_46 rfl fun r7 => ?_
        refine v_iload (pc' := 51) 0 dX6_hadBits_49 rfl rfl ?_
        refine v_iald (pc' := 52) dX6_hadBits_51 rfl fun v8 => ?_
        refine v_callV (vs := [.int v5, .int v8]) (pc' := 55) (h_X2_alike g r4 v5 v8) mv_X2_alike wl_X6_63 rfl (Nat.le_of_ble_eq_true rfl) (by omega) (by decide) (Nat.le_of_ble_eq_true rfl) rfl dX6_hadBits_52 rfl fun v9 => ?_
        refine v_ifeq (t := 65) (pc' := 58) dX6_hadBits_55 (by decide) rfl ?_ ?_
        · refine V.sub [1, 2, 3, 4, 5] rfl ?_
          exact h_X6_hadBits_b65 g (f_X6_hadBits_b5 n) ih a0 a1 x2 x3 x4
        · refine v_iload_n (pc' := 59) 4 dX6_hadBits_58 rfl rfl rfl ?_
          refine v_iconst (v := 1) (pc' := 60) dX6_hadBits_59 rfl rfl ?_
          refine v_iload (pc' := 62) 0 dX6_hadBits_60 rfl rfl ?_
          refine v_ishl (pc' := 63) dX6_hadBits_62 rfl ?_
          refine v_ior (pc' := 64) dX6_hadBits_63 rfl ?_
          refine v_istore_n (lv' := [(3, .int (x3 ||| ((1 : Int32) <<< (v2 &&& 31)))), (5, .int v2), (0, rf g a0), (1, rf g a1), (2, .int x2), (4, .int x4)]) (pc' := 65) dX6_hadBits_64 rfl (by decide) rfl rfl ?_
          refine V.sub [2, 3, 4, 0, 5] rfl ?_
          exact h_X6_hadBits_b65 g (f_X6_hadBits_b5 n) ih a0 a1 x2 (x3 ||| ((1 : Int32) <<< (v2 &&& 31))) x4
set_option maxRecDepth 20000 in
theorem h_X6_hadBits (g : GW) (a0 : Nat) (a1 : Nat) (x2 : Int32) : V g mX6_hadBits 9 rtI 0 [(0, rf g a0), (1, rf g a1), (2, .int x2)] [] (f_X6_hadBits a0 a1 x2) := by
  unfold f_X6_hadBits
  refine v_iconst (v := 0) (pc' := 1) dX6_hadBits_0 rfl rfl ?_
  refine v_istore_n (lv' := [(3, .int 0), (0, rf g a0), (1, rf g a1), (2, .int x2)]) (pc' := 2) dX6_hadBits_1 rfl (by decide) rfl rfl ?_
  refine v_iconst (v := 0) (pc' := 3) dX6_hadBits_2 rfl rfl ?_
  refine v_istore (lv' := [(4, .int 0), (3, .int 0), (0, rf g a0), (1, rf g a1), (2, .int x2)]) (pc' := 5) dX6_hadBits_3 (by decide) rfl rfl ?_
  refine V.sub [2, 3, 4, 1, 0] rfl ?_
  exact h_X6_hadBits_b5 g NF a0 a1 x2 0 0
-- <init>
def f_X10_init (a0 : Nat) (a1 : Nat) : Mo Unit := bd (pf 10 0 a0 (.ref a1)) fun _ => bd (nO 5 6 [.null, .null, .null, .null, .int 0, .int 0]) fun r1 => bd (ni (f_X5_init r1)) fun _ => bd (pf 10 1 a0 (.ref r1)) fun _ => pu ()
set_option maxRecDepth 20000 in
theorem h_X10_init (g : GW) (a0 : Nat) (a1 : Nat) : V g mX10_init 9 rtU 0 [(0, rf g a0), (1, rf g a1)] [] (f_X10_init a0 a1) := by
  unfold f_X10_init
  refine v_aload_n (pc' := 1) 0 dX10_init_0 rfl rfl rfl ?_
  refine v_objInit (pc' := 4) (tg2 42 (by decide +kernel) (by decide +kernel)) wo_inst wo_code (by omega) (Nat.le_of_ble_eq_true rfl) dX10_init_1 rfl ?_
  refine v_aload_n (pc' := 5) 0 dX10_init_4 rfl rfl rfl ?_
  refine v_aload_n (pc' := 6) 1 dX10_init_5 rfl rfl rfl ?_
  refine v_put (v := (.ref a1)) (v' := rf g a1) (pc' := 9) fw_X10_9 rfl rfl rfl (fun _ => rfl) dX10_init_6 rfl ?_
  refine v_aload_n (pc' := 10) 0 dX10_init_9 rfl rfl rfl ?_
  refine v_newO (pc' := 13) nw_X10_15 dX10_init_10 rfl fun r1 => ?_
  refine v_dup (pc' := 14) dX10_init_13 rfl rfl ?_
  refine v_callI (vs := []) (pc' := 17) (h_X5_init g r1) mn_X5_init wl_X10_17 (Nat.le_of_ble_eq_true rfl) (by omega) (by decide) (Nat.le_of_ble_eq_true rfl) dX10_init_14 rfl ?_
  refine v_put (v := (.ref r1)) (v' := rf g r1) (pc' := 20) fw_X10_18 rfl rfl rfl (fun _ => rfl) dX10_init_17 rfl ?_
  exact v_return rfl dX10_init_20
-- draw
def f_X10_draw (a0 : Nat) (x1 : Int32) : Mo Int32 := bd (gI 10 2 a0) fun v1 => bd (pf 10 2 a0 (.int ((v1 * (1103515245 : Int32)) + (12345 : Int32)))) fun _ => bd (gI 10 2 a0) fun v2 => if (0 < x1 : Prop) then (bd (rm_ (((Int32.toUInt32 v2 >>> (Int32.toUInt32 16 &&& Int32.toUInt32 31)).toInt32) &&& (32767 : Int32)) x1) fun v3 => pu v3) else pu 0
set_option maxRecDepth 20000 in
theorem h_X10_draw (g : GW) (a0 : Nat) (x1 : Int32) : V g mX10_draw 8 rtI 0 [(0, rf g a0), (1, .int x1)] [] (f_X10_draw a0 x1) := by
  unfold f_X10_draw
  refine v_aload_n (pc' := 1) 0 dX10_draw_0 rfl rfl rfl ?_
  refine v_aload_n (pc' := 2) 0 dX10_draw_1 rfl rfl rfl ?_
  refine v_getI (pc' := 5) fl_X10_26 dX10_draw_2 rfl fun v1 => ?_
  refine v_ldc (v := 1103515245) (pc' := 7) (tg6 94 (by decide +kernel) (by decide +kernel)) dX10_draw_5 rfl ?_
  refine v_imul (pc' := 8) dX10_draw_7 rfl ?_
  refine v_sipush (v := 12345) (pc' := 11) dX10_draw_8 rfl rfl ?_
  refine v_iadd (pc' := 12) dX10_draw_11 rfl ?_
  refine v_put (v := (.int ((v1 * (1103515245 : Int32)) + (12345 : Int32)))) (v' := .int ((v1 * (1103515245 : Int32)) + (12345 : Int32))) (pc' := 15) fw_X10_26 rfl rfl rfl (fun h => nomatch h) dX10_draw_12 rfl ?_
  refine v_aload_n (pc' := 16) 0 dX10_draw_15 rfl rfl rfl ?_
  refine v_getI (pc' := 19) fl_X10_26 dX10_draw_16 rfl fun v2 => ?_
  refine v_bipush (v := 16) (pc' := 21) dX10_draw_19 rfl rfl ?_
  refine v_iushr (pc' := 22) dX10_draw_21 rfl ?_
  refine v_sipush (v := 32767) (pc' := 25) dX10_draw_22 rfl rfl ?_
  refine v_iand (pc' := 26) dX10_draw_25 rfl ?_
  refine v_istore_n (lv' := [(2, .int (((Int32.toUInt32 v2 >>> (Int32.toUInt32 16 &&& Int32.toUInt32 31)).toInt32) &&& (32767 : Int32))), (0, rf g a0), (1, .int x1)]) (pc' := 27) dX10_draw_26 rfl (by decide) rfl rfl ?_
  refine v_iload_n (pc' := 28) 2 dX10_draw_27 rfl rfl rfl ?_
  refine v_ifgt (t := 35) (pc' := 31) dX10_draw_28 (by decide) rfl ?_ ?_
  · refine v_iload_n (pc' := 36) 0 dX10_draw_35 rfl rfl rfl ?_
    refine v_iload_n (pc' := 37) 2 dX10_draw_36 rfl rfl rfl ?_
    refine v_irem (pc' := 38) dX10_draw_37 rfl fun v3 => ?_
    exact v_ireturn rfl dX10_draw_38
  · refine v_iconst (v := 0) (pc' := 32) dX10_draw_31 rfl rfl ?_
    refine v_goto (t := 38) dX10_draw_32 (by decide) ?_
    exact v_ireturn rfl dX10_draw_38
-- passTake
def f_X10_passTake_b66 (a0 : Nat) (x1 : Int32) (x4 : Int32) : Mo Unit := bd (cv 10 a0 (f_X10_draw a0 16)) fun v1 => if (x1 ≤ v1 : Prop) then (pu ()) else bd (gR 10 1 a0) fun r2 => bd (cv 5 r2 (f_X5_burn r2 x4)) fun v3 => if (v3 = 0 : Prop) then (pu ()) else bd (gI 10 4 a0) fun v4 => bd (pf 10 4 a0 (.int (v4 + (1 : Int32)))) fun _ => pu ()
def f_X10_passTake (a0 : Nat) (x1 : Int32) : Mo Unit := bd (gR 10 0 a0) fun r5 => bd (gR 6 0 r5) fun r6 => bd (gI 2 4 r6) fun v7 => bd (cv 10 a0 (f_X10_draw a0 v7)) fun v8 => bd (gR 10 0 a0) fun r9 => bd (gR 6 0 r9) fun r10 => bd (gI 2 4 r10) fun v11 => bd (cv 10 a0 (f_X10_draw a0 v11)) fun v12 => bd (cv 10 a0 (f_X10_draw a0 6)) fun v13 => bd (gR 10 0 a0) fun r14 => bd (gR 10 1 a0) fun r15 => bd (cv 6 r14 (f_X6_take r14 r15 v8 v12 v13)) fun v16 => if (v16 = 0 : Prop) then (bd (gI 10 3 a0) fun v17 => bd (pf 10 3 a0 (.int (v17 + (1 : Int32)))) fun _ => f_X10_passTake_b66 a0 x1 v13) else f_X10_passTake_b66 a0 x1 v13
set_option maxRecDepth 20000 in
theorem h_X10_passTake_b66 (g : GW) (a0 : Nat) (x1 : Int32) (x4 : Int32) : V g mX10_passTake 12 rtU 66 [(0, rf g a0), (1, .int x1), (4, .int x4)] [] (f_X10_passTake_b66 a0 x1 x4) := by
  unfold f_X10_passTake_b66
  refine v_aload_n (pc' := 67) 0 dX10_passTake_66 rfl rfl rfl ?_
  refine v_bipush (v := 16) (pc' := 69) dX10_passTake_67 rfl rfl ?_
  refine v_callV (vs := [.int 16]) (pc' := 72) (h_X10_draw g a0 16) mv_X10_draw wl_X10_54 rfl (Nat.le_of_ble_eq_true rfl) (by omega) (by decide) (Nat.le_of_ble_eq_true rfl) rfl dX10_passTake_69 rfl fun v1 => ?_
  refine v_iload_n (pc' := 73) 1 dX10_passTake_72 rfl rfl rfl ?_
  refine v_icmpge (t := 98) (pc' := 76) dX10_passTake_73 (by decide) rfl ?_ ?_
  · exact v_return rfl dX10_passTake_98
  · refine v_aload_n (pc' := 77) 0 dX10_passTake_76 rfl rfl rfl ?_
    refine v_getR (pc' := 80) fl_X10_18 dX10_passTake_77 rfl fun r2 => ?_
    refine v_iload (pc' := 82) 2 dX10_passTake_80 rfl rfl ?_
    refine v_callV (vs := [.int x4]) (pc' := 85) (h_X5_burn g r2 x4) mv_X5_burn wl_X10_62 rfl (Nat.le_of_ble_eq_true rfl) (by omega) (by decide) (Nat.le_of_ble_eq_true rfl) rfl dX10_passTake_82 rfl fun v3 => ?_
    refine v_ifeq (t := 98) (pc' := 88) dX10_passTake_85 (by decide) rfl ?_ ?_
    · exact v_return rfl dX10_passTake_98
    · refine v_aload_n (pc' := 89) 0 dX10_passTake_88 rfl rfl rfl ?_
      refine v_dup (pc' := 90) dX10_passTake_89 rfl rfl ?_
      refine v_getI (pc' := 93) fl_X10_33 dX10_passTake_90 rfl fun v4 => ?_
      refine v_iconst (v := 1) (pc' := 94) dX10_passTake_93 rfl rfl ?_
      refine v_iadd (pc' := 95) dX10_passTake_94 rfl ?_
      refine v_put (v := (.int (v4 + (1 : Int32)))) (v' := .int (v4 + (1 : Int32))) (pc' := 98) fw_X10_33 rfl rfl rfl (fun h => nomatch h) dX10_passTake_95 rfl ?_
      exact v_return rfl dX10_passTake_98
set_option maxRecDepth 20000 in
theorem h_X10_passTake (g : GW) (a0 : Nat) (x1 : Int32) : V g mX10_passTake 12 rtU 0 [(0, rf g a0), (1, .int x1)] [] (f_X10_passTake a0 x1) := by
  unfold f_X10_passTake
  refine v_aload_n (pc' := 1) 0 dX10_passTake_0 rfl rfl rfl ?_
  refine v_aload_n (pc' := 2) 0 dX10_passTake_1 rfl rfl rfl ?_
  refine v_getR (pc' := 5) fl_X10_9 dX10_passTake_2 rfl fun r5 => ?_
  refine v_getR (pc' := 8) fl_X10_36 dX10_passTake_5 rfl fun r6 => ?_
  refine v_getI (pc' := 11) fl_X10_42 dX10_passTake_8 rfl fun v7 => ?_
  refine v_callV (vs := [.int v7]) (pc' := 14) (h_X10_draw g a0 v7) mv_X10_draw wl_X10_54 rfl (Nat.le_of_ble_eq_true rfl) (by omega) (by decide) (Nat.le_of_ble_eq_true rfl) rfl dX10_passTake_11 rfl fun v8 => ?_
  refine v_istore_n (lv' := [(2, .int v8), (0, rf g a0), (1, .int x1)]) (pc' := 15) dX10_passTake_14 rfl (by decide) rfl rfl ?_
  refine v_aload_n (pc' := 16) 1 dX10_passTake_15 rfl rfl rfl ?_
  refine v_aload_n (pc' := 17) 1 dX10_passTake_16 rfl rfl rfl ?_
  refine v_getR (pc' := 20) fl_X10_9 dX10_passTake_17 rfl fun r9 => ?_
  refine v_getR (pc' := 23) fl_X10_36 dX10_passTake_20 rfl fun r10 => ?_
  refine v_getI (pc' := 26) fl_X10_42 dX10_passTake_23 rfl fun v11 => ?_
  refine v_callV (vs := [.int v11]) (pc' := 29) (h_X10_draw g a0 v11) mv_X10_draw wl_X10_54 rfl (Nat.le_of_ble_eq_true rfl) (by omega) (by decide) (Nat.le_of_ble_eq_true rfl) rfl dX10_passTake_26 rfl fun v12 => ?_
  refine v_istore_n (lv' := [(3, .int v12), (2, .int v8), (0, rf g a0), (1, .int x1)]) (pc' := 30) dX10_passTake_29 rfl (by decide) rfl rfl ?_
  refine v_aload_n (pc' := 31) 2 dX10_passTake_30 rfl rfl rfl ?_
  refine v_bipush (v := 6) (pc' := 33) dX10_passTake_31 rfl rfl ?_
  refine v_callV (vs := [.int 6]) (pc' := 36) (h_X10_draw g a0 6) mv_X10_draw wl_X10_54 rfl (Nat.le_of_ble_eq_true rfl) (by omega) (by decide) (Nat.le_of_ble_eq_true rfl) rfl dX10_passTake_33 rfl fun v13 => ?_
  refine v_istore (lv' := [(4, .int v13), (3, .int v12), (2, .int v8), (0, rf g a0), (1, .int x1)]) (pc' := 38) dX10_passTake_36 (by decide) rfl rfl ?_
  refine v_aload_n (pc' := 39) 3 dX10_passTake_38 rfl rfl rfl ?_
  refine v_getR (pc' := 42) fl_X10_9 dX10_passTake_39 rfl fun r14 => ?_
  refine v_aload_n (pc' := 43) 3 dX10_passTake_42 rfl rfl rfl ?_
  refine v_getR (pc' := 46) fl_X10_18 dX10_passTake_43 rfl fun r15 => ?_
  refine v_iload_n (pc' := 47) 2 dX10_passTake_46 rfl rfl rfl ?_
  refine v_iload_n (pc' := 48) 1 dX10_passTake_47 rfl rfl rfl ?_
  refine v_iload (pc' := 50) 0 dX10_passTake_48 rfl rfl ?_
  refine v_callV (vs := [rf g r15, .int v8, .int v12, .int v13]) (pc' := 53) (h_X6_take g r14 r15 v8 v12 v13) mv_X6_take wl_X10_58 rfl (Nat.le_of_ble_eq_true rfl) (by omega) (by decide) (Nat.le_of_ble_eq_true rfl) rfl dX10_passTake_50 rfl fun v16 => ?_
  refine v_ifne (t := 66) (pc' := 56) dX10_passTake_53 (by decide) rfl ?_ ?_
  · refine V.sub [3, 4, 0] rfl ?_
    exact h_X10_passTake_b66 g a0 x1 v13
  · refine v_aload_n (pc' := 57) 3 dX10_passTake_56 rfl rfl rfl ?_
    refine v_dup (pc' := 58) dX10_passTake_57 rfl rfl ?_
    refine v_getI (pc' := 61) fl_X10_30 dX10_passTake_58 rfl fun v17 => ?_
    refine v_iconst (v := 1) (pc' := 62) dX10_passTake_61 rfl rfl ?_
    refine v_iadd (pc' := 63) dX10_passTake_62 rfl ?_
    refine v_put (v := (.int (v17 + (1 : Int32)))) (v' := .int (v17 + (1 : Int32))) (pc' := 66) fw_X10_30 rfl rfl rfl (fun h => nomatch h) dX10_passTake_63 rfl ?_
    refine V.sub [3, 4, 0] rfl ?_
    exact h_X10_passTake_b66 g a0 x1 v13
-- pass
def f_X10_pass_b66 (k40 : Nat → Int32 → Int32 → Int32 → Mo Unit) (a0 : Nat) (x3 : Int32) (x4 : Int32) (x5 : Int32) : Mo Unit := k40 a0 x3 x4 (x5 + 1)
def f_X10_pass_b40 : Nat → Nat → Int32 → Int32 → Int32 → Mo Unit
  | 0, _, _, _, _ => fl
  | n + 1, a0, x3, x4, x5 => if (x3 < x5 : Prop) then (pu ()) else bd (cv 10 a0 (f_X10_passTake a0 x4)) fun _ => bd (rm_ x5 4) fun v1 => if (v1 = 0 : Prop) then (bd (gR 10 1 a0) fun r2 => bd (cv 5 r2 (f_X5_turnYear r2)) fun _ => f_X10_pass_b66 (f_X10_pass_b40 n) a0 x3 x4 x5) else f_X10_pass_b66 (f_X10_pass_b40 n) a0 x3 x4 x5
def f_X10_pass (a0 : Nat) (a1 : Nat) (x2 : Int32) (x3 : Int32) (x4 : Int32) : Mo Unit := bd (gR 10 1 a0) fun r3 => bd (cv 5 r3 (f_X5_copyFrom r3 a1)) fun _ => bd (pf 10 2 a0 (.int x2)) fun _ => bd (pf 10 3 a0 (.int 0)) fun _ => bd (pf 10 4 a0 (.int 0)) fun _ => bd (gR 10 0 a0) fun r4 => bd (gR 6 0 r4) fun r5 => bd (gI 2 4 r5) fun v6 => if (v6 = 0 : Prop) then (pu ()) else f_X10_pass_b40 NF a0 x3 x4 1
set_option maxRecDepth 20000 in
theorem h_X10_pass_b66 (g : GW) (k40 : Nat → Int32 → Int32 → Int32 → Mo Unit) (hk40 : ∀ a0 x3 x4 x5, V g mX10_pass 13 rtU 40 [(0, rf g a0), (3, .int x3), (4, .int x4), (5, .int x5)] [] (k40 a0 x3 x4 x5)) (a0 : Nat) (x3 : Int32) (x4 : Int32) (x5 : Int32) : V g mX10_pass 13 rtU 66 [(0, rf g a0), (3, .int x3), (4, .int x4), (5, .int x5)] [] (f_X10_pass_b66 k40 a0 x3 x4 x5) := by
  unfold f_X10_pass_b66
  refine v_iinc (v := x5 + 1) (lv' := [(5, .int (x5 + 1)), (0, rf g a0), (3, .int x3), (4, .int x4)]) (pc' := 69) 3 dX10_pass_66 rfl rfl (by decide) rfl rfl ?_
  refine v_goto (t := 40) dX10_pass_69 (by decide) ?_
  refine V.sub [1, 2, 3, 0] rfl ?_
  exact hk40 a0 x3 x4 (x5 + 1)
set_option maxRecDepth 20000 in
theorem h_X10_pass_b40 (g : GW) : ∀ n : Nat, ∀ a0 x3 x4 x5, V g mX10_pass 13 rtU 40 [(0, rf g a0), (3, .int x3), (4, .int x4), (5, .int x5)] [] (f_X10_pass_b40 n a0 x3 x4 x5) := by
  intro n
  induction n with
  | zero => intro a0 x3 x4 x5; exact V.vain
  | succ n ih =>
    intro a0 x3 x4 x5
    unfold f_X10_pass_b40
    refine v_iload (pc' := 42) 3 dX10_pass_40 rfl rfl ?_
    refine v_iload_n (pc' := 43) 1 dX10_pass_42 rfl rfl rfl ?_
    refine v_icmpgt (t := 72) (pc' := 46) dX10_pass_43 (by decide) rfl ?_ ?_
    · exact v_return rfl dX10_pass_72
    · refine v_aload_n (pc' := 47) 0 dX10_pass_46 rfl rfl rfl ?_
      refine v_iload (pc' := 49) 2 dX10_pass_47 rfl rfl ?_
      refine v_callV (vs := [.int x4]) (pc' := 52) (h_X10_passTake g a0 x4) mv_X10_passTake wl_X10_47 rfl (Nat.le_of_ble_eq_true rfl) (by omega) (by decide) (Nat.le_of_ble_eq_true rfl) rfl dX10_pass_49 rfl fun _ => ?_
      refine v_iload (pc' := 54) 3 dX10_pass_52 rfl rfl ?_
      refine v_iconst (v := 4) (pc' := 55) dX10_pass_54 rfl rfl ?_
      refine v_irem (pc' := 56) dX10_pass_55 rfl fun v1 => ?_
      refine v_ifne (t := 66) (pc' := 59) dX10_pass_56 (by decide) rfl ?_ ?_
      · refine V.sub [0, 1, 2, 3] rfl ?_
        exact h_X10_pass_b66 g (f_X10_pass_b40 n) ih a0 x3 x4 x5
      · refine v_aload_n (pc' := 60) 0 dX10_pass_59 rfl rfl rfl ?_
        refine v_getR (pc' := 63) fl_X10_18 dX10_pass_60 rfl fun r2 => ?_
        refine v_callV (vs := []) (pc' := 66) (h_X5_turnYear g r2) mv_X5_turnYear wl_X10_51 rfl (Nat.le_of_ble_eq_true rfl) (by omega) (by decide) (Nat.le_of_ble_eq_true rfl) rfl dX10_pass_63 rfl fun _ => ?_
        refine V.sub [0, 1, 2, 3] rfl ?_
        exact h_X10_pass_b66 g (f_X10_pass_b40 n) ih a0 x3 x4 x5
set_option maxRecDepth 20000 in
theorem h_X10_pass (g : GW) (a0 : Nat) (a1 : Nat) (x2 : Int32) (x3 : Int32) (x4 : Int32) : V g mX10_pass 13 rtU 0 [(0, rf g a0), (1, rf g a1), (2, .int x2), (3, .int x3), (4, .int x4)] [] (f_X10_pass a0 a1 x2 x3 x4) := by
  unfold f_X10_pass
  refine v_aload_n (pc' := 1) 0 dX10_pass_0 rfl rfl rfl ?_
  refine v_getR (pc' := 4) fl_X10_18 dX10_pass_1 rfl fun r3 => ?_
  refine v_aload_n (pc' := 5) 1 dX10_pass_4 rfl rfl rfl ?_
  refine v_callV (vs := [rf g a1]) (pc' := 8) (h_X5_copyFrom g r3 a1) mv_X5_copyFrom wl_X10_22 rfl (Nat.le_of_ble_eq_true rfl) (by omega) (by decide) (Nat.le_of_ble_eq_true rfl) rfl dX10_pass_5 rfl fun _ => ?_
  refine v_aload_n (pc' := 9) 0 dX10_pass_8 rfl rfl rfl ?_
  refine v_iload_n (pc' := 10) 2 dX10_pass_9 rfl rfl rfl ?_
  refine v_put (v := (.int x2)) (v' := .int x2) (pc' := 13) fw_X10_26 rfl rfl rfl (fun h => nomatch h) dX10_pass_10 rfl ?_
  refine v_aload_n (pc' := 14) 0 dX10_pass_13 rfl rfl rfl ?_
  refine v_iconst (v := 0) (pc' := 15) dX10_pass_14 rfl rfl ?_
  refine v_put (v := (.int 0)) (v' := .int 0) (pc' := 18) fw_X10_30 rfl rfl rfl (fun h => nomatch h) dX10_pass_15 rfl ?_
  refine v_aload_n (pc' := 19) 0 dX10_pass_18 rfl rfl rfl ?_
  refine v_iconst (v := 0) (pc' := 20) dX10_pass_19 rfl rfl ?_
  refine v_put (v := (.int 0)) (v' := .int 0) (pc' := 23) fw_X10_33 rfl rfl rfl (fun h => nomatch h) dX10_pass_20 rfl ?_
  refine v_aload_n (pc' := 24) 0 dX10_pass_23 rfl rfl rfl ?_
  refine v_getR (pc' := 27) fl_X10_9 dX10_pass_24 rfl fun r4 => ?_
  refine v_getR (pc' := 30) fl_X10_36 dX10_pass_27 rfl fun r5 => ?_
  refine v_getI (pc' := 33) fl_X10_42 dX10_pass_30 rfl fun v6 => ?_
  refine v_ifne (t := 37) (pc' := 36) dX10_pass_33 (by decide) rfl ?_ ?_
  · refine v_iconst (v := 1) (pc' := 38) dX10_pass_37 rfl rfl ?_
    refine v_istore (lv' := [(5, .int 1), (0, rf g a0), (1, rf g a1), (2, .int x2), (3, .int x3), (4, .int x4)]) (pc' := 40) dX10_pass_38 (by decide) rfl rfl ?_
    refine V.sub [1, 4, 5, 0] rfl ?_
    exact h_X10_pass_b40 g NF a0 x3 x4 1
  · exact v_return rfl dX10_pass_36
