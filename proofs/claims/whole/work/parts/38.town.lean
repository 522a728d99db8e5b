-- <init>
def f_X11_init (a0 : Nat) : Mo Unit := bd (nO 8 7 [.null, .int 0, .int 0, .int 0, .int 0, .int 0, .int 0]) fun r1 => bd (ni (f_X8_init r1)) fun _ => bd (pf 11 0 a0 (.ref r1)) fun _ => bd (nO 2 6 [.null, .null, .null, .null, .int 0, .int 0]) fun r2 => bd (ni (f_X2_init r2)) fun _ => bd (pf 11 1 a0 (.ref r2)) fun _ => bd (nO 2 6 [.null, .null, .null, .null, .int 0, .int 0]) fun r3 => bd (ni (f_X2_init r3)) fun _ => bd (pf 11 2 a0 (.ref r3)) fun _ => bd (nO 4 3 [.null, .null, .int 0]) fun r4 => bd (ni (f_X4_init r4)) fun _ => bd (pf 11 3 a0 (.ref r4)) fun _ => bd (nO 4 3 [.null, .null, .int 0]) fun r5 => bd (ni (f_X4_init r5)) fun _ => bd (pf 11 4 a0 (.ref r5)) fun _ => bd (nO 9 8 [.null, .null, .null, .null, .int 0, .int 0, .int 0, .int 0]) fun r6 => bd (ni (f_X9_init r6)) fun _ => bd (pf 11 5 a0 (.ref r6)) fun _ => bd (nO 1 6 [.null, .null, .null, .null, .int 0, .long 0]) fun r7 => bd (gR 11 1 a0) fun r8 => bd (ni (f_X1_init r7 r8)) fun _ => bd (pf 11 6 a0 (.ref r7)) fun _ => bd (nO 6 3 [.null, .null, .null]) fun r9 => bd (gR 11 1 a0) fun r10 => bd (gR 11 3 a0) fun r11 => bd (ni (f_X6_init r9 r10 r11)) fun _ => bd (pf 11 7 a0 (.ref r9)) fun _ => bd (nO 7 6 [.null, .null, .null, .null, .int 0, .int 0]) fun r12 => bd (gR 11 7 a0) fun r13 => bd (ni (f_X7_init r12 r13)) fun _ => bd (pf 11 8 a0 (.ref r12)) fun _ => bd (nO 0 6 [.null, .null, .null, .null, .int 0, .int 0]) fun r14 => bd (gR 11 1 a0) fun r15 => bd (ni (f_X0_init r14 r15)) fun _ => bd (pf 11 9 a0 (.ref r14)) fun _ => bd (nO 10 5 [.null, .null, .int 0, .int 0, .int 0]) fun r16 => bd (gR 11 7 a0) fun r17 => bd (ni (f_X10_init r16 r17)) fun _ => bd (pf 11 10 a0 (.ref r16)) fun _ => bd (nO 5 6 [.null, .null, .null, .null, .int 0, .int 0]) fun r18 => bd (ni (f_X5_init r18)) fun _ => bd (pf 11 11 a0 (.ref r18)) fun _ => bd (nQ 4 3) fun r19 => bd (pf 11 12 a0 (.ref r19)) fun _ => pu ()
set_option maxRecDepth 20000 in
theorem h_X11_init (g : GW) (a0 : Nat) : V g mX11_init 11 rtU 0 [(0, rf g a0)] [] (f_X11_init a0) := by
  unfold f_X11_init
  refine v_aload_n (pc' := 1) 0 dX11_init_0 rfl rfl rfl ?_
  refine v_objInit (pc' := 4) (tg1 32 (by decide +kernel) (by decide +kernel)) wo_inst wo_code (by omega) (Nat.le_of_ble_eq_true rfl) dX11_init_1 rfl ?_
  refine v_aload_n (pc' := 5) 0 dX11_init_4 rfl rfl rfl ?_
  refine v_newO (pc' := 8) nw_X11_7 dX11_init_5 rfl fun r1 => ?_
  refine v_dup (pc' := 9) dX11_init_8 rfl rfl ?_
  refine v_callI (vs := []) (pc' := 12) (h_X8_init g r1) mn_X8_init wl_X11_9 (Nat.le_of_ble_eq_true rfl) (by omega) (by decide) (Nat.le_of_ble_eq_true rfl) dX11_init_9 rfl ?_
  refine v_put (v := (.ref r1)) (v' := rf g r1) (pc' := 15) fw_X11_10 rfl rfl rfl (fun _ => rfl) dX11_init_12 rfl ?_
  refine v_aload_n (pc' := 16) 0 dX11_init_15 rfl rfl rfl ?_
  refine v_newO (pc' := 19) nw_X11_16 dX11_init_16 rfl fun r2 => ?_
  refine v_dup (pc' := 20) dX11_init_19 rfl rfl ?_
  refine v_callI (vs := []) (pc' := 23) (h_X2_init g r2) mn_X2_init wl_X11_18 (Nat.le_of_ble_eq_true rfl) (by omega) (by decide) (Nat.le_of_ble_eq_true rfl) dX11_init_20 rfl ?_
  refine v_put (v := (.ref r2)) (v' := rf g r2) (pc' := 26) fw_X11_19 rfl rfl rfl (fun _ => rfl) dX11_init_23 rfl ?_
  refine v_aload_n (pc' := 27) 0 dX11_init_26 rfl rfl rfl ?_
  refine v_newO (pc' := 30) nw_X11_16 dX11_init_27 rfl fun r3 => ?_
  refine v_dup (pc' := 31) dX11_init_30 rfl rfl ?_
  refine v_callI (vs := []) (pc' := 34) (h_X2_init g r3) mn_X2_init wl_X11_18 (Nat.le_of_ble_eq_true rfl) (by omega) (by decide) (Nat.le_of_ble_eq_true rfl) dX11_init_31 rfl ?_
  refine v_put (v := (.ref r3)) (v' := rf g r3) (pc' := 37) fw_X11_23 rfl rfl rfl (fun _ => rfl) dX11_init_34 rfl ?_
  refine v_aload_n (pc' := 38) 0 dX11_init_37 rfl rfl rfl ?_
  refine v_newO (pc' := 41) nw_X11_26 dX11_init_38 rfl fun r4 => ?_
  refine v_dup (pc' := 42) dX11_init_41 rfl rfl ?_
  refine v_callI (vs := []) (pc' := 45) (h_X4_init g r4) mn_X4_init wl_X11_28 (Nat.le_of_ble_eq_true rfl) (by omega) (by decide) (Nat.le_of_ble_eq_true rfl) dX11_init_42 rfl ?_
  refine v_put (v := (.ref r4)) (v' := rf g r4) (pc' := 48) fw_X11_29 rfl rfl rfl (fun _ => rfl) dX11_init_45 rfl ?_
  refine v_aload_n (pc' := 49) 0 dX11_init_48 rfl rfl rfl ?_
  refine v_newO (pc' := 52) nw_X11_26 dX11_init_49 rfl fun r5 => ?_
  refine v_dup (pc' := 53) dX11_init_52 rfl rfl ?_
  refine v_callI (vs := []) (pc' := 56) (h_X4_init g r5) mn_X4_init wl_X11_28 (Nat.le_of_ble_eq_true rfl) (by omega) (by decide) (Nat.le_of_ble_eq_true rfl) dX11_init_53 rfl ?_
  refine v_put (v := (.ref r5)) (v' := rf g r5) (pc' := 59) fw_X11_33 rfl rfl rfl (fun _ => rfl) dX11_init_56 rfl ?_
  refine v_aload_n (pc' := 60) 0 dX11_init_59 rfl rfl rfl ?_
  refine v_newO (pc' := 63) nw_X11_36 dX11_init_60 rfl fun r6 => ?_
  refine v_dup (pc' := 64) dX11_init_63 rfl rfl ?_
  refine v_callI (vs := []) (pc' := 67) (h_X9_init g r6) mn_X9_init wl_X11_38 (Nat.le_of_ble_eq_true rfl) (by omega) (by decide) (Nat.le_of_ble_eq_true rfl) dX11_init_64 rfl ?_
  refine v_put (v := (.ref r6)) (v' := rf g r6) (pc' := 70) fw_X11_39 rfl rfl rfl (fun _ => rfl) dX11_init_67 rfl ?_
  refine v_aload_n (pc' := 71) 0 dX11_init_70 rfl rfl rfl ?_
  refine v_newO (pc' := 74) nw_X11_43 dX11_init_71 rfl fun r7 => ?_
  refine v_dup (pc' := 75) dX11_init_74 rfl rfl ?_
  refine v_aload_n (pc' := 76) 0 dX11_init_75 rfl rfl rfl ?_
  refine v_getR (pc' := 79) fl_X11_19 dX11_init_76 rfl fun r8 => ?_
  refine v_callI (vs := [rf g r8]) (pc' := 82) (h_X1_init g r7 r8) mn_X1_init wl_X11_45 (Nat.le_of_ble_eq_true rfl) (by omega) (by decide) (Nat.le_of_ble_eq_true rfl) dX11_init_79 rfl ?_
  refine v_put (v := (.ref r7)) (v' := rf g r7) (pc' := 85) fw_X11_48 rfl rfl rfl (fun _ => rfl) dX11_init_82 rfl ?_
  refine v_aload_n (pc' := 86) 0 dX11_init_85 rfl rfl rfl ?_
  refine v_newO (pc' := 89) nw_X11_52 dX11_init_86 rfl fun r9 => ?_
  refine v_dup (pc' := 90) dX11_init_89 rfl rfl ?_
  refine v_aload_n (pc' := 91) 0 dX11_init_90 rfl rfl rfl ?_
  refine v_getR (pc' := 94) fl_X11_19 dX11_init_91 rfl fun r10 => ?_
  refine v_aload_n (pc' := 95) 0 dX11_init_94 rfl rfl rfl ?_
  refine v_getR (pc' := 98) fl_X11_29 dX11_init_95 rfl fun r11 => ?_
  refine v_callI (vs := [rf g r10, rf g r11]) (pc' := 101) (h_X6_init g r9 r10 r11) mn_X6_init wl_X11_54 (Nat.le_of_ble_eq_true rfl) (by omega) (by decide) (Nat.le_of_ble_eq_true rfl) dX11_init_98 rfl ?_
  refine v_put (v := (.ref r9)) (v' := rf g r9) (pc' := 104) fw_X11_57 rfl rfl rfl (fun _ => rfl) dX11_init_101 rfl ?_
  refine v_aload_n (pc' := 105) 0 dX11_init_104 rfl rfl rfl ?_
  refine v_newO (pc' := 108) nw_X11_61 dX11_init_105 rfl fun r12 => ?_
  refine v_dup (pc' := 109) dX11_init_108 rfl rfl ?_
  refine v_aload_n (pc' := 110) 0 dX11_init_109 rfl rfl rfl ?_
  refine v_getR (pc' := 113) fl_X11_57 dX11_init_110 rfl fun r13 => ?_
  refine v_callI (vs := [rf g r13]) (pc' := 116) (h_X7_init g r12 r13) mn_X7_init wl_X11_63 (Nat.le_of_ble_eq_true rfl) (by omega) (by decide) (Nat.le_of_ble_eq_true rfl) dX11_init_113 rfl ?_
  refine v_put (v := (.ref r12)) (v' := rf g r12) (pc' := 119) fw_X11_66 rfl rfl rfl (fun _ => rfl) dX11_init_116 rfl ?_
  refine v_aload_n (pc' := 120) 0 dX11_init_119 rfl rfl rfl ?_
  refine v_newO (pc' := 123) nw_X11_70 dX11_init_120 rfl fun r14 => ?_
  refine v_dup (pc' := 124) dX11_init_123 rfl rfl ?_
  refine v_aload_n (pc' := 125) 0 dX11_init_124 rfl rfl rfl ?_
  refine v_getR (pc' := 128) fl_X11_19 dX11_init_125 rfl fun r15 => ?_
  refine v_callI (vs := [rf g r15]) (pc' := 131) (h_X0_init g r14 r15) mn_X0_init wl_X11_72 (Nat.le_of_ble_eq_true rfl) (by omega) (by decide) (Nat.le_of_ble_eq_true rfl) dX11_init_128 rfl ?_
  refine v_put (v := (.ref r14)) (v' := rf g r14) (pc' := 134) fw_X11_73 rfl rfl rfl (fun _ => rfl) dX11_init_131 rfl ?_
  refine v_aload_n (pc' := 135) 0 dX11_init_134 rfl rfl rfl ?_
  refine v_newO (pc' := 138) nw_X11_77 dX11_init_135 rfl fun r16 => ?_
  refine v_dup (pc' := 139) dX11_init_138 rfl rfl ?_
  refine v_aload_n (pc' := 140) 0 dX11_init_139 rfl rfl rfl ?_
  refine v_getR (pc' := 143) fl_X11_57 dX11_init_140 rfl fun r17 => ?_
  refine v_callI (vs := [rf g r17]) (pc' := 146) (h_X10_init g r16 r17) mn_X10_init wl_X11_79 (Nat.le_of_ble_eq_true rfl) (by omega) (by decide) (Nat.le_of_ble_eq_true rfl) dX11_init_143 rfl ?_
  refine v_put (v := (.ref r16)) (v' := rf g r16) (pc' := 149) fw_X11_80 rfl rfl rfl (fun _ => rfl) dX11_init_146 rfl ?_
  refine v_aload_n (pc' := 150) 0 dX11_init_149 rfl rfl rfl ?_
  refine v_newO (pc' := 153) nw_X11_84 dX11_init_150 rfl fun r18 => ?_
  refine v_dup (pc' := 154) dX11_init_153 rfl rfl ?_
  refine v_callI (vs := []) (pc' := 157) (h_X5_init g r18) mn_X5_init wl_X11_86 (Nat.le_of_ble_eq_true rfl) (by omega) (by decide) (Nat.le_of_ble_eq_true rfl) dX11_init_154 rfl ?_
  refine v_put (v := (.ref r18)) (v' := rf g r18) (pc' := 160) fw_X11_87 rfl rfl rfl (fun _ => rfl) dX11_init_157 rfl ?_
  refine v_aload_n (pc' := 161) 0 dX11_init_160 rfl rfl rfl ?_
  refine v_iconst (v := 3) (pc' := 162) dX11_init_161 rfl rfl ?_
  refine v_newQ (pc' := 165) (tg2 100 (by decide +kernel) (by decide +kernel)) dX11_init_162 rfl fun r19 => ?_
  refine v_put (v := (.ref r19)) (v' := rf g r19) (pc' := 168) fw_X11_93 rfl rfl rfl (fun _ => rfl) dX11_init_165 rfl ?_
  exact v_return rfl dX11_init_168
-- feed
def f_X11_feed (a0 : Nat) (x1 : Int32) (x2 : Int32) (x3 : Int32) (x4 : Int32) (x5 : Int32) : Mo Int32 := bd (gR 11 0 a0) fun r1 => bd (gI 8 1 r1) fun v2 => if ((v2 + (20 : Int32)) ≤ 600 : Prop) then (bd (gR 11 0 a0) fun r3 => bd (cv 8 r3 (f_X8_add r3 x1)) fun _ => bd (gR 11 0 a0) fun r4 => bd (cv 8 r4 (f_X8_add r4 x2)) fun _ => bd (gR 11 0 a0) fun r5 => bd (cv 8 r5 (f_X8_add r5 x3)) fun _ => bd (gR 11 0 a0) fun r6 => bd (cv 8 r6 (f_X8_add r6 x4)) fun _ => bd (gR 11 0 a0) fun r7 => bd (cv 8 r7 (f_X8_add r7 x5)) fun _ => bd (gR 11 0 a0) fun r8 => bd (gI 8 1 r8) fun v9 => pu v9) else pu (-1)
set_option maxRecDepth 20000 in
theorem h_X11_feed (g : GW) (a0 : Nat) (x1 : Int32) (x2 : Int32) (x3 : Int32) (x4 : Int32) (x5 : Int32) : V g mX11_feed 9 rtI 0 [(0, rf g a0), (1, .int x1), (2, .int x2), (3, .int x3), (4, .int x4), (5, .int x5)] [] (f_X11_feed a0 x1 x2 x3 x4 x5) := by
  unfold f_X11_feed
  refine v_aload_n (pc' := 1) 0 dX11_feed_0 rfl rfl rfl ?_
  refine v_getR (pc' := 4) fl_X11_10 dX11_feed_1 rfl fun r1 => ?_
  refine v_getI (pc' := 7) fl_X11_97 dX11_feed_4 rfl fun v2 => ?_
  refine v_bipush (v := 20) (pc' := 9) dX11_feed_7 rfl rfl ?_
  refine v_iadd (pc' := 10) dX11_feed_9 rfl ?_
  refine v_sipush (v := 600) (pc' := 13) dX11_feed_10 rfl rfl ?_
  refine v_icmple (t := 18) (pc' := 16) dX11_feed_13 (by decide) rfl ?_ ?_
  · refine v_aload_n (pc' := 19) 0 dX11_feed_18 rfl rfl rfl ?_
    refine v_getR (pc' := 22) fl_X11_10 dX11_feed_19 rfl fun r3 => ?_
    refine v_iload_n (pc' := 23) 1 dX11_feed_22 rfl rfl rfl ?_
    refine v_callV (vs := [.int x1]) (pc' := 26) (h_X8_add g r3 x1) mv_X8_add wl_X11_101 rfl (Nat.le_of_ble_eq_true rfl) (by omega) (by decide) (Nat.le_of_ble_eq_true rfl) rfl dX11_feed_23 rfl fun _ => ?_
    refine v_aload_n (pc' := 27) 0 dX11_feed_26 rfl rfl rfl ?_
    refine v_getR (pc' := 30) fl_X11_10 dX11_feed_27 rfl fun r4 => ?_
    refine v_iload_n (pc' := 31) 2 dX11_feed_30 rfl rfl rfl ?_
    refine v_callV (vs := [.int x2]) (pc' := 34) (h_X8_add g r4 x2) mv_X8_add wl_X11_101 rfl (Nat.le_of_ble_eq_true rfl) (by omega) (by decide) (Nat.le_of_ble_eq_true rfl) rfl dX11_feed_31 rfl fun _ => ?_
    refine v_aload_n (pc' := 35) 0 dX11_feed_34 rfl rfl rfl ?_
    refine v_getR (pc' := 38) fl_X11_10 dX11_feed_35 rfl fun r5 => ?_
    refine v_iload_n (pc' := 39) 3 dX11_feed_38 rfl rfl rfl ?_
    refine v_callV (vs := [.int x3]) (pc' := 42) (h_X8_add g r5 x3) mv_X8_add wl_X11_101 rfl (Nat.le_of_ble_eq_true rfl) (by omega) (by decide) (Nat.le_of_ble_eq_true rfl) rfl dX11_feed_39 rfl fun _ => ?_
    refine v_aload_n (pc' := 43) 0 dX11_feed_42 rfl rfl rfl ?_
    refine v_getR (pc' := 46) fl_X11_10 dX11_feed_43 rfl fun r6 => ?_
    refine v_iload (pc' := 48) 4 dX11_feed_46 rfl rfl ?_
    refine v_callV (vs := [.int x4]) (pc' := 51) (h_X8_add g r6 x4) mv_X8_add wl_X11_101 rfl (Nat.le_of_ble_eq_true rfl) (by omega) (by decide) (Nat.le_of_ble_eq_true rfl) rfl dX11_feed_48 rfl fun _ => ?_
    refine v_aload_n (pc' := 52) 0 dX11_feed_51 rfl rfl rfl ?_
    refine v_getR (pc' := 55) fl_X11_10 dX11_feed_52 rfl fun r7 => ?_
    refine v_iload (pc' := 57) 5 dX11_feed_55 rfl rfl ?_
    refine v_callV (vs := [.int x5]) (pc' := 60) (h_X8_add g r7 x5) mv_X8_add wl_X11_101 rfl (Nat.le_of_ble_eq_true rfl) (by omega) (by decide) (Nat.le_of_ble_eq_true rfl) rfl dX11_feed_57 rfl fun _ => ?_
    refine v_aload_n (pc' := 61) 0 dX11_feed_60 rfl rfl rfl ?_
    refine v_getR (pc' := 64) fl_X11_10 dX11_feed_61 rfl fun r8 => ?_
    refine v_getI (pc' := 67) fl_X11_97 dX11_feed_64 rfl fun v9 => ?_
    exact v_ireturn rfl dX11_feed_67
  · refine v_iconst (v := -1) (pc' := 17) dX11_feed_16 rfl rfl ?_
    exact v_ireturn rfl dX11_feed_17
-- needArgument
def f_X11_needArgument (a0 : Nat) (x1 : Int32) : Mo Unit := if (x1 = 0 : Prop) then (bd (gI 11 17 a0) fun v1 => bd (pf 11 17 a0 (.int (v1 + (1 : Int32)))) fun _ => th 14) else pu ()
set_option maxRecDepth 20000 in
theorem h_X11_needArgument (g : GW) (a0 : Nat) (x1 : Int32) : V g mX11_needArgument 8 rtU 0 [(0, rf g a0), (1, .int x1)] [] (f_X11_needArgument a0 x1) := by
  unfold f_X11_needArgument
  refine v_iload_n (pc' := 1) 1 dX11_needArgument_0 rfl rfl rfl ?_
  refine v_ifne (t := 25) (pc' := 4) dX11_needArgument_1 (by decide) rfl ?_ ?_
  · exact v_return rfl dX11_needArgument_25
  · refine v_aload_n (pc' := 5) 0 dX11_needArgument_4 rfl rfl rfl ?_
    refine v_dup (pc' := 6) dX11_needArgument_5 rfl rfl ?_
    refine v_getI (pc' := 9) fl_X11_390 dX11_needArgument_6 rfl fun v1 => ?_
    refine v_iconst (v := 1) (pc' := 10) dX11_needArgument_9 rfl rfl ?_
    refine v_iadd (pc' := 11) dX11_needArgument_10 rfl ?_
    refine v_put (v := (.int (v1 + (1 : Int32)))) (v' := .int (v1 + (1 : Int32))) (pc' := 14) fw_X11_390 rfl rfl rfl (fun h => nomatch h) dX11_needArgument_11 rfl ?_
    exact v_throw14 rfl rfl (by omega) (Nat.le_of_ble_eq_true rfl) dX11_needArgument_14 dX11_needArgument_17 dX11_needArgument_18 dX11_needArgument_21 dX11_needArgument_24
-- openText
def f_X11_openText_b26 (a0 : Nat) (x1 : Int32) (xs0 : Int32) (as1 : Nat) : Mo Unit := bd (cv 11 as1 (f_X11_needArgument as1 xs0)) fun _ => bd (gR 11 0 a0) fun r1 => bd (cv 8 r1 (f_X8_open r1 x1)) fun _ => pu ()
def f_X11_openText_b25 (a0 : Nat) (x1 : Int32) (as0 : Nat) : Mo Unit := f_X11_openText_b26 a0 x1 0 as0
def f_X11_openText (a0 : Nat) (x1 : Int32) (x2 : Int32) : Mo Unit := if (x1 < 0 : Prop) then (f_X11_openText_b25 a0 x1 a0) else bd (gR 11 0 a0) fun r2 => bd (gI 8 1 r2) fun v3 => if (v3 < x1 : Prop) then (f_X11_openText_b25 a0 x1 a0) else if (x2 < x1 : Prop) then (f_X11_openText_b25 a0 x1 a0) else f_X11_openText_b26 a0 x1 1 a0
set_option maxRecDepth 20000 in
theorem h_X11_openText_b26 (g : GW) (a0 : Nat) (x1 : Int32) (xs0 : Int32) (as1 : Nat) : V g mX11_openText 9 rtU 26 [(0, rf g a0), (1, .int x1)] [.int xs0, rf g as1] (f_X11_openText_b26 a0 x1 xs0 as1) := by
  unfold f_X11_openText_b26
  refine v_callV (vs := [.int xs0]) (pc' := 29) (h_X11_needArgument g as1 xs0) mv_X11_needArgument wl_X11_281 rfl (Nat.le_of_ble_eq_true rfl) (by omega) (by decide) (Nat.le_of_ble_eq_true rfl) rfl dX11_openText_26 rfl fun _ => ?_
  refine v_aload_n (pc' := 30) 0 dX11_openText_29 rfl rfl rfl ?_
  refine v_getR (pc' := 33) fl_X11_10 dX11_openText_30 rfl fun r1 => ?_
  refine v_iload_n (pc' := 34) 1 dX11_openText_33 rfl rfl rfl ?_
  refine v_callV (vs := [.int x1]) (pc' := 37) (h_X8_open g r1 x1) mv_X8_open wl_X11_396 rfl (Nat.le_of_ble_eq_true rfl) (by omega) (by decide) (Nat.le_of_ble_eq_true rfl) rfl dX11_openText_34 rfl fun _ => ?_
  exact v_return rfl dX11_openText_37
set_option maxRecDepth 20000 in
theorem h_X11_openText_b25 (g : GW) (a0 : Nat) (x1 : Int32) (as0 : Nat) : V g mX11_openText 9 rtU 25 [(0, rf g a0), (1, .int x1)] [rf g as0] (f_X11_openText_b25 a0 x1 as0) := by
  unfold f_X11_openText_b25
  refine v_iconst (v := 0) (pc' := 26) dX11_openText_25 rfl rfl ?_
  refine V.sub [0, 1] rfl ?_
  exact h_X11_openText_b26 g a0 x1 0 as0
set_option maxRecDepth 20000 in
theorem h_X11_openText (g : GW) (a0 : Nat) (x1 : Int32) (x2 : Int32) : V g mX11_openText 9 rtU 0 [(0, rf g a0), (1, .int x1), (2, .int x2)] [] (f_X11_openText a0 x1 x2) := by
  unfold f_X11_openText
  refine v_aload_n (pc' := 1) 0 dX11_openText_0 rfl rfl rfl ?_
  refine v_iload_n (pc' := 2) 1 dX11_openText_1 rfl rfl rfl ?_
  refine v_iflt (t := 25) (pc' := 5) dX11_openText_2 (by decide) rfl ?_ ?_
  · refine V.sub [0, 1] rfl ?_
    exact h_X11_openText_b25 g a0 x1 a0
  · refine v_iload_n (pc' := 6) 1 dX11_openText_5 rfl rfl rfl ?_
    refine v_aload_n (pc' := 7) 0 dX11_openText_6 rfl rfl rfl ?_
    refine v_getR (pc' := 10) fl_X11_10 dX11_openText_7 rfl fun r2 => ?_
    refine v_getI (pc' := 13) fl_X11_97 dX11_openText_10 rfl fun v3 => ?_
    refine v_icmpgt (t := 25) (pc' := 16) dX11_openText_13 (by decide) rfl ?_ ?_
    · refine V.sub [0, 1] rfl ?_
      exact h_X11_openText_b25 g a0 x1 a0
    · refine v_iload_n (pc' := 17) 1 dX11_openText_16 rfl rfl rfl ?_
      refine v_iload_n (pc' := 18) 2 dX11_openText_17 rfl rfl rfl ?_
      refine v_icmpgt (t := 25) (pc' := 21) dX11_openText_18 (by decide) rfl ?_ ?_
      · refine V.sub [0, 1] rfl ?_
        exact h_X11_openText_b25 g a0 x1 a0
      · refine v_iconst (v := 1) (pc' := 22) dX11_openText_21 rfl rfl ?_
        refine v_goto (t := 26) dX11_openText_22 (by decide) ?_
        refine V.sub [0, 1] rfl ?_
        exact h_X11_openText_b26 g a0 x1 1 a0
-- town
def f_X11_town (a0 : Nat) (x1 : Int32) : Mo Int32 := bd (cv 11 a0 (f_X11_openText a0 x1 600)) fun _ => bd (gR 11 2 a0) fun r1 => bd (gR 11 0 a0) fun r2 => bd (cv 2 r1 (f_X2_read r1 r2)) fun v3 => if (v3 = 0 : Prop) then (bd (gR 11 0 a0) fun r11 => bd (cv 8 r11 (f_X8_faultAnswer r11)) fun v12 => pu v12) else bd (gR 11 1 a0) fun r4 => bd (gR 11 2 a0) fun r5 => bd (cv 2 r4 (f_X2_copyFrom r4 r5)) fun _ => bd (gR 11 3 a0) fun r6 => bd (cv 4 r6 (f_X4_setUsual r6)) fun _ => bd (gR 11 6 a0) fun r7 => bd (cv 1 r7 (f_X1_clear r7)) fun _ => bd (gR 11 11 a0) fun r8 => bd (cv 5 r8 (f_X5_clear r8)) fun _ => bd (pf 11 13 a0 (oV none)) fun _ => bd (pf 11 14 a0 (.int 0)) fun _ => bd (pf 11 15 a0 (.int 0)) fun _ => bd (gR 11 1 a0) fun r9 => bd (gI 2 4 r9) fun v10 => pu v10
set_option maxRecDepth 20000 in
theorem h_X11_town (g : GW) (a0 : Nat) (x1 : Int32) : V g mX11_town 13 rtI 0 [(0, rf g a0), (1, .int x1)] [] (f_X11_town a0 x1) := by
  unfold f_X11_town
  refine v_aload_n (pc' := 1) 0 dX11_town_0 rfl rfl rfl ?_
  refine v_iload_n (pc' := 2) 1 dX11_town_1 rfl rfl rfl ?_
  refine v_sipush (v := 600) (pc' := 5) dX11_town_2 rfl rfl ?_
  refine v_callV (vs := [.int x1, .int 600]) (pc' := 8) (h_X11_openText g a0 x1 600) mv_X11_openText wl_X11_105 rfl (Nat.le_of_ble_eq_true rfl) (by omega) (by decide) (Nat.le_of_ble_eq_true rfl) rfl dX11_town_5 rfl fun _ => ?_
  refine v_aload_n (pc' := 9) 0 dX11_town_8 rfl rfl rfl ?_
  refine v_getR (pc' := 12) fl_X11_23 dX11_town_9 rfl fun r1 => ?_
  refine v_aload_n (pc' := 13) 0 dX11_town_12 rfl rfl rfl ?_
  refine v_getR (pc' := 16) fl_X11_10 dX11_town_13 rfl fun r2 => ?_
  refine v_callV (vs := [rf g r2]) (pc' := 19) (h_X2_read g r1 r2) mv_X2_read wl_X11_109 rfl (Nat.le_of_ble_eq_true rfl) (by omega) (by decide) (Nat.le_of_ble_eq_true rfl) rfl dX11_town_16 rfl fun v3 => ?_
  refine v_ifne (t := 30) (pc' := 22) dX11_town_19 (by decide) rfl ?_ ?_
  · refine v_aload_n (pc' := 31) 0 dX11_town_30 rfl rfl rfl ?_
    refine v_getR (pc' := 34) fl_X11_19 dX11_town_31 rfl fun r4 => ?_
    refine v_aload_n (pc' := 35) 0 dX11_town_34 rfl rfl rfl ?_
    refine v_getR (pc' := 38) fl_X11_23 dX11_town_35 rfl fun r5 => ?_
    refine v_callV (vs := [rf g r5]) (pc' := 41) (h_X2_copyFrom g r4 r5) mv_X2_copyFrom wl_X11_117 rfl (Nat.le_of_ble_eq_true rfl) (by omega) (by decide) (Nat.le_of_ble_eq_true rfl) rfl dX11_town_38 rfl fun _ => ?_
    refine v_aload_n (pc' := 42) 0 dX11_town_41 rfl rfl rfl ?_
    refine v_getR (pc' := 45) fl_X11_29 dX11_town_42 rfl fun r6 => ?_
    refine v_callV (vs := []) (pc' := 48) (h_X4_setUsual g r6) mv_X4_setUsual wl_X11_120 rfl (Nat.le_of_ble_eq_true rfl) (by omega) (by decide) (Nat.le_of_ble_eq_true rfl) rfl dX11_town_45 rfl fun _ => ?_
    refine v_aload_n (pc' := 49) 0 dX11_town_48 rfl rfl rfl ?_
    refine v_getR (pc' := 52) fl_X11_48 dX11_town_49 rfl fun r7 => ?_
    refine v_callV (vs := []) (pc' := 55) (h_X1_clear g r7) mv_X1_clear wl_X11_123 rfl (Nat.le_of_ble_eq_true rfl) (by omega) (by decide) (Nat.le_of_ble_eq_true rfl) rfl dX11_town_52 rfl fun _ => ?_
    refine v_aload_n (pc' := 56) 0 dX11_town_55 rfl rfl rfl ?_
    refine v_getR (pc' := 59) fl_X11_87 dX11_town_56 rfl fun r8 => ?_
    refine v_callV (vs := []) (pc' := 62) (h_X5_clear g r8) mv_X5_clear wl_X11_126 rfl (Nat.le_of_ble_eq_true rfl) (by omega) (by decide) (Nat.le_of_ble_eq_true rfl) rfl dX11_town_59 rfl fun _ => ?_
    refine v_aload_n (pc' := 63) 0 dX11_town_62 rfl rfl rfl ?_
    refine v_null (pc' := 64) dX11_town_63 rfl ?_
    refine v_put (v := (oV none)) (v' := rn g none) (pc' := 67) fw_X11_127 (rv_oV g none) rfl rfl (fun h => nomatch h) dX11_town_64 rfl ?_
    refine v_aload_n (pc' := 68) 0 dX11_town_67 rfl rfl rfl ?_
    refine v_iconst (v := 0) (pc' := 69) dX11_town_68 rfl rfl ?_
    refine v_put (v := (.int 0)) (v' := .int 0) (pc' := 72) fw_X11_131 rfl rfl rfl (fun h => nomatch h) dX11_town_69 rfl ?_
    refine v_aload_n (pc' := 73) 0 dX11_town_72 rfl rfl rfl ?_
    refine v_iconst (v := 0) (pc' := 74) dX11_town_73 rfl rfl ?_
    refine v_put (v := (.int 0)) (v' := .int 0) (pc' := 77) fw_X11_134 rfl rfl rfl (fun h => nomatch h) dX11_town_74 rfl ?_
    refine v_aload_n (pc' := 78) 0 dX11_town_77 rfl rfl rfl ?_
    refine v_getR (pc' := 81) fl_X11_19 dX11_town_78 rfl fun r9 => ?_
    refine v_getI (pc' := 84) fl_X11_137 dX11_town_81 rfl fun v10 => ?_
    exact v_ireturn rfl dX11_town_84
  · refine v_aload_n (pc' := 23) 0 dX11_town_22 rfl rfl rfl ?_
    refine v_getR (pc' := 26) fl_X11_10 dX11_town_23 rfl fun r11 => ?_
    refine v_callV (vs := []) (pc' := 29) (h_X8_faultAnswer g r11) mv_X8_faultAnswer wl_X11_113 rfl (Nat.le_of_ble_eq_true rfl) (by omega) (by decide) (Nat.le_of_ble_eq_true rfl) rfl dX11_town_26 rfl fun v12 => ?_
    exact v_ireturn rfl dX11_town_29
-- law
def f_X11_law (a0 : Nat) (x1 : Int32) : Mo Int32 := bd (cv 11 a0 (f_X11_openText a0 x1 150)) fun _ => bd (gR 11 4 a0) fun r1 => bd (gR 11 0 a0) fun r2 => bd (cv 4 r1 (f_X4_read r1 r2)) fun v3 => if (v3 = 0 : Prop) then (bd (gR 11 0 a0) fun r6 => bd (cv 8 r6 (f_X8_faultAnswer r6)) fun v7 => pu v7) else bd (gR 11 3 a0) fun r4 => bd (gR 11 4 a0) fun r5 => bd (cv 4 r4 (f_X4_copyFrom r4 r5)) fun _ => pu 1
set_option maxRecDepth 20000 in
theorem h_X11_law (g : GW) (a0 : Nat) (x1 : Int32) : V g mX11_law 60 rtI 0 [(0, rf g a0), (1, .int x1)] [] (f_X11_law a0 x1) := by
  unfold f_X11_law
  refine v_aload_n (pc' := 1) 0 dX11_law_0 rfl rfl rfl ?_
  refine v_iload_n (pc' := 2) 1 dX11_law_1 rfl rfl rfl ?_
  refine v_sipush (v := 150) (pc' := 5) dX11_law_2 rfl rfl ?_
  refine v_callV (vs := [.int x1, .int 150]) (pc' := 8) (h_X11_openText g a0 x1 150) mv_X11_openText wl_X11_105 rfl (Nat.le_of_ble_eq_true rfl) (by omega) (by decide) (Nat.le_of_ble_eq_true rfl) rfl dX11_law_5 rfl fun _ => ?_
  refine v_aload_n (pc' := 9) 0 dX11_law_8 rfl rfl rfl ?_
  refine v_getR (pc' := 12) fl_X11_33 dX11_law_9 rfl fun r1 => ?_
  refine v_aload_n (pc' := 13) 0 dX11_law_12 rfl rfl rfl ?_
  refine v_getR (pc' := 16) fl_X11_10 dX11_law_13 rfl fun r2 => ?_
  refine v_callV (vs := [rf g r2]) (pc' := 19) (h_X4_read g r1 r2) mv_X4_read wl_X11_140 rfl (Nat.le_of_ble_eq_true rfl) (by omega) (by decide) (Nat.le_of_ble_eq_true rfl) rfl dX11_law_16 rfl fun v3 => ?_
  refine v_ifne (t := 30) (pc' := 22) dX11_law_19 (by decide) rfl ?_ ?_
  · refine v_aload_n (pc' := 31) 0 dX11_law_30 rfl rfl rfl ?_
    refine v_getR (pc' := 34) fl_X11_29 dX11_law_31 rfl fun r4 => ?_
    refine v_aload_n (pc' := 35) 0 dX11_law_34 rfl rfl rfl ?_
    refine v_getR (pc' := 38) fl_X11_33 dX11_law_35 rfl fun r5 => ?_
    refine v_callV (vs := [rf g r5]) (pc' := 41) (h_X4_copyFrom g r4 r5) mv_X4_copyFrom wl_X11_141 rfl (Nat.le_of_ble_eq_true rfl) (by omega) (by decide) (Nat.le_of_ble_eq_true rfl) rfl dX11_law_38 rfl fun _ => ?_
    refine v_iconst (v := 1) (pc' := 42) dX11_law_41 rfl rfl ?_
    exact v_ireturn rfl dX11_law_42
  · refine v_aload_n (pc' := 23) 0 dX11_law_22 rfl rfl rfl ?_
    refine v_getR (pc' := 26) fl_X11_10 dX11_law_23 rfl fun r6 => ?_
    refine v_callV (vs := []) (pc' := 29) (h_X8_faultAnswer g r6) mv_X8_faultAnswer wl_X11_113 rfl (Nat.le_of_ble_eq_true rfl) (by omega) (by decide) (Nat.le_of_ble_eq_true rfl) rfl dX11_law_26 rfl fun v7 => ?_
    exact v_ireturn rfl dX11_law_29
-- worksToUndo
def f_X11_worksToUndo (a0 : Nat) : Mo Int32 := bd (gN 11 13 a0) fun q1 => mt q1 (fun r2 => bd (gN 11 13 a0) fun q3 => bd (oR q3) fun r4 => bd (gI 3 2 r4) fun v5 => pu v5) (pu 0)
set_option maxRecDepth 20000 in
theorem h_X11_worksToUndo (g : GW) (a0 : Nat) : V g mX11_worksToUndo 8 rtI 0 [(0, rf g a0)] [] (f_X11_worksToUndo a0) := by
  unfold f_X11_worksToUndo
  refine v_aload_n (pc' := 1) 0 dX11_worksToUndo_0 rfl rfl rfl ?_
  refine v_getN (pc' := 4) fl_X11_127 dX11_worksToUndo_1 rfl fun q1 => ?_
  refine v_ifnn (t := 11) (pc' := 7) dX11_worksToUndo_4 (by decide) rfl (fun r2 hh => ?_) (fun hh => ?_)
  · subst hh
    refine v_aload_n (pc' := 12) 0 dX11_worksToUndo_11 rfl rfl rfl ?_
    refine v_getN (pc' := 15) fl_X11_127 dX11_worksToUndo_12 rfl fun q3 => ?_
    refine v_asR fun r4 hh => ?_
    subst hh
    refine v_getI (pc' := 18) fl_X11_393 dX11_worksToUndo_15 rfl fun v5 => ?_
    exact v_ireturn rfl dX11_worksToUndo_18
  · subst hh
    refine v_iconst (v := 0) (pc' := 8) dX11_worksToUndo_7 rfl rfl ?_
    refine v_goto (t := 18) dX11_worksToUndo_8 (by decide) ?_
    exact v_ireturn rfl dX11_worksToUndo_18
-- work
def f_X11_work (a0 : Nat) (x1 : Int32) : Mo Int32 := bd (cv 11 a0 (f_X11_openText a0 x1 150)) fun _ => bd (cv 11 a0 (f_X11_worksToUndo a0)) fun v1 => if (v1 < 16 : Prop) then (bd (gR 11 5 a0) fun r2 => bd (gR 11 0 a0) fun r3 => bd (gR 11 1 a0) fun r4 => bd (gI 2 4 r4) fun v5 => bd (cv 9 r2 (f_X9_read r2 r3 v5)) fun v6 => if (v6 = 0 : Prop) then (bd (gR 11 0 a0) fun r17 => bd (cv 8 r17 (f_X8_faultAnswer r17)) fun v18 => pu v18) else bd (nO 3 3 [.null, .null, .int 0]) fun r7 => bd (gR 11 11 a0) fun r8 => bd (gN 11 13 a0) fun q9 => bd (ni (f_X3_init r7 r8 q9)) fun _ => bd (pf 11 13 a0 (oV (some r7))) fun _ => bd (gR 11 5 a0) fun r10 => bd (gR 11 7 a0) fun r11 => bd (gR 11 11 a0) fun r12 => bd (cv 9 r10 (f_X9_perform r10 r11 r12)) fun _ => bd (gR 11 5 a0) fun r13 => bd (gI 9 7 r13) fun v14 => bd (pf 11 15 a0 (.int v14)) fun _ => bd (gR 11 5 a0) fun r15 => bd (gI 9 6 r15) fun v16 => pu v16) else pu (-20)
set_option maxRecDepth 20000 in
theorem h_X11_work (g : GW) (a0 : Nat) (x1 : Int32) : V g mX11_work 48 rtI 0 [(0, rf g a0), (1, .int x1)] [] (f_X11_work a0 x1) := by
  unfold f_X11_work
  refine v_aload_n (pc' := 1) 0 dX11_work_0 rfl rfl rfl ?_
  refine v_iload_n (pc' := 2) 1 dX11_work_1 rfl rfl rfl ?_
  refine v_sipush (v := 150) (pc' := 5) dX11_work_2 rfl rfl ?_
  refine v_callV (vs := [.int x1, .int 150]) (pc' := 8) (h_X11_openText g a0 x1 150) mv_X11_openText wl_X11_105 rfl (Nat.le_of_ble_eq_true rfl) (by omega) (by decide) (Nat.le_of_ble_eq_true rfl) rfl dX11_work_5 rfl fun _ => ?_
  refine v_aload_n (pc' := 9) 0 dX11_work_8 rfl rfl rfl ?_
  refine v_callV (vs := []) (pc' := 12) (h_X11_worksToUndo g a0) mv_X11_worksToUndo wl_X11_144 rfl (Nat.le_of_ble_eq_true rfl) (by omega) (by decide) (Nat.le_of_ble_eq_true rfl) rfl dX11_work_9 rfl fun v1 => ?_
  refine v_bipush (v := 16) (pc' := 14) dX11_work_12 rfl rfl ?_
  refine v_icmplt (t := 20) (pc' := 17) dX11_work_14 (by decide) rfl ?_ ?_
  · refine v_aload_n (pc' := 21) 0 dX11_work_20 rfl rfl rfl ?_
    refine v_getR (pc' := 24) fl_X11_39 dX11_work_21 rfl fun r2 => ?_
    refine v_aload_n (pc' := 25) 0 dX11_work_24 rfl rfl rfl ?_
    refine v_getR (pc' := 28) fl_X11_10 dX11_work_25 rfl fun r3 => ?_
    refine v_aload_n (pc' := 29) 0 dX11_work_28 rfl rfl rfl ?_
    refine v_getR (pc' := 32) fl_X11_19 dX11_work_29 rfl fun r4 => ?_
    refine v_getI (pc' := 35) fl_X11_137 dX11_work_32 rfl fun v5 => ?_
    refine v_callV (vs := [rf g r3, .int v5]) (pc' := 38) (h_X9_read g r2 r3 v5) mv_X9_read wl_X11_147 rfl (Nat.le_of_ble_eq_true rfl) (by omega) (by decide) (Nat.le_of_ble_eq_true rfl) rfl dX11_work_35 rfl fun v6 => ?_
    refine v_ifne (t := 49) (pc' := 41) dX11_work_38 (by decide) rfl ?_ ?_
    · refine v_aload_n (pc' := 50) 0 dX11_work_49 rfl rfl rfl ?_
      refine v_newO (pc' := 53) nw_X11_91 dX11_work_50 rfl fun r7 => ?_
      refine v_dup (pc' := 54) dX11_work_53 rfl rfl ?_
      refine v_aload_n (pc' := 55) 0 dX11_work_54 rfl rfl rfl ?_
      refine v_getR (pc' := 58) fl_X11_87 dX11_work_55 rfl fun r8 => ?_
      refine v_aload_n (pc' := 59) 0 dX11_work_58 rfl rfl rfl ?_
      refine v_getN (pc' := 62) fl_X11_127 dX11_work_59 rfl fun q9 => ?_
      refine v_callI (vs := [rf g r8, rn g q9]) (pc' := 65) (h_X3_init g r7 r8 q9) mn_X3_init wl_X11_150 (by cases q9 <;> exact Nat.le_of_ble_eq_true rfl) (by omega) (by decide) (Nat.le_of_ble_eq_true rfl) dX11_work_62 rfl ?_
      refine v_put (v := (oV (some r7))) (v' := rn g (some r7)) (pc' := 68) fw_X11_127 (rv_oV g (some r7)) rfl rfl (fun h => nomatch h) dX11_work_65 rfl ?_
      refine v_aload_n (pc' := 69) 0 dX11_work_68 rfl rfl rfl ?_
      refine v_getR (pc' := 72) fl_X11_39 dX11_work_69 rfl fun r10 => ?_
      refine v_aload_n (pc' := 73) 0 dX11_work_72 rfl rfl rfl ?_
      refine v_getR (pc' := 76) fl_X11_57 dX11_work_73 rfl fun r11 => ?_
      refine v_aload_n (pc' := 77) 0 dX11_work_76 rfl rfl rfl ?_
      refine v_getR (pc' := 80) fl_X11_87 dX11_work_77 rfl fun r12 => ?_
      refine v_callV (vs := [rf g r11, rf g r12]) (pc' := 83) (h_X9_perform g r10 r11 r12) mv_X9_perform wl_X11_153 rfl (Nat.le_of_ble_eq_true rfl) (by omega) (by decide) (Nat.le_of_ble_eq_true rfl) rfl dX11_work_80 rfl fun _ => ?_
      refine v_aload_n (pc' := 84) 0 dX11_work_83 rfl rfl rfl ?_
      refine v_aload_n (pc' := 85) 0 dX11_work_84 rfl rfl rfl ?_
      refine v_getR (pc' := 88) fl_X11_39 dX11_work_85 rfl fun r13 => ?_
      refine v_getI (pc' := 91) fl_X11_157 dX11_work_88 rfl fun v14 => ?_
      refine v_put (v := (.int v14)) (v' := .int v14) (pc' := 94) fw_X11_134 rfl rfl rfl (fun h => nomatch h) dX11_work_91 rfl ?_
      refine v_aload_n (pc' := 95) 0 dX11_work_94 rfl rfl rfl ?_
      refine v_getR (pc' := 98) fl_X11_39 dX11_work_95 rfl fun r15 => ?_
      refine v_getI (pc' := 101) fl_X11_160 dX11_work_98 rfl fun v16 => ?_
      exact v_ireturn rfl dX11_work_101
    · refine v_aload_n (pc' := 42) 0 dX11_work_41 rfl rfl rfl ?_
      refine v_getR (pc' := 45) fl_X11_10 dX11_work_42 rfl fun r17 => ?_
      refine v_callV (vs := []) (pc' := 48) (h_X8_faultAnswer g r17) mv_X8_faultAnswer wl_X11_113 rfl (Nat.le_of_ble_eq_true rfl) (by omega) (by decide) (Nat.le_of_ble_eq_true rfl) rfl dX11_work_45 rfl fun v18 => ?_
      exact v_ireturn rfl dX11_work_48
  · refine v_bipush (v := -20) (pc' := 19) dX11_work_17 rfl rfl ?_
    exact v_ireturn rfl dX11_work_19
-- words
def f_X11_words (a0 : Nat) (x1 : Int32) : Mo Int32 := bd (cv 11 a0 (f_X11_openText a0 x1 60)) fun _ => bd (gR 11 6 a0) fun r1 => bd (gR 11 0 a0) fun r2 => bd (cv 1 r1 (f_X1_read r1 r2)) fun v3 => if (v3 = 0 : Prop) then (bd (gR 11 0 a0) fun r6 => bd (cv 8 r6 (f_X8_faultAnswer r6)) fun v7 => pu v7) else bd (gR 11 6 a0) fun r4 => bd (gI 1 4 r4) fun v5 => pu v5
set_option maxRecDepth 20000 in
theorem h_X11_words (g : GW) (a0 : Nat) (x1 : Int32) : V g mX11_words 12 rtI 0 [(0, rf g a0), (1, .int x1)] [] (f_X11_words a0 x1) := by
  unfold f_X11_words
  refine v_aload_n (pc' := 1) 0 dX11_words_0 rfl rfl rfl ?_
  refine v_iload_n (pc' := 2) 1 dX11_words_1 rfl rfl rfl ?_
  refine v_bipush (v := 60) (pc' := 4) dX11_words_2 rfl rfl ?_
  refine v_callV (vs := [.int x1, .int 60]) (pc' := 7) (h_X11_openText g a0 x1 60) mv_X11_openText wl_X11_105 rfl (Nat.le_of_ble_eq_true rfl) (by omega) (by decide) (Nat.le_of_ble_eq_true rfl) rfl dX11_words_4 rfl fun _ => ?_
  refine v_aload_n (pc' := 8) 0 dX11_words_7 rfl rfl rfl ?_
  refine v_getR (pc' := 11) fl_X11_48 dX11_words_8 rfl fun r1 => ?_
  refine v_aload_n (pc' := 12) 0 dX11_words_11 rfl rfl rfl ?_
  refine v_getR (pc' := 15) fl_X11_10 dX11_words_12 rfl fun r2 => ?_
  refine v_callV (vs := [rf g r2]) (pc' := 18) (h_X1_read g r1 r2) mv_X1_read wl_X11_163 rfl (Nat.le_of_ble_eq_true rfl) (by omega) (by decide) (Nat.le_of_ble_eq_true rfl) rfl dX11_words_15 rfl fun v3 => ?_
  refine v_ifne (t := 29) (pc' := 21) dX11_words_18 (by decide) rfl ?_ ?_
  · refine v_aload_n (pc' := 30) 0 dX11_words_29 rfl rfl rfl ?_
    refine v_getR (pc' := 33) fl_X11_48 dX11_words_30 rfl fun r4 => ?_
    refine v_getI (pc' := 36) fl_X11_164 dX11_words_33 rfl fun v5 => ?_
    exact v_ireturn rfl dX11_words_36
  · refine v_aload_n (pc' := 22) 0 dX11_words_21 rfl rfl rfl ?_
    refine v_getR (pc' := 25) fl_X11_10 dX11_words_22 rfl fun r6 => ?_
    refine v_callV (vs := []) (pc' := 28) (h_X8_faultAnswer g r6) mv_X8_faultAnswer wl_X11_113 rfl (Nat.le_of_ble_eq_true rfl) (by omega) (by decide) (Nat.le_of_ble_eq_true rfl) rfl dX11_words_25 rfl fun v7 => ?_
    exact v_ireturn rfl dX11_words_28
-- fault
def f_X11_fault (a0 : Nat) : Mo Int32 := bd (gR 11 0 a0) fun r1 => bd (gI 8 6 r1) fun v2 => pu v2
set_option maxRecDepth 20000 in
theorem h_X11_fault (g : GW) (a0 : Nat) : V g mX11_fault 8 rtI 0 [(0, rf g a0)] [] (f_X11_fault a0) := by
  unfold f_X11_fault
  refine v_aload_n (pc' := 1) 0 dX11_fault_0 rfl rfl rfl ?_
  refine v_getR (pc' := 4) fl_X11_10 dX11_fault_1 rfl fun r1 => ?_
  refine v_getI (pc' := 7) fl_X11_167 dX11_fault_4 rfl fun v2 => ?_
  exact v_ireturn rfl dX11_fault_7
-- undo
def f_X11_undo (a0 : Nat) : Mo Int32 := bd (gN 11 13 a0) fun q1 => mt q1 (fun r2 => bd (gR 11 11 a0) fun r3 => bd (gN 11 13 a0) fun q4 => bd (oR q4) fun r5 => bd (gR 3 0 r5) fun r6 => bd (cv 5 r3 (f_X5_copyFrom r3 r6)) fun _ => bd (gN 11 13 a0) fun q7 => bd (oR q7) fun r8 => bd (gN 3 1 r8) fun q9 => bd (pf 11 13 a0 (oV q9)) fun _ => bd (pf 11 15 a0 (.int 0)) fun _ => bd (cv 11 a0 (f_X11_worksToUndo a0)) fun v10 => pu v10) (pu (-1))
set_option maxRecDepth 20000 in
theorem h_X11_undo (g : GW) (a0 : Nat) : V g mX11_undo 9 rtI 0 [(0, rf g a0)] [] (f_X11_undo a0) := by
  unfold f_X11_undo
  refine v_aload_n (pc' := 1) 0 dX11_undo_0 rfl rfl rfl ?_
  refine v_getN (pc' := 4) fl_X11_127 dX11_undo_1 rfl fun q1 => ?_
  refine v_ifnn (t := 9) (pc' := 7) dX11_undo_4 (by decide) rfl (fun r2 hh => ?_) (fun hh => ?_)
  · subst hh
    refine v_aload_n (pc' := 10) 0 dX11_undo_9 rfl rfl rfl ?_
    refine v_getR (pc' := 13) fl_X11_87 dX11_undo_10 rfl fun r3 => ?_
    refine v_aload_n (pc' := 14) 0 dX11_undo_13 rfl rfl rfl ?_
    refine v_getN (pc' := 17) fl_X11_127 dX11_undo_14 rfl fun q4 => ?_
    refine v_asR fun r5 hh => ?_
    subst hh
    refine v_getR (pc' := 20) fl_X11_170 dX11_undo_17 rfl fun r6 => ?_
    refine v_callV (vs := [rf g r6]) (pc' := 23) (h_X5_copyFrom g r3 r6) mv_X5_copyFrom wl_X11_173 rfl (Nat.le_of_ble_eq_true rfl) (by omega) (by decide) (Nat.le_of_ble_eq_true rfl) rfl dX11_undo_20 rfl fun _ => ?_
    refine v_aload_n (pc' := 24) 0 dX11_undo_23 rfl rfl rfl ?_
    refine v_aload_n (pc' := 25) 0 dX11_undo_24 rfl rfl rfl ?_
    refine v_getN (pc' := 28) fl_X11_127 dX11_undo_25 rfl fun q7 => ?_
    refine v_asR fun r8 hh => ?_
    subst hh
    refine v_getN (pc' := 31) fl_X11_176 dX11_undo_28 rfl fun q9 => ?_
    refine v_put (v := (oV q9)) (v' := rn g q9) (pc' := 34) fw_X11_127 (rv_oV g q9) (by cases q9 <;> rfl) (by cases q9 <;> rfl) (fun h => nomatch h) dX11_undo_31 rfl ?_
    refine v_aload_n (pc' := 35) 0 dX11_undo_34 rfl rfl rfl ?_
    refine v_iconst (v := 0) (pc' := 36) dX11_undo_35 rfl rfl ?_
    refine v_put (v := (.int 0)) (v' := .int 0) (pc' := 39) fw_X11_134 rfl rfl rfl (fun h => nomatch h) dX11_undo_36 rfl ?_
    refine v_aload_n (pc' := 40) 0 dX11_undo_39 rfl rfl rfl ?_
    refine v_callV (vs := []) (pc' := 43) (h_X11_worksToUndo g a0) mv_X11_worksToUndo wl_X11_144 rfl (Nat.le_of_ble_eq_true rfl) (by omega) (by decide) (Nat.le_of_ble_eq_true rfl) rfl dX11_undo_40 rfl fun v10 => ?_
    exact v_ireturn rfl dX11_undo_43
  · subst hh
    refine v_iconst (v := -1) (pc' := 8) dX11_undo_7 rfl rfl ?_
    exact v_ireturn rfl dX11_undo_8
-- needRange
def f_X11_needRange_b15 (xs0 : Int32) (as1 : Nat) : Mo Unit := bd (cv 11 as1 (f_X11_needArgument as1 xs0)) fun _ => pu ()
def f_X11_needRange_b14 (as0 : Nat) : Mo Unit := f_X11_needRange_b15 0 as0
def f_X11_needRange (a0 : Nat) (x1 : Int32) (x2 : Int32) : Mo Unit := if (x1 < 0 : Prop) then (f_X11_needRange_b14 a0) else if (x2 < x1 : Prop) then (f_X11_needRange_b14 a0) else f_X11_needRange_b15 1 a0
set_option maxRecDepth 20000 in
theorem h_X11_needRange_b15 (g : GW) (xs0 : Int32) (as1 : Nat) : V g mX11_needRange 9 rtU 15 [] [.int xs0, rf g as1] (f_X11_needRange_b15 xs0 as1) := by
  unfold f_X11_needRange_b15
  refine v_callV (vs := [.int xs0]) (pc' := 18) (h_X11_needArgument g as1 xs0) mv_X11_needArgument wl_X11_281 rfl (Nat.le_of_ble_eq_true rfl) (by omega) (by decide) (Nat.le_of_ble_eq_true rfl) rfl dX11_needRange_15 rfl fun _ => ?_
  exact v_return rfl dX11_needRange_18
set_option maxRecDepth 20000 in
theorem h_X11_needRange_b14 (g : GW) (as0 : Nat) : V g mX11_needRange 9 rtU 14 [] [rf g as0] (f_X11_needRange_b14 as0) := by
  unfold f_X11_needRange_b14
  refine v_iconst (v := 0) (pc' := 15) dX11_needRange_14 rfl rfl ?_
  refine V.sub [] rfl ?_
  exact h_X11_needRange_b15 g 0 as0
set_option maxRecDepth 20000 in
theorem h_X11_needRange (g : GW) (a0 : Nat) (x1 : Int32) (x2 : Int32) : V g mX11_needRange 9 rtU 0 [(0, rf g a0), (1, .int x1), (2, .int x2)] [] (f_X11_needRange a0 x1 x2) := by
  unfold f_X11_needRange
  refine v_aload_n (pc' := 1) 0 dX11_needRange_0 rfl rfl rfl ?_
  refine v_iload_n (pc' := 2) 1 dX11_needRange_1 rfl rfl rfl ?_
  refine v_iflt (t := 14) (pc' := 5) dX11_needRange_2 (by decide) rfl ?_ ?_
  · refine V.sub [] rfl ?_
    exact h_X11_needRange_b14 g a0
  · refine v_iload_n (pc' := 6) 1 dX11_needRange_5 rfl rfl rfl ?_
    refine v_iload_n (pc' := 7) 2 dX11_needRange_6 rfl rfl rfl ?_
    refine v_icmpgt (t := 14) (pc' := 10) dX11_needRange_7 (by decide) rfl ?_ ?_
    · refine V.sub [] rfl ?_
      exact h_X11_needRange_b14 g a0
    · refine v_iconst (v := 1) (pc' := 11) dX11_needRange_10 rfl rfl ?_
      refine v_goto (t := 15) dX11_needRange_11 (by decide) ?_
      refine V.sub [] rfl ?_
      exact h_X11_needRange_b15 g 1 a0
-- told
def f_X11_told (a0 : Nat) (x1 : Int32) : Mo Int32 := bd (cv 11 a0 (f_X11_needRange a0 x1 8)) fun _ => sw x1 0 [(bd (gR 11 1 a0) fun r1 => bd (gI 2 4 r1) fun v2 => pu v2), (bd (gR 11 11 a0) fun r3 => bd (gI 5 4 r3) fun v4 => pu v4), (bd (gR 11 11 a0) fun r5 => bd (gI 5 5 r5) fun v6 => pu v6), (bd (gR 11 1 a0) fun r7 => bd (gI 2 5 r7) fun v8 => pu v8), (bd (gR 11 6 a0) fun r9 => bd (gI 1 4 r9) fun v10 => pu v10), (bd (gI 11 15 a0) fun v11 => pu v11), (bd (gR 11 11 a0) fun r12 => bd (cv 5 r12 (f_X5_everTaken r12)) fun v13 => pu v13), (bd (gR 11 11 a0) fun r14 => bd (cv 5 r14 (f_X5_everTaken r14)) fun v15 => bd (gR 11 11 a0) fun r16 => bd (gI 5 4 r16) fun v17 => pu (v15 - v17))] (bd (gR 11 1 a0) fun r18 => bd (cv 2 r18 (f_X2_shyPairs r18)) fun v19 => pu v19)
set_option maxRecDepth 20000 in
theorem h_X11_told (g : GW) (a0 : Nat) (x1 : Int32) : V g mX11_told 10 rtI 0 [(0, rf g a0), (1, .int x1)] [] (f_X11_told a0 x1) := by
  unfold f_X11_told
  refine v_aload_n (pc' := 1) 0 dX11_told_0 rfl rfl rfl ?_
  refine v_iload_n (pc' := 2) 1 dX11_told_1 rfl rfl rfl ?_
  refine v_bipush (v := 8) (pc' := 4) dX11_told_2 rfl rfl ?_
  refine v_callV (vs := [.int x1, .int 8]) (pc' := 7) (h_X11_needRange g a0 x1 8) mv_X11_needRange wl_X11_179 rfl (Nat.le_of_ble_eq_true rfl) (by omega) (by decide) (Nat.le_of_ble_eq_true rfl) rfl dX11_told_4 rfl fun _ => ?_
  refine v_iload_n (pc' := 8) 1 dX11_told_7 rfl rfl rfl ?_
  refine v_table (td := 125) dX11_told_8 rfl (by decide) ⟨⟨56, by decide, ?_⟩, ⟨64, by decide, ?_⟩, ⟨72, by decide, ?_⟩, ⟨80, by decide, ?_⟩, ⟨88, by decide, ?_⟩, ⟨96, by decide, ?_⟩, ⟨101, by decide, ?_⟩, ⟨109, by decide, ?_⟩, trivial⟩ ?_
  · refine v_aload_n (pc' := 57) 0 dX11_told_56 rfl rfl rfl ?_
    refine v_getR (pc' := 60) fl_X11_19 dX11_told_57 rfl fun r1 => ?_
    refine v_getI (pc' := 63) fl_X11_137 dX11_told_60 rfl fun v2 => ?_
    exact v_ireturn rfl dX11_told_63
  · refine v_aload_n (pc' := 65) 0 dX11_told_64 rfl rfl rfl ?_
    refine v_getR (pc' := 68) fl_X11_87 dX11_told_65 rfl fun r3 => ?_
    refine v_getI (pc' := 71) fl_X11_182 dX11_told_68 rfl fun v4 => ?_
    exact v_ireturn rfl dX11_told_71
  · refine v_aload_n (pc' := 73) 0 dX11_told_72 rfl rfl rfl ?_
    refine v_getR (pc' := 76) fl_X11_87 dX11_told_73 rfl fun r5 => ?_
    refine v_getI (pc' := 79) fl_X11_185 dX11_told_76 rfl fun v6 => ?_
    exact v_ireturn rfl dX11_told_79
  · refine v_aload_n (pc' := 81) 0 dX11_told_80 rfl rfl rfl ?_
    refine v_getR (pc' := 84) fl_X11_19 dX11_told_81 rfl fun r7 => ?_
    refine v_getI (pc' := 87) fl_X11_188 dX11_told_84 rfl fun v8 => ?_
    exact v_ireturn rfl dX11_told_87
  · refine v_aload_n (pc' := 89) 0 dX11_told_88 rfl rfl rfl ?_
    refine v_getR (pc' := 92) fl_X11_48 dX11_told_89 rfl fun r9 => ?_
    refine v_getI (pc' := 95) fl_X11_164 dX11_told_92 rfl fun v10 => ?_
    exact v_ireturn rfl dX11_told_95
  · refine v_aload_n (pc' := 97) 0 dX11_told_96 rfl rfl rfl ?_
    refine v_getI (pc' := 100) fl_X11_134 dX11_told_97 rfl fun v11 => ?_
    exact v_ireturn rfl dX11_told_100
  · refine v_aload_n (pc' := 102) 0 dX11_told_101 rfl rfl rfl ?_
    refine v_getR (pc' := 105) fl_X11_87 dX11_told_102 rfl fun r12 => ?_
    refine v_callV (vs := []) (pc' := 108) (h_X5_everTaken g r12) mv_X5_everTaken wl_X11_191 rfl (Nat.le_of_ble_eq_true rfl) (by omega) (by decide) (Nat.le_of_ble_eq_true rfl) rfl dX11_told_105 rfl fun v13 => ?_
    exact v_ireturn rfl dX11_told_108
  · refine v_aload_n (pc' := 110) 0 dX11_told_109 rfl rfl rfl ?_
    refine v_getR (pc' := 113) fl_X11_87 dX11_told_110 rfl fun r14 => ?_
    refine v_callV (vs := []) (pc' := 116) (h_X5_everTaken g r14) mv_X5_everTaken wl_X11_191 rfl (Nat.le_of_ble_eq_true rfl) (by omega) (by decide) (Nat.le_of_ble_eq_true rfl) rfl dX11_told_113 rfl fun v15 => ?_
    refine v_aload_n (pc' := 117) 0 dX11_told_116 rfl rfl rfl ?_
    refine v_getR (pc' := 120) fl_X11_87 dX11_told_117 rfl fun r16 => ?_
    refine v_getI (pc' := 123) fl_X11_182 dX11_told_120 rfl fun v17 => ?_
    refine v_isub (pc' := 124) dX11_told_123 rfl ?_
    exact v_ireturn rfl dX11_told_124
  · refine v_aload_n (pc' := 126) 0 dX11_told_125 rfl rfl rfl ?_
    refine v_getR (pc' := 129) fl_X11_19 dX11_told_126 rfl fun r18 => ?_
    refine v_callV (vs := []) (pc' := 132) (h_X2_shyPairs g r18) mv_X2_shyPairs wl_X11_194 rfl (Nat.le_of_ble_eq_true rfl) (by omega) (by decide) (Nat.le_of_ble_eq_true rfl) rfl dX11_told_129 rfl fun v19 => ?_
    exact v_ireturn rfl dX11_told_132
-- needElement
def f_X11_needElement (a0 : Nat) (x1 : Int32) : Mo Unit := if (x1 = 0 : Prop) then (bd (gI 11 16 a0) fun v1 => bd (pf 11 16 a0 (.int (v1 + (1 : Int32)))) fun _ => th 13) else pu ()
set_option maxRecDepth 20000 in
theorem h_X11_needElement (g : GW) (a0 : Nat) (x1 : Int32) : V g mX11_needElement 8 rtU 0 [(0, rf g a0), (1, .int x1)] [] (f_X11_needElement a0 x1) := by
  unfold f_X11_needElement
  refine v_iload_n (pc' := 1) 1 dX11_needElement_0 rfl rfl rfl ?_
  refine v_ifne (t := 25) (pc' := 4) dX11_needElement_1 (by decide) rfl ?_ ?_
  · exact v_return rfl dX11_needElement_25
  · refine v_aload_n (pc' := 5) 0 dX11_needElement_4 rfl rfl rfl ?_
    refine v_dup (pc' := 6) dX11_needElement_5 rfl rfl ?_
    refine v_getI (pc' := 9) fl_X11_387 dX11_needElement_6 rfl fun v1 => ?_
    refine v_iconst (v := 1) (pc' := 10) dX11_needElement_9 rfl rfl ?_
    refine v_iadd (pc' := 11) dX11_needElement_10 rfl ?_
    refine v_put (v := (.int (v1 + (1 : Int32)))) (v' := .int (v1 + (1 : Int32))) (pc' := 14) fw_X11_387 rfl rfl rfl (fun h => nomatch h) dX11_needElement_11 rfl ?_
    exact v_throw13 rfl rfl (by omega) (Nat.le_of_ble_eq_true rfl) dX11_needElement_14 dX11_needElement_17 dX11_needElement_18 dX11_needElement_21 dX11_needElement_24
-- needPerson
def f_X11_needPerson_b21 (xs0 : Int32) (as1 : Nat) : Mo Unit := bd (cv 11 as1 (f_X11_needElement as1 xs0)) fun _ => pu ()
def f_X11_needPerson_b20 (as0 : Nat) : Mo Unit := f_X11_needPerson_b21 0 as0
def f_X11_needPerson (a0 : Nat) (x1 : Int32) : Mo Unit := if (x1 < 0 : Prop) then (f_X11_needPerson_b20 a0) else bd (gR 11 1 a0) fun r1 => bd (gI 2 4 r1) fun v2 => if (v2 ≤ x1 : Prop) then (f_X11_needPerson_b20 a0) else f_X11_needPerson_b21 1 a0
set_option maxRecDepth 20000 in
theorem h_X11_needPerson_b21 (g : GW) (xs0 : Int32) (as1 : Nat) : V g mX11_needPerson 9 rtU 21 [] [.int xs0, rf g as1] (f_X11_needPerson_b21 xs0 as1) := by
  unfold f_X11_needPerson_b21
  refine v_callV (vs := [.int xs0]) (pc' := 24) (h_X11_needElement g as1 xs0) mv_X11_needElement wl_X11_222 rfl (Nat.le_of_ble_eq_true rfl) (by omega) (by decide) (Nat.le_of_ble_eq_true rfl) rfl dX11_needPerson_21 rfl fun _ => ?_
  exact v_return rfl dX11_needPerson_24
set_option maxRecDepth 20000 in
theorem h_X11_needPerson_b20 (g : GW) (as0 : Nat) : V g mX11_needPerson 9 rtU 20 [] [rf g as0] (f_X11_needPerson_b20 as0) := by
  unfold f_X11_needPerson_b20
  refine v_iconst (v := 0) (pc' := 21) dX11_needPerson_20 rfl rfl ?_
  refine V.sub [] rfl ?_
  exact h_X11_needPerson_b21 g 0 as0
set_option maxRecDepth 20000 in
theorem h_X11_needPerson (g : GW) (a0 : Nat) (x1 : Int32) : V g mX11_needPerson 9 rtU 0 [(0, rf g a0), (1, .int x1)] [] (f_X11_needPerson a0 x1) := by
  unfold f_X11_needPerson
  refine v_aload_n (pc' := 1) 0 dX11_needPerson_0 rfl rfl rfl ?_
  refine v_iload_n (pc' := 2) 1 dX11_needPerson_1 rfl rfl rfl ?_
  refine v_iflt (t := 20) (pc' := 5) dX11_needPerson_2 (by decide) rfl ?_ ?_
  · refine V.sub [] rfl ?_
    exact h_X11_needPerson_b20 g a0
  · refine v_iload_n (pc' := 6) 1 dX11_needPerson_5 rfl rfl rfl ?_
    refine v_aload_n (pc' := 7) 0 dX11_needPerson_6 rfl rfl rfl ?_
    refine v_getR (pc' := 10) fl_X11_19 dX11_needPerson_7 rfl fun r1 => ?_
    refine v_getI (pc' := 13) fl_X11_137 dX11_needPerson_10 rfl fun v2 => ?_
    refine v_icmpge (t := 20) (pc' := 16) dX11_needPerson_13 (by decide) rfl ?_ ?_
    · refine V.sub [] rfl ?_
      exact h_X11_needPerson_b20 g a0
    · refine v_iconst (v := 1) (pc' := 17) dX11_needPerson_16 rfl rfl ?_
      refine v_goto (t := 21) dX11_needPerson_17 (by decide) ?_
      refine V.sub [] rfl ?_
      exact h_X11_needPerson_b21 g 1 a0
-- person
def f_X11_person (a0 : Nat) (x1 : Int32) (x2 : Int32) : Mo Int32 := bd (cv 11 a0 (f_X11_needPerson a0 x1)) fun _ => bd (cv 11 a0 (f_X11_needRange a0 x2 6)) fun _ => sw x2 0 [(bd (gR 11 1 a0) fun r1 => bd (gR 2 0 r1) fun r2 => bd (al 0 r2 x1) fun v3 => pu v3), (bd (gR 11 1 a0) fun r4 => bd (gR 2 1 r4) fun r5 => bd (al 0 r5 x1) fun v6 => pu v6), (bd (gR 11 1 a0) fun r7 => bd (gR 2 2 r7) fun r8 => bd (al 0 r8 x1) fun v9 => pu v9), (bd (gR 11 11 a0) fun r10 => bd (gR 5 0 r10) fun r11 => bd (al 0 r11 x1) fun v12 => pu v12), (bd (gR 11 11 a0) fun r13 => bd (gR 5 1 r13) fun r14 => bd (al 0 r14 x1) fun v15 => pu v15), (bd (gR 11 11 a0) fun r16 => bd (gR 5 2 r16) fun r17 => bd (al 0 r17 x1) fun v18 => pu v18)] (bd (gR 11 1 a0) fun r19 => bd (gR 2 3 r19) fun r20 => bd (al 0 r20 x1) fun v21 => pu v21)
set_option maxRecDepth 20000 in
theorem h_X11_person (g : GW) (a0 : Nat) (x1 : Int32) (x2 : Int32) : V g mX11_person 10 rtI 0 [(0, rf g a0), (1, .int x1), (2, .int x2)] [] (f_X11_person a0 x1 x2) := by
  unfold f_X11_person
  refine v_aload_n (pc' := 1) 0 dX11_person_0 rfl rfl rfl ?_
  refine v_iload_n (pc' := 2) 1 dX11_person_1 rfl rfl rfl ?_
  refine v_callV (vs := [.int x1]) (pc' := 5) (h_X11_needPerson g a0 x1) mv_X11_needPerson wl_X11_197 rfl (Nat.le_of_ble_eq_true rfl) (by omega) (by decide) (Nat.le_of_ble_eq_true rfl) rfl dX11_person_2 rfl fun _ => ?_
  refine v_aload_n (pc' := 6) 0 dX11_person_5 rfl rfl rfl ?_
  refine v_iload_n (pc' := 7) 2 dX11_person_6 rfl rfl rfl ?_
  refine v_bipush (v := 6) (pc' := 9) dX11_person_7 rfl rfl ?_
  refine v_callV (vs := [.int x2, .int 6]) (pc' := 12) (h_X11_needRange g a0 x2 6) mv_X11_needRange wl_X11_179 rfl (Nat.le_of_ble_eq_true rfl) (by omega) (by decide) (Nat.le_of_ble_eq_true rfl) rfl dX11_person_9 rfl fun _ => ?_
  refine v_iload_n (pc' := 13) 2 dX11_person_12 rfl rfl rfl ?_
  refine v_table (td := 112) dX11_person_13 rfl (by decide) ⟨⟨52, by decide, ?_⟩, ⟨62, by decide, ?_⟩, ⟨72, by decide, ?_⟩, ⟨82, by decide, ?_⟩, ⟨92, by decide, ?_⟩, ⟨102, by decide, ?_⟩, trivial⟩ ?_
  · refine v_aload_n (pc' := 53) 0 dX11_person_52 rfl rfl rfl ?_
    refine v_getR (pc' := 56) fl_X11_19 dX11_person_53 rfl fun r1 => ?_
    refine v_getR (pc' := 59) fl_X11_200 dX11_person_56 rfl fun r2 => ?_
    refine v_iload_n (pc' := 60) 1 dX11_person_59 rfl rfl rfl ?_
    refine v_iald (pc' := 61) dX11_person_60 rfl fun v3 => ?_
    exact v_ireturn rfl dX11_person_61
  · refine v_aload_n (pc' := 63) 0 dX11_person_62 rfl rfl rfl ?_
    refine v_getR (pc' := 66) fl_X11_19 dX11_person_63 rfl fun r4 => ?_
    refine v_getR (pc' := 69) fl_X11_204 dX11_person_66 rfl fun r5 => ?_
    refine v_iload_n (pc' := 70) 1 dX11_person_69 rfl rfl rfl ?_
    refine v_iald (pc' := 71) dX11_person_70 rfl fun v6 => ?_
    exact v_ireturn rfl dX11_person_71
  · refine v_aload_n (pc' := 73) 0 dX11_person_72 rfl rfl rfl ?_
    refine v_getR (pc' := 76) fl_X11_19 dX11_person_73 rfl fun r7 => ?_
    refine v_getR (pc' := 79) fl_X11_207 dX11_person_76 rfl fun r8 => ?_
    refine v_iload_n (pc' := 80) 1 dX11_person_79 rfl rfl rfl ?_
    refine v_iald (pc' := 81) dX11_person_80 rfl fun v9 => ?_
    exact v_ireturn rfl dX11_person_81
  · refine v_aload_n (pc' := 83) 0 dX11_person_82 rfl rfl rfl ?_
    refine v_getR (pc' := 86) fl_X11_87 dX11_person_83 rfl fun r10 => ?_
    refine v_getR (pc' := 89) fl_X11_210 dX11_person_86 rfl fun r11 => ?_
    refine v_iload_n (pc' := 90) 1 dX11_person_89 rfl rfl rfl ?_
    refine v_iald (pc' := 91) dX11_person_90 rfl fun v12 => ?_
    exact v_ireturn rfl dX11_person_91
  · refine v_aload_n (pc' := 93) 0 dX11_person_92 rfl rfl rfl ?_
    refine v_getR (pc' := 96) fl_X11_87 dX11_person_93 rfl fun r13 => ?_
    refine v_getR (pc' := 99) fl_X11_213 dX11_person_96 rfl fun r14 => ?_
    refine v_iload_n (pc' := 100) 1 dX11_person_99 rfl rfl rfl ?_
    refine v_iald (pc' := 101) dX11_person_100 rfl fun v15 => ?_
    exact v_ireturn rfl dX11_person_101
  · refine v_aload_n (pc' := 103) 0 dX11_person_102 rfl rfl rfl ?_
    refine v_getR (pc' := 106) fl_X11_87 dX11_person_103 rfl fun r16 => ?_
    refine v_getR (pc' := 109) fl_X11_216 dX11_person_106 rfl fun r17 => ?_
    refine v_iload_n (pc' := 110) 1 dX11_person_109 rfl rfl rfl ?_
    refine v_iald (pc' := 111) dX11_person_110 rfl fun v18 => ?_
    exact v_ireturn rfl dX11_person_111
  · refine v_aload_n (pc' := 113) 0 dX11_person_112 rfl rfl rfl ?_
    refine v_getR (pc' := 116) fl_X11_19 dX11_person_113 rfl fun r19 => ?_
    refine v_getR (pc' := 119) fl_X11_219 dX11_person_116 rfl fun r20 => ?_
    refine v_iload_n (pc' := 120) 1 dX11_person_119 rfl rfl rfl ?_
    refine v_iald (pc' := 121) dX11_person_120 rfl fun v21 => ?_
    exact v_ireturn rfl dX11_person_121
-- plate
def f_X11_plate_b21 (a0 : Nat) (x1 : Int32) (x2 : Int32) (xs0 : Int32) (as1 : Nat) : Mo Int32 := bd (cv 11 as1 (f_X11_needElement as1 xs0)) fun _ => bd (cv 11 a0 (f_X11_needRange a0 x2 5)) fun _ => sw x2 0 [(bd (gR 11 11 a0) fun r1 => bd (cv 5 r1 (f_X5_takerOf r1 x1)) fun v2 => pu v2), (bd (gR 11 11 a0) fun r3 => bd (cv 5 r3 (f_X5_sitterOf r3 x1)) fun v4 => pu v4), (bd (gR 11 11 a0) fun r5 => bd (cv 5 r5 (f_X5_hallOf r5 x1)) fun v6 => pu v6), (bd (gR 11 11 a0) fun r7 => bd (cv 5 r7 (f_X5_faceOn r7 x1)) fun v8 => pu v8), (bd (gR 11 11 a0) fun r9 => bd (cv 5 r9 (f_X5_yearOf r9 x1)) fun v10 => pu v10)] (bd (gR 11 1 a0) fun r11 => bd (gR 11 11 a0) fun r12 => bd (cv 5 r12 (f_X5_faceOn r12 x1)) fun v13 => bd (cv 2 r11 (f_X2_nearest r11 v13)) fun v14 => pu v14)
def f_X11_plate_b20 (a0 : Nat) (x1 : Int32) (x2 : Int32) (as0 : Nat) : Mo Int32 := f_X11_plate_b21 a0 x1 x2 0 as0
def f_X11_plate (a0 : Nat) (x1 : Int32) (x2 : Int32) : Mo Int32 := if (x1 < 0 : Prop) then (f_X11_plate_b20 a0 x1 x2 a0) else bd (gR 11 11 a0) fun r15 => bd (gI 5 4 r15) fun v16 => if (v16 ≤ x1 : Prop) then (f_X11_plate_b20 a0 x1 x2 a0) else f_X11_plate_b21 a0 x1 x2 1 a0
set_option maxRecDepth 20000 in
theorem h_X11_plate_b21 (g : GW) (a0 : Nat) (x1 : Int32) (x2 : Int32) (xs0 : Int32) (as1 : Nat) : V g mX11_plate 10 rtI 21 [(0, rf g a0), (1, .int x1), (2, .int x2)] [.int xs0, rf g as1] (f_X11_plate_b21 a0 x1 x2 xs0 as1) := by
  unfold f_X11_plate_b21
  refine v_callV (vs := [.int xs0]) (pc' := 24) (h_X11_needElement g as1 xs0) mv_X11_needElement wl_X11_222 rfl (Nat.le_of_ble_eq_true rfl) (by omega) (by decide) (Nat.le_of_ble_eq_true rfl) rfl dX11_plate_21 rfl fun _ => ?_
  refine v_aload_n (pc' := 25) 0 dX11_plate_24 rfl rfl rfl ?_
  refine v_iload_n (pc' := 26) 2 dX11_plate_25 rfl rfl rfl ?_
  refine v_iconst (v := 5) (pc' := 27) dX11_plate_26 rfl rfl ?_
  refine v_callV (vs := [.int x2, .int 5]) (pc' := 30) (h_X11_needRange g a0 x2 5) mv_X11_needRange wl_X11_179 rfl (Nat.le_of_ble_eq_true rfl) (by omega) (by decide) (Nat.le_of_ble_eq_true rfl) rfl dX11_plate_27 rfl fun _ => ?_
  refine v_iload_n (pc' := 31) 2 dX11_plate_30 rfl rfl rfl ?_
  refine v_table (td := 109) dX11_plate_31 rfl (by decide) ⟨⟨64, by decide, ?_⟩, ⟨73, by decide, ?_⟩, ⟨82, by decide, ?_⟩, ⟨91, by decide, ?_⟩, ⟨100, by decide, ?_⟩, trivial⟩ ?_
  · refine v_aload_n (pc' := 65) 0 dX11_plate_64 rfl rfl rfl ?_
    refine v_getR (pc' := 68) fl_X11_87 dX11_plate_65 rfl fun r1 => ?_
    refine v_iload_n (pc' := 69) 1 dX11_plate_68 rfl rfl rfl ?_
    refine v_callV (vs := [.int x1]) (pc' := 72) (h_X5_takerOf g r1 x1) mv_X5_takerOf wl_X11_226 rfl (Nat.le_of_ble_eq_true rfl) (by omega) (by decide) (Nat.le_of_ble_eq_true rfl) rfl dX11_plate_69 rfl fun v2 => ?_
    exact v_ireturn rfl dX11_plate_72
  · refine v_aload_n (pc' := 74) 0 dX11_plate_73 rfl rfl rfl ?_
    refine v_getR (pc' := 77) fl_X11_87 dX11_plate_74 rfl fun r3 => ?_
    refine v_iload_n (pc' := 78) 1 dX11_plate_77 rfl rfl rfl ?_
    refine v_callV (vs := [.int x1]) (pc' := 81) (h_X5_sitterOf g r3 x1) mv_X5_sitterOf wl_X11_230 rfl (Nat.le_of_ble_eq_true rfl) (by omega) (by decide) (Nat.le_of_ble_eq_true rfl) rfl dX11_plate_78 rfl fun v4 => ?_
    exact v_ireturn rfl dX11_plate_81
  · refine v_aload_n (pc' := 83) 0 dX11_plate_82 rfl rfl rfl ?_
    refine v_getR (pc' := 86) fl_X11_87 dX11_plate_83 rfl fun r5 => ?_
    refine v_iload_n (pc' := 87) 1 dX11_plate_86 rfl rfl rfl ?_
    refine v_callV (vs := [.int x1]) (pc' := 90) (h_X5_hallOf g r5 x1) mv_X5_hallOf wl_X11_233 rfl (Nat.le_of_ble_eq_true rfl) (by omega) (by decide) (Nat.le_of_ble_eq_true rfl) rfl dX11_plate_87 rfl fun v6 => ?_
    exact v_ireturn rfl dX11_plate_90
  · refine v_aload_n (pc' := 92) 0 dX11_plate_91 rfl rfl rfl ?_
    refine v_getR (pc' := 95) fl_X11_87 dX11_plate_92 rfl fun r7 => ?_
    refine v_iload_n (pc' := 96) 1 dX11_plate_95 rfl rfl rfl ?_
    refine v_callV (vs := [.int x1]) (pc' := 99) (h_X5_faceOn g r7 x1) mv_X5_faceOn wl_X11_236 rfl (Nat.le_of_ble_eq_true rfl) (by omega) (by decide) (Nat.le_of_ble_eq_true rfl) rfl dX11_plate_96 rfl fun v8 => ?_
    exact v_ireturn rfl dX11_plate_99
  · refine v_aload_n (pc' := 101) 0 dX11_plate_100 rfl rfl rfl ?_
    refine v_getR (pc' := 104) fl_X11_87 dX11_plate_101 rfl fun r9 => ?_
    refine v_iload_n (pc' := 105) 1 dX11_plate_104 rfl rfl rfl ?_
    refine v_callV (vs := [.int x1]) (pc' := 108) (h_X5_yearOf g r9 x1) mv_X5_yearOf wl_X11_239 rfl (Nat.le_of_ble_eq_true rfl) (by omega) (by decide) (Nat.le_of_ble_eq_true rfl) rfl dX11_plate_105 rfl fun v10 => ?_
    exact v_ireturn rfl dX11_plate_108
  · refine v_aload_n (pc' := 110) 0 dX11_plate_109 rfl rfl rfl ?_
    refine v_getR (pc' := 113) fl_X11_19 dX11_plate_110 rfl fun r11 => ?_
    refine v_aload_n (pc' := 114) 0 dX11_plate_113 rfl rfl rfl ?_
    refine v_getR (pc' := 117) fl_X11_87 dX11_plate_114 rfl fun r12 => ?_
    refine v_iload_n (pc' := 118) 1 dX11_plate_117 rfl rfl rfl ?_
    refine v_callV (vs := [.int x1]) (pc' := 121) (h_X5_faceOn g r12 x1) mv_X5_faceOn wl_X11_236 rfl (Nat.le_of_ble_eq_true rfl) (by omega) (by decide) (Nat.le_of_ble_eq_true rfl) rfl dX11_plate_118 rfl fun v13 => ?_
    refine v_callV (vs := [.int v13]) (pc' := 124) (h_X2_nearest g r11 v13) mv_X2_nearest wl_X11_242 rfl (Nat.le_of_ble_eq_true rfl) (by omega) (by decide) (Nat.le_of_ble_eq_true rfl) rfl dX11_plate_121 rfl fun v14 => ?_
    exact v_ireturn rfl dX11_plate_124
set_option maxRecDepth 20000 in
theorem h_X11_plate_b20 (g : GW) (a0 : Nat) (x1 : Int32) (x2 : Int32) (as0 : Nat) : V g mX11_plate 10 rtI 20 [(0, rf g a0), (1, .int x1), (2, .int x2)] [rf g as0] (f_X11_plate_b20 a0 x1 x2 as0) := by
  unfold f_X11_plate_b20
  refine v_iconst (v := 0) (pc' := 21) dX11_plate_20 rfl rfl ?_
  refine V.sub [0, 1, 2] rfl ?_
  exact h_X11_plate_b21 g a0 x1 x2 0 as0
set_option maxRecDepth 20000 in
theorem h_X11_plate (g : GW) (a0 : Nat) (x1 : Int32) (x2 : Int32) : V g mX11_plate 10 rtI 0 [(0, rf g a0), (1, .int x1), (2, .int x2)] [] (f_X11_plate a0 x1 x2) := by
  unfold f_X11_plate
  refine v_aload_n (pc' := 1) 0 dX11_plate_0 rfl rfl rfl ?_
  refine v_iload_n (pc' := 2) 1 dX11_plate_1 rfl rfl rfl ?_
  refine v_iflt (t := 20) (pc' := 5) dX11_plate_2 (by decide) rfl ?_ ?_
  · refine V.sub [0, 1, 2] rfl ?_
    exact h_X11_plate_b20 g a0 x1 x2 a0
  · refine v_iload_n (pc' := 6) 1 dX11_plate_5 rfl rfl rfl ?_
    refine v_aload_n (pc' := 7) 0 dX11_plate_6 rfl rfl rfl ?_
    refine v_getR (pc' := 10) fl_X11_87 dX11_plate_7 rfl fun r15 => ?_
    refine v_getI (pc' := 13) fl_X11_182 dX11_plate_10 rfl fun v16 => ?_
    refine v_icmpge (t := 20) (pc' := 16) dX11_plate_13 (by decide) rfl ?_ ?_
    · refine V.sub [0, 1, 2] rfl ?_
      exact h_X11_plate_b20 g a0 x1 x2 a0
    · refine v_iconst (v := 1) (pc' := 17) dX11_plate_16 rfl rfl ?_
      refine v_goto (t := 21) dX11_plate_17 (by decide) ?_
      refine V.sub [0, 1, 2] rfl ?_
      exact h_X11_plate_b21 g a0 x1 x2 1 a0
-- needHall
def f_X11_needHall_b16 (xs0 : Int32) (as1 : Nat) : Mo Unit := bd (cv 11 as1 (f_X11_needElement as1 xs0)) fun _ => pu ()
def f_X11_needHall_b15 (as0 : Nat) : Mo Unit := f_X11_needHall_b16 0 as0
def f_X11_needHall (a0 : Nat) (x1 : Int32) : Mo Unit := if (x1 < 0 : Prop) then (f_X11_needHall_b15 a0) else if (6 ≤ x1 : Prop) then (f_X11_needHall_b15 a0) else f_X11_needHall_b16 1 a0
set_option maxRecDepth 20000 in
theorem h_X11_needHall_b16 (g : GW) (xs0 : Int32) (as1 : Nat) : V g mX11_needHall 9 rtU 16 [] [.int xs0, rf g as1] (f_X11_needHall_b16 xs0 as1) := by
  unfold f_X11_needHall_b16
  refine v_callV (vs := [.int xs0]) (pc' := 19) (h_X11_needElement g as1 xs0) mv_X11_needElement wl_X11_222 rfl (Nat.le_of_ble_eq_true rfl) (by omega) (by decide) (Nat.le_of_ble_eq_true rfl) rfl dX11_needHall_16 rfl fun _ => ?_
  exact v_return rfl dX11_needHall_19
set_option maxRecDepth 20000 in
theorem h_X11_needHall_b15 (g : GW) (as0 : Nat) : V g mX11_needHall 9 rtU 15 [] [rf g as0] (f_X11_needHall_b15 as0) := by
  unfold f_X11_needHall_b15
  refine v_iconst (v := 0) (pc' := 16) dX11_needHall_15 rfl rfl ?_
  refine V.sub [] rfl ?_
  exact h_X11_needHall_b16 g 0 as0
set_option maxRecDepth 20000 in
theorem h_X11_needHall (g : GW) (a0 : Nat) (x1 : Int32) : V g mX11_needHall 9 rtU 0 [(0, rf g a0), (1, .int x1)] [] (f_X11_needHall a0 x1) := by
  unfold f_X11_needHall
  refine v_aload_n (pc' := 1) 0 dX11_needHall_0 rfl rfl rfl ?_
  refine v_iload_n (pc' := 2) 1 dX11_needHall_1 rfl rfl rfl ?_
  refine v_iflt (t := 15) (pc' := 5) dX11_needHall_2 (by decide) rfl ?_ ?_
  · refine V.sub [] rfl ?_
    exact h_X11_needHall_b15 g a0
  · refine v_iload_n (pc' := 6) 1 dX11_needHall_5 rfl rfl rfl ?_
    refine v_bipush (v := 6) (pc' := 8) dX11_needHall_6 rfl rfl ?_
    refine v_icmpge (t := 15) (pc' := 11) dX11_needHall_8 (by decide) rfl ?_ ?_
    · refine V.sub [] rfl ?_
      exact h_X11_needHall_b15 g a0
    · refine v_iconst (v := 1) (pc' := 12) dX11_needHall_11 rfl rfl ?_
      refine v_goto (t := 16) dX11_needHall_12 (by decide) ?_
      refine V.sub [] rfl ?_
      exact h_X11_needHall_b16 g 1 a0
-- hall
def f_X11_hall_b108 (k19 : Nat → Int32 → Int32 → Int32 → Int32 → Int32 → Mo Int32) (a0 : Nat) (x1 : Int32) (x2 : Int32) (x3 : Int32) (x4 : Int32) (x5 : Int32) : Mo Int32 := k19 a0 x1 x2 x3 x4 (x5 + 1)
def f_X11_hall_b97 (k19 : Nat → Int32 → Int32 → Int32 → Int32 → Int32 → Mo Int32) (a0 : Nat) (x1 : Int32) (x2 : Int32) (x3 : Int32) (x4 : Int32) (x5 : Int32) (xs0 : Int32) : Mo Int32 := f_X11_hall_b108 k19 a0 x1 x2 x3 (x4 ||| ((1 : Int32) <<< (xs0 &&& 31))) x5
def f_X11_hall_b19 : Nat → Nat → Int32 → Int32 → Int32 → Int32 → Int32 → Mo Int32
  | 0, _, _, _, _, _, _ => fl
  | n + 1, a0, x1, x2, x3, x4, x5 => bd (gR 11 11 a0) fun r1 => bd (gI 5 4 r1) fun v2 => if (v2 ≤ x5 : Prop) then (if (x2 = 0 : Prop) then (pu x3) else pu x4) else bd (gR 11 11 a0) fun r3 => bd (cv 5 r3 (f_X5_hallOf r3 x5)) fun v4 => if (v4 = x1 : Prop) then (if (x2 = 1 : Prop) then (bd (gR 11 11 a0) fun r11 => bd (cv 5 r11 (f_X5_takerOf r11 x5)) fun v12 => f_X11_hall_b97 (f_X11_hall_b19 n) a0 x1 x2 (x3 + 1) x4 x5 v12) else if (x2 = 2 : Prop) then (bd (gR 11 11 a0) fun r9 => bd (cv 5 r9 (f_X5_sitterOf r9 x5)) fun v10 => f_X11_hall_b97 (f_X11_hall_b19 n) a0 x1 x2 (x3 + 1) x4 x5 v10) else bd (gR 11 1 a0) fun r5 => bd (gR 11 11 a0) fun r6 => bd (cv 5 r6 (f_X5_faceOn r6 x5)) fun v7 => bd (cv 2 r5 (f_X2_nearest r5 v7)) fun v8 => f_X11_hall_b97 (f_X11_hall_b19 n) a0 x1 x2 (x3 + 1) x4 x5 v8) else f_X11_hall_b108 (f_X11_hall_b19 n) a0 x1 x2 x3 x4 x5
def f_X11_hall (a0 : Nat) (x1 : Int32) (x2 : Int32) : Mo Int32 := bd (cv 11 a0 (f_X11_needHall a0 x1)) fun _ => bd (cv 11 a0 (f_X11_needRange a0 x2 3)) fun _ => f_X11_hall_b19 NF a0 x1 x2 0 0 0
set_option maxRecDepth 20000 in
theorem h_X11_hall_b108 (g : GW) (k19 : Nat → Int32 → Int32 → Int32 → Int32 → Int32 → Mo Int32) (hk19 : ∀ a0 x1 x2 x3 x4 x5, V g mX11_hall 10 rtI 19 [(0, rf g a0), (1, .int x1), (2, .int x2), (3, .int x3), (4, .int x4), (5, .int x5)] [] (k19 a0 x1 x2 x3 x4 x5)) (a0 : Nat) (x1 : Int32) (x2 : Int32) (x3 : Int32) (x4 : Int32) (x5 : Int32) : V g mX11_hall 10 rtI 108 [(0, rf g a0), (1, .int x1), (2, .int x2), (3, .int x3), (4, .int x4), (5, .int x5)] [] (f_X11_hall_b108 k19 a0 x1 x2 x3 x4 x5) := by
  unfold f_X11_hall_b108
  refine v_iinc (v := x5 + 1) (lv' := [(5, .int (x5 + 1)), (0, rf g a0), (1, .int x1), (2, .int x2), (3, .int x3), (4, .int x4)]) (pc' := 111) 5 dX11_hall_108 rfl rfl (by decide) rfl rfl ?_
  refine v_goto (t := 19) dX11_hall_111 (by decide) ?_
  refine V.sub [1, 2, 3, 4, 5, 0] rfl ?_
  exact hk19 a0 x1 x2 x3 x4 (x5 + 1)
set_option maxRecDepth 20000 in
theorem h_X11_hall_b97 (g : GW) (k19 : Nat → Int32 → Int32 → Int32 → Int32 → Int32 → Mo Int32) (hk19 : ∀ a0 x1 x2 x3 x4 x5, V g mX11_hall 10 rtI 19 [(0, rf g a0), (1, .int x1), (2, .int x2), (3, .int x3), (4, .int x4), (5, .int x5)] [] (k19 a0 x1 x2 x3 x4 x5)) (a0 : Nat) (x1 : Int32) (x2 : Int32) (x3 : Int32) (x4 : Int32) (x5 : Int32) (xs0 : Int32) : V g mX11_hall 10 rtI 97 [(0, rf g a0), (1, .int x1), (2, .int x2), (3, .int x3), (4, .int x4), (5, .int x5)] [.int xs0] (f_X11_hall_b97 k19 a0 x1 x2 x3 x4 x5 xs0) := by
  unfold f_X11_hall_b97
  refine v_istore (lv' := [(6, .int xs0), (0, rf g a0), (1, .int x1), (2, .int x2), (3, .int x3), (4, .int x4), (5, .int x5)]) (pc' := 99) dX11_hall_97 (by decide) rfl rfl ?_
  refine v_iload (pc' := 101) 5 dX11_hall_99 rfl rfl ?_
  refine v_iconst (v := 1) (pc' := 102) dX11_hall_101 rfl rfl ?_
  refine v_iload (pc' := 104) 0 dX11_hall_102 rfl rfl ?_
  refine v_ishl (pc' := 105) dX11_hall_104 rfl ?_
  refine v_ior (pc' := 106) dX11_hall_105 rfl ?_
  refine v_istore (lv' := [(4, .int (x4 ||| ((1 : Int32) <<< (xs0 &&& 31)))), (6, .int xs0), (0, rf g a0), (1, .int x1), (2, .int x2), (3, .int x3), (5, .int x5)]) (pc' := 108) dX11_hall_106 (by decide) rfl rfl ?_
  refine V.sub [2, 3, 4, 5, 0, 6] rfl ?_
  exact h_X11_hall_b108 g k19 hk19 a0 x1 x2 x3 (x4 ||| ((1 : Int32) <<< (xs0 &&& 31))) x5
set_option maxRecDepth 20000 in
theorem h_X11_hall_b19 (g : GW) : ∀ n : Nat, ∀ a0 x1 x2 x3 x4 x5, V g mX11_hall 10 rtI 19 [(0, rf g a0), (1, .int x1), (2, .int x2), (3, .int x3), (4, .int x4), (5, .int x5)] [] (f_X11_hall_b19 n a0 x1 x2 x3 x4 x5) := by
  intro n
  induction n with
  | zero => intro a0 x1 x2 x3 x4 x5; exact V.vain
  | succ n ih =>
    intro a0 x1 x2 x3 x4 x5
    unfold f_X11_hall_b19
    refine v_iload (pc' := 21) 5 dX11_hall_19 rfl rfl ?_
    refine v_aload_n (pc' := 22) 0 dX11_hall_21 rfl rfl rfl ?_
    refine v_getR (pc' := 25) fl_X11_87 dX11_hall_22 rfl fun r1 => ?_
    refine v_getI (pc' := 28) fl_X11_182 dX11_hall_25 rfl fun v2 => ?_
    refine v_icmpge (t := 114) (pc' := 31) dX11_hall_28 (by decide) rfl ?_ ?_
    · refine v_iload_n (pc' := 115) 2 dX11_hall_114 rfl rfl rfl ?_
      refine v_ifne (t := 122) (pc' := 118) dX11_hall_115 (by decide) rfl ?_ ?_
      · refine v_iload (pc' := 124) 4 dX11_hall_122 rfl rfl ?_
        exact v_ireturn rfl dX11_hall_124
      · refine v_iload_n (pc' := 119) 3 dX11_hall_118 rfl rfl rfl ?_
        refine v_goto (t := 124) dX11_hall_119 (by decide) ?_
        exact v_ireturn rfl dX11_hall_124
    · refine v_aload_n (pc' := 32) 0 dX11_hall_31 rfl rfl rfl ?_
      refine v_getR (pc' := 35) fl_X11_87 dX11_hall_32 rfl fun r3 => ?_
      refine v_iload (pc' := 37) 5 dX11_hall_35 rfl rfl ?_
      refine v_callV (vs := [.int x5]) (pc' := 40) (h_X5_hallOf g r3 x5) mv_X5_hallOf wl_X11_233 rfl (Nat.le_of_ble_eq_true rfl) (by omega) (by decide) (Nat.le_of_ble_eq_true rfl) rfl dX11_hall_37 rfl fun v4 => ?_
      refine v_iload_n (pc' := 41) 1 dX11_hall_40 rfl rfl rfl ?_
      refine v_icmpne (t := 108) (pc' := 44) dX11_hall_41 (by decide) rfl ?_ ?_
      · refine V.sub [0, 1, 2, 3, 4, 5] rfl ?_
        exact h_X11_hall_b108 g (f_X11_hall_b19 n) ih a0 x1 x2 x3 x4 x5
      · refine v_iinc (v := x3 + 1) (lv' := [(3, .int (x3 + 1)), (0, rf g a0), (1, .int x1), (2, .int x2), (4, .int x4), (5, .int x5)]) (pc' := 47) 3 dX11_hall_44 rfl rfl (by decide) rfl rfl ?_
        refine v_iload_n (pc' := 48) 3 dX11_hall_47 rfl rfl rfl ?_
        refine v_iconst (v := 1) (pc' := 49) dX11_hall_48 rfl rfl ?_
        refine v_icmpne (t := 64) (pc' := 52) dX11_hall_49 (by decide) rfl ?_ ?_
        · refine v_iload_n (pc' := 65) 3 dX11_hall_64 rfl rfl rfl ?_
          refine v_iconst (v := 2) (pc' := 66) dX11_hall_65 rfl rfl ?_
          refine v_icmpne (t := 81) (pc' := 69) dX11_hall_66 (by decide) rfl ?_ ?_
          · refine v_aload_n (pc' := 82) 1 dX11_hall_81 rfl rfl rfl ?_
            refine v_getR (pc' := 85) fl_X11_19 dX11_hall_82 rfl fun r5 => ?_
            refine v_aload_n (pc' := 86) 1 dX11_hall_85 rfl rfl rfl ?_
            refine v_getR (pc' := 89) fl_X11_87 dX11_hall_86 rfl fun r6 => ?_
            refine v_iload (pc' := 91) 5 dX11_hall_89 rfl rfl ?_
            refine v_callV (vs := [.int x5]) (pc' := 94) (h_X5_faceOn g r6 x5) mv_X5_faceOn wl_X11_236 rfl (Nat.le_of_ble_eq_true rfl) (by omega) (by decide) (Nat.le_of_ble_eq_true rfl) rfl dX11_hall_91 rfl fun v7 => ?_
            refine v_callV (vs := [.int v7]) (pc' := 97) (h_X2_nearest g r5 v7) mv_X2_nearest wl_X11_242 rfl (Nat.le_of_ble_eq_true rfl) (by omega) (by decide) (Nat.le_of_ble_eq_true rfl) rfl dX11_hall_94 rfl fun v8 => ?_
            refine V.sub [1, 2, 3, 0, 4, 5] rfl ?_
            exact h_X11_hall_b97 g (f_X11_hall_b19 n) ih a0 x1 x2 (x3 + 1) x4 x5 v8
          · refine v_aload_n (pc' := 70) 1 dX11_hall_69 rfl rfl rfl ?_
            refine v_getR (pc' := 73) fl_X11_87 dX11_hall_70 rfl fun r9 => ?_
            refine v_iload (pc' := 75) 5 dX11_hall_73 rfl rfl ?_
            refine v_callV (vs := [.int x5]) (pc' := 78) (h_X5_sitterOf g r9 x5) mv_X5_sitterOf wl_X11_230 rfl (Nat.le_of_ble_eq_true rfl) (by omega) (by decide) (Nat.le_of_ble_eq_true rfl) rfl dX11_hall_75 rfl fun v10 => ?_
            refine v_goto (t := 97) dX11_hall_78 (by decide) ?_
            refine V.sub [1, 2, 3, 0, 4, 5] rfl ?_
            exact h_X11_hall_b97 g (f_X11_hall_b19 n) ih a0 x1 x2 (x3 + 1) x4 x5 v10
        · refine v_aload_n (pc' := 53) 1 dX11_hall_52 rfl rfl rfl ?_
          refine v_getR (pc' := 56) fl_X11_87 dX11_hall_53 rfl fun r11 => ?_
          refine v_iload (pc' := 58) 5 dX11_hall_56 rfl rfl ?_
          refine v_callV (vs := [.int x5]) (pc' := 61) (h_X5_takerOf g r11 x5) mv_X5_takerOf wl_X11_226 rfl (Nat.le_of_ble_eq_true rfl) (by omega) (by decide) (Nat.le_of_ble_eq_true rfl) rfl dX11_hall_58 rfl fun v12 => ?_
          refine v_goto (t := 97) dX11_hall_61 (by decide) ?_
          refine V.sub [1, 2, 3, 0, 4, 5] rfl ?_
          exact h_X11_hall_b97 g (f_X11_hall_b19 n) ih a0 x1 x2 (x3 + 1) x4 x5 v12
set_option maxRecDepth 20000 in
theorem h_X11_hall (g : GW) (a0 : Nat) (x1 : Int32) (x2 : Int32) : V g mX11_hall 10 rtI 0 [(0, rf g a0), (1, .int x1), (2, .int x2)] [] (f_X11_hall a0 x1 x2) := by
  unfold f_X11_hall
  refine v_aload_n (pc' := 1) 0 dX11_hall_0 rfl rfl rfl ?_
  refine v_iload_n (pc' := 2) 1 dX11_hall_1 rfl rfl rfl ?_
  refine v_callV (vs := [.int x1]) (pc' := 5) (h_X11_needHall g a0 x1) mv_X11_needHall wl_X11_245 rfl (Nat.le_of_ble_eq_true rfl) (by omega) (by decide) (Nat.le_of_ble_eq_true rfl) rfl dX11_hall_2 rfl fun _ => ?_
  refine v_aload_n (pc' := 6) 0 dX11_hall_5 rfl rfl rfl ?_
  refine v_iload_n (pc' := 7) 2 dX11_hall_6 rfl rfl rfl ?_
  refine v_iconst (v := 3) (pc' := 8) dX11_hall_7 rfl rfl ?_
  refine v_callV (vs := [.int x2, .int 3]) (pc' := 11) (h_X11_needRange g a0 x2 3) mv_X11_needRange wl_X11_179 rfl (Nat.le_of_ble_eq_true rfl) (by omega) (by decide) (Nat.le_of_ble_eq_true rfl) rfl dX11_hall_8 rfl fun _ => ?_
  refine v_iconst (v := 0) (pc' := 12) dX11_hall_11 rfl rfl ?_
  refine v_istore_n (lv' := [(3, .int 0), (0, rf g a0), (1, .int x1), (2, .int x2)]) (pc' := 13) dX11_hall_12 rfl (by decide) rfl rfl ?_
  refine v_iconst (v := 0) (pc' := 14) dX11_hall_13 rfl rfl ?_
  refine v_istore (lv' := [(4, .int 0), (3, .int 0), (0, rf g a0), (1, .int x1), (2, .int x2)]) (pc' := 16) dX11_hall_14 (by decide) rfl rfl ?_
  refine v_iconst (v := 0) (pc' := 17) dX11_hall_16 rfl rfl ?_
  refine v_istore (lv' := [(5, .int 0), (4, .int 0), (3, .int 0), (0, rf g a0), (1, .int x1), (2, .int x2)]) (pc' := 19) dX11_hall_17 (by decide) rfl rfl ?_
  refine V.sub [3, 4, 5, 2, 1, 0] rfl ?_
  exact h_X11_hall_b19 g NF a0 x1 x2 0 0 0
-- shown
def f_X11_shown (a0 : Nat) (x1 : Int32) (x2 : Int32) (x3 : Int32) : Mo Int32 := bd (cv 11 a0 (f_X11_needPerson a0 x1)) fun _ => bd (cv 11 a0 (f_X11_needPerson a0 x2)) fun _ => bd (cv 11 a0 (f_X11_needHall a0 x3)) fun _ => bd (gR 11 7 a0) fun r1 => bd (gR 11 11 a0) fun r2 => bd (gR 11 11 a0) fun r3 => bd (gR 5 0 r3) fun r4 => bd (al 0 r4 x1) fun v5 => bd (cv 6 r1 (f_X6_faceBy r1 r2 x1 x2 x3 v5)) fun v6 => pu v6
set_option maxRecDepth 20000 in
theorem h_X11_shown (g : GW) (a0 : Nat) (x1 : Int32) (x2 : Int32) (x3 : Int32) : V g mX11_shown 11 rtI 0 [(0, rf g a0), (1, .int x1), (2, .int x2), (3, .int x3)] [] (f_X11_shown a0 x1 x2 x3) := by
  unfold f_X11_shown
  refine v_aload_n (pc' := 1) 0 dX11_shown_0 rfl rfl rfl ?_
  refine v_iload_n (pc' := 2) 1 dX11_shown_1 rfl rfl rfl ?_
  refine v_callV (vs := [.int x1]) (pc' := 5) (h_X11_needPerson g a0 x1) mv_X11_needPerson wl_X11_197 rfl (Nat.le_of_ble_eq_true rfl) (by omega) (by decide) (Nat.le_of_ble_eq_true rfl) rfl dX11_shown_2 rfl fun _ => ?_
  refine v_aload_n (pc' := 6) 0 dX11_shown_5 rfl rfl rfl ?_
  refine v_iload_n (pc' := 7) 2 dX11_shown_6 rfl rfl rfl ?_
  refine v_callV (vs := [.int x2]) (pc' := 10) (h_X11_needPerson g a0 x2) mv_X11_needPerson wl_X11_197 rfl (Nat.le_of_ble_eq_true rfl) (by omega) (by decide) (Nat.le_of_ble_eq_true rfl) rfl dX11_shown_7 rfl fun _ => ?_
  refine v_aload_n (pc' := 11) 0 dX11_shown_10 rfl rfl rfl ?_
  refine v_iload_n (pc' := 12) 3 dX11_shown_11 rfl rfl rfl ?_
  refine v_callV (vs := [.int x3]) (pc' := 15) (h_X11_needHall g a0 x3) mv_X11_needHall wl_X11_245 rfl (Nat.le_of_ble_eq_true rfl) (by omega) (by decide) (Nat.le_of_ble_eq_true rfl) rfl dX11_shown_12 rfl fun _ => ?_
  refine v_aload_n (pc' := 16) 0 dX11_shown_15 rfl rfl rfl ?_
  refine v_getR (pc' := 19) fl_X11_57 dX11_shown_16 rfl fun r1 => ?_
  refine v_aload_n (pc' := 20) 0 dX11_shown_19 rfl rfl rfl ?_
  refine v_getR (pc' := 23) fl_X11_87 dX11_shown_20 rfl fun r2 => ?_
  refine v_iload_n (pc' := 24) 1 dX11_shown_23 rfl rfl rfl ?_
  refine v_iload_n (pc' := 25) 2 dX11_shown_24 rfl rfl rfl ?_
  refine v_iload_n (pc' := 26) 3 dX11_shown_25 rfl rfl rfl ?_
  refine v_aload_n (pc' := 27) 0 dX11_shown_26 rfl rfl rfl ?_
  refine v_getR (pc' := 30) fl_X11_87 dX11_shown_27 rfl fun r3 => ?_
  refine v_getR (pc' := 33) fl_X11_210 dX11_shown_30 rfl fun r4 => ?_
  refine v_iload_n (pc' := 34) 1 dX11_shown_33 rfl rfl rfl ?_
  refine v_iald (pc' := 35) dX11_shown_34 rfl fun v5 => ?_
  refine v_callV (vs := [rf g r2, .int x1, .int x2, .int x3, .int v5]) (pc' := 38) (h_X6_faceBy g r1 r2 x1 x2 x3 v5) mv_X6_faceBy wl_X11_248 rfl (Nat.le_of_ble_eq_true rfl) (by omega) (by decide) (Nat.le_of_ble_eq_true rfl) rfl dX11_shown_35 rfl fun v6 => ?_
  exact v_ireturn rfl dX11_shown_38
-- would
def f_X11_would (a0 : Nat) (x1 : Int32) (x2 : Int32) (x3 : Int32) (x4 : Int32) (x5 : Int32) (x6 : Int32) (x7 : Int32) (x8 : Int32) : Mo Int32 := bd (cv 11 a0 (f_X11_needRange a0 x1 63)) fun _ => bd (cv 11 a0 (f_X11_needRange a0 x2 9)) fun _ => bd (cv 11 a0 (f_X11_needRange a0 x3 9)) fun _ => bd (cv 11 a0 (f_X11_needRange a0 x4 63)) fun _ => bd (cv 11 a0 (f_X11_needRange a0 x5 1)) fun _ => bd (cv 11 a0 (f_X11_needRange a0 x6 200)) fun _ => bd (cv 11 a0 (f_X11_needRange a0 x7 999)) fun _ => bd (cv 11 a0 (f_X11_needRange a0 x8 5)) fun _ => bd (gR 11 7 a0) fun r1 => bd (gR 6 2 r1) fun r2 => bd (as_ r2 0 x1) fun _ => bd (as_ r2 1 x2) fun _ => bd (as_ r2 2 x3) fun _ => bd (as_ r2 3 x4) fun _ => bd (as_ r2 4 x5) fun _ => bd (as_ r2 5 x6) fun _ => bd (as_ r2 6 x7) fun _ => bd (as_ r2 7 x8) fun _ => bd (gR 11 3 a0) fun r3 => bd (cv 4 r3 (f_X4_faceFor r3 r2)) fun v4 => pu v4
set_option maxRecDepth 20000 in
theorem h_X11_would (g : GW) (a0 : Nat) (x1 : Int32) (x2 : Int32) (x3 : Int32) (x4 : Int32) (x5 : Int32) (x6 : Int32) (x7 : Int32) (x8 : Int32) : V g mX11_would 10 rtI 0 [(0, rf g a0), (1, .int x1), (2, .int x2), (3, .int x3), (4, .int x4), (5, .int x5), (6, .int x6), (7, .int x7), (8, .int x8)] [] (f_X11_would a0 x1 x2 x3 x4 x5 x6 x7 x8) := by
  unfold f_X11_would
  refine v_aload_n (pc' := 1) 0 dX11_would_0 rfl rfl rfl ?_
  refine v_iload_n (pc' := 2) 1 dX11_would_1 rfl rfl rfl ?_
  refine v_bipush (v := 63) (pc' := 4) dX11_would_2 rfl rfl ?_
  refine v_callV (vs := [.int x1, .int 63]) (pc' := 7) (h_X11_needRange g a0 x1 63) mv_X11_needRange wl_X11_179 rfl (Nat.le_of_ble_eq_true rfl) (by omega) (by decide) (Nat.le_of_ble_eq_true rfl) rfl dX11_would_4 rfl fun _ => ?_
  refine v_aload_n (pc' := 8) 0 dX11_would_7 rfl rfl rfl ?_
  refine v_iload_n (pc' := 9) 2 dX11_would_8 rfl rfl rfl ?_
  refine v_bipush (v := 9) (pc' := 11) dX11_would_9 rfl rfl ?_
  refine v_callV (vs := [.int x2, .int 9]) (pc' := 14) (h_X11_needRange g a0 x2 9) mv_X11_needRange wl_X11_179 rfl (Nat.le_of_ble_eq_true rfl) (by omega) (by decide) (Nat.le_of_ble_eq_true rfl) rfl dX11_would_11 rfl fun _ => ?_
  refine v_aload_n (pc' := 15) 0 dX11_would_14 rfl rfl rfl ?_
  refine v_iload_n (pc' := 16) 3 dX11_would_15 rfl rfl rfl ?_
  refine v_bipush (v := 9) (pc' := 18) dX11_would_16 rfl rfl ?_
  refine v_callV (vs := [.int x3, .int 9]) (pc' := 21) (h_X11_needRange g a0 x3 9) mv_X11_needRange wl_X11_179 rfl (Nat.le_of_ble_eq_true rfl) (by omega) (by decide) (Nat.le_of_ble_eq_true rfl) rfl dX11_would_18 rfl fun _ => ?_
  refine v_aload_n (pc' := 22) 0 dX11_would_21 rfl rfl rfl ?_
  refine v_iload (pc' := 24) 4 dX11_would_22 rfl rfl ?_
  refine v_bipush (v := 63) (pc' := 26) dX11_would_24 rfl rfl ?_
  refine v_callV (vs := [.int x4, .int 63]) (pc' := 29) (h_X11_needRange g a0 x4 63) mv_X11_needRange wl_X11_179 rfl (Nat.le_of_ble_eq_true rfl) (by omega) (by decide) (Nat.le_of_ble_eq_true rfl) rfl dX11_would_26 rfl fun _ => ?_
  refine v_aload_n (pc' := 30) 0 dX11_would_29 rfl rfl rfl ?_
  refine v_iload (pc' := 32) 5 dX11_would_30 rfl rfl ?_
  refine v_iconst (v := 1) (pc' := 33) dX11_would_32 rfl rfl ?_
  refine v_callV (vs := [.int x5, .int 1]) (pc' := 36) (h_X11_needRange g a0 x5 1) mv_X11_needRange wl_X11_179 rfl (Nat.le_of_ble_eq_true rfl) (by omega) (by decide) (Nat.le_of_ble_eq_true rfl) rfl dX11_would_33 rfl fun _ => ?_
  refine v_aload_n (pc' := 37) 0 dX11_would_36 rfl rfl rfl ?_
  refine v_iload (pc' := 39) 6 dX11_would_37 rfl rfl ?_
  refine v_sipush (v := 200) (pc' := 42) dX11_would_39 rfl rfl ?_
  refine v_callV (vs := [.int x6, .int 200]) (pc' := 45) (h_X11_needRange g a0 x6 200) mv_X11_needRange wl_X11_179 rfl (Nat.le_of_ble_eq_true rfl) (by omega) (by decide) (Nat.le_of_ble_eq_true rfl) rfl dX11_would_42 rfl fun _ => ?_
  refine v_aload_n (pc' := 46) 0 dX11_would_45 rfl rfl rfl ?_
  refine v_iload (pc' := 48) 7 dX11_would_46 rfl rfl ?_
  refine v_sipush (v := 999) (pc' := 51) dX11_would_48 rfl rfl ?_
  refine v_callV (vs := [.int x7, .int 999]) (pc' := 54) (h_X11_needRange g a0 x7 999) mv_X11_needRange wl_X11_179 rfl (Nat.le_of_ble_eq_true rfl) (by omega) (by decide) (Nat.le_of_ble_eq_true rfl) rfl dX11_would_51 rfl fun _ => ?_
  refine v_aload_n (pc' := 55) 0 dX11_would_54 rfl rfl rfl ?_
  refine v_iload (pc' := 57) 8 dX11_would_55 rfl rfl ?_
  refine v_iconst (v := 5) (pc' := 58) dX11_would_57 rfl rfl ?_
  refine v_callV (vs := [.int x8, .int 5]) (pc' := 61) (h_X11_needRange g a0 x8 5) mv_X11_needRange wl_X11_179 rfl (Nat.le_of_ble_eq_true rfl) (by omega) (by decide) (Nat.le_of_ble_eq_true rfl) rfl dX11_would_58 rfl fun _ => ?_
  refine v_aload_n (pc' := 62) 0 dX11_would_61 rfl rfl rfl ?_
  refine v_getR (pc' := 65) fl_X11_57 dX11_would_62 rfl fun r1 => ?_
  refine v_getR (pc' := 68) fl_X11_252 dX11_would_65 rfl fun r2 => ?_
  refine v_astore (lv' := [(9, rf g r2), (0, rf g a0), (1, .int x1), (2, .int x2), (3, .int x3), (4, .int x4), (5, .int x5), (6, .int x6), (7, .int x7), (8, .int x8)]) (pc' := 70) dX11_would_68 (by decide) rfl rfl ?_
  refine v_aload (pc' := 72) 0 dX11_would_70 rfl rfl ?_
  refine v_iconst (v := 0) (pc' := 73) dX11_would_72 rfl rfl ?_
  refine v_iload_n (pc' := 74) 2 dX11_would_73 rfl rfl rfl ?_
  refine v_iast (pc' := 75) dX11_would_74 rfl ?_
  refine v_aload (pc' := 77) 0 dX11_would_75 rfl rfl ?_
  refine v_iconst (v := 1) (pc' := 78) dX11_would_77 rfl rfl ?_
  refine v_iload_n (pc' := 79) 3 dX11_would_78 rfl rfl rfl ?_
  refine v_iast (pc' := 80) dX11_would_79 rfl ?_
  refine v_aload (pc' := 82) 0 dX11_would_80 rfl rfl ?_
  refine v_iconst (v := 2) (pc' := 83) dX11_would_82 rfl rfl ?_
  refine v_iload_n (pc' := 84) 4 dX11_would_83 rfl rfl rfl ?_
  refine v_iast (pc' := 85) dX11_would_84 rfl ?_
  refine v_aload (pc' := 87) 0 dX11_would_85 rfl rfl ?_
  refine v_iconst (v := 3) (pc' := 88) dX11_would_87 rfl rfl ?_
  refine v_iload (pc' := 90) 5 dX11_would_88 rfl rfl ?_
  refine v_iast (pc' := 91) dX11_would_90 rfl ?_
  refine v_aload (pc' := 93) 0 dX11_would_91 rfl rfl ?_
  refine v_iconst (v := 4) (pc' := 94) dX11_would_93 rfl rfl ?_
  refine v_iload (pc' := 96) 6 dX11_would_94 rfl rfl ?_
  refine v_iast (pc' := 97) dX11_would_96 rfl ?_
  refine v_aload (pc' := 99) 0 dX11_would_97 rfl rfl ?_
  refine v_iconst (v := 5) (pc' := 100) dX11_would_99 rfl rfl ?_
  refine v_iload (pc' := 102) 7 dX11_would_100 rfl rfl ?_
  refine v_iast (pc' := 103) dX11_would_102 rfl ?_
  refine v_aload (pc' := 105) 0 dX11_would_103 rfl rfl ?_
  refine v_bipush (v := 6) (pc' := 107) dX11_would_105 rfl rfl ?_
  refine v_iload (pc' := 109) 8 dX11_would_107 rfl rfl ?_
  refine v_iast (pc' := 110) dX11_would_109 rfl ?_
  refine v_aload (pc' := 112) 0 dX11_would_110 rfl rfl ?_
  refine v_bipush (v := 7) (pc' := 114) dX11_would_112 rfl rfl ?_
  refine v_iload (pc' := 116) 9 dX11_would_114 rfl rfl ?_
  refine v_iast (pc' := 117) dX11_would_116 rfl ?_
  refine v_aload_n (pc' := 118) 1 dX11_would_117 rfl rfl rfl ?_
  refine v_getR (pc' := 121) fl_X11_29 dX11_would_118 rfl fun r3 => ?_
  refine v_aload (pc' := 123) 0 dX11_would_121 rfl rfl ?_
  refine v_callV (vs := [rf g r2]) (pc' := 126) (h_X4_faceFor g r3 r2) mv_X4_faceFor wl_X11_255 rfl (Nat.le_of_ble_eq_true rfl) (by omega) (by decide) (Nat.le_of_ble_eq_true rfl) rfl dX11_would_123 rfl fun v4 => ?_
  exact v_ireturn rfl dX11_would_126
-- unlike
def f_X11_unlike (a0 : Nat) (x1 : Int32) (x2 : Int32) : Mo Int32 := bd (cv 11 a0 (f_X11_needRange a0 x1 63)) fun _ => bd (cv 11 a0 (f_X11_needRange a0 x2 63)) fun _ => pu (bc32 (x1 ^^^ x2))
set_option maxRecDepth 20000 in
theorem h_X11_unlike (g : GW) (a0 : Nat) (x1 : Int32) (x2 : Int32) : V g mX11_unlike 10 rtI 0 [(0, rf g a0), (1, .int x1), (2, .int x2)] [] (f_X11_unlike a0 x1 x2) := by
  unfold f_X11_unlike
  refine v_aload_n (pc' := 1) 0 dX11_unlike_0 rfl rfl rfl ?_
  refine v_iload_n (pc' := 2) 1 dX11_unlike_1 rfl rfl rfl ?_
  refine v_bipush (v := 63) (pc' := 4) dX11_unlike_2 rfl rfl ?_
  refine v_callV (vs := [.int x1, .int 63]) (pc' := 7) (h_X11_needRange g a0 x1 63) mv_X11_needRange wl_X11_179 rfl (Nat.le_of_ble_eq_true rfl) (by omega) (by decide) (Nat.le_of_ble_eq_true rfl) rfl dX11_unlike_4 rfl fun _ => ?_
  refine v_aload_n (pc' := 8) 0 dX11_unlike_7 rfl rfl rfl ?_
  refine v_iload_n (pc' := 9) 2 dX11_unlike_8 rfl rfl rfl ?_
  refine v_bipush (v := 63) (pc' := 11) dX11_unlike_9 rfl rfl ?_
  refine v_callV (vs := [.int x2, .int 63]) (pc' := 14) (h_X11_needRange g a0 x2 63) mv_X11_needRange wl_X11_179 rfl (Nat.le_of_ble_eq_true rfl) (by omega) (by decide) (Nat.le_of_ble_eq_true rfl) rfl dX11_unlike_11 rfl fun _ => ?_
  refine v_iload_n (pc' := 15) 1 dX11_unlike_14 rfl rfl rfl ?_
  refine v_iload_n (pc' := 16) 2 dX11_unlike_15 rfl rfl rfl ?_
  refine v_ixor (pc' := 17) dX11_unlike_16 rfl ?_
  refine v_bc32 (pc' := 20) (by omega) (tg5 54 (by decide +kernel) (by decide +kernel)) (Nat.le_of_ble_eq_true rfl) rfl dX11_unlike_17 rfl ?_
  exact v_ireturn rfl dX11_unlike_20
-- had
def f_X11_had (a0 : Nat) : Mo Int32 := bd (gR 11 7 a0) fun r1 => bd (gR 11 11 a0) fun r2 => bd (cv 6 r1 (f_X6_hadBits r1 r2 (-1))) fun v3 => pu v3
set_option maxRecDepth 20000 in
theorem h_X11_had (g : GW) (a0 : Nat) : V g mX11_had 10 rtI 0 [(0, rf g a0)] [] (f_X11_had a0) := by
  unfold f_X11_had
  refine v_aload_n (pc' := 1) 0 dX11_had_0 rfl rfl rfl ?_
  refine v_getR (pc' := 4) fl_X11_57 dX11_had_1 rfl fun r1 => ?_
  refine v_aload_n (pc' := 5) 0 dX11_had_4 rfl rfl rfl ?_
  refine v_getR (pc' := 8) fl_X11_87 dX11_had_5 rfl fun r2 => ?_
  refine v_iconst (v := -1) (pc' := 9) dX11_had_8 rfl rfl ?_
  refine v_callV (vs := [rf g r2, .int (-1)]) (pc' := 12) (h_X6_hadBits g r1 r2 (-1)) mv_X6_hadBits wl_X11_264 rfl (Nat.le_of_ble_eq_true rfl) (by omega) (by decide) (Nat.le_of_ble_eq_true rfl) rfl dX11_had_9 rfl fun v3 => ?_
  exact v_ireturn rfl dX11_had_12
-- mistaken
def f_X11_mistaken_b2 : Nat → Nat → Int32 → Mo Int32
  | 0, _, _ => fl
  | n + 1, a0, x1 => bd (gR 11 11 a0) fun r1 => bd (gI 5 4 r1) fun v2 => if (v2 ≤ x1 : Prop) then (pu (-1)) else bd (gR 11 1 a0) fun r3 => bd (gR 11 11 a0) fun r4 => bd (cv 5 r4 (f_X5_faceOn r4 x1)) fun v5 => bd (cv 2 r3 (f_X2_nearest r3 v5)) fun v6 => bd (gR 11 11 a0) fun r7 => bd (cv 5 r7 (f_X5_sitterOf r7 x1)) fun v8 => if (v6 = v8 : Prop) then ((f_X11_mistaken_b2 n) a0 (x1 + 1)) else pu x1
def f_X11_mistaken (a0 : Nat) : Mo Int32 := f_X11_mistaken_b2 NF a0 0
set_option maxRecDepth 20000 in
theorem h_X11_mistaken_b2 (g : GW) : ∀ n : Nat, ∀ a0 x1, V g mX11_mistaken 9 rtI 2 [(0, rf g a0), (1, .int x1)] [] (f_X11_mistaken_b2 n a0 x1) := by
  intro n
  induction n with
  | zero => intro a0 x1; exact V.vain
  | succ n ih =>
    intro a0 x1
    unfold f_X11_mistaken_b2
    refine v_iload_n (pc' := 3) 1 dX11_mistaken_2 rfl rfl rfl ?_
    refine v_aload_n (pc' := 4) 0 dX11_mistaken_3 rfl rfl rfl ?_
    refine v_getR (pc' := 7) fl_X11_87 dX11_mistaken_4 rfl fun r1 => ?_
    refine v_getI (pc' := 10) fl_X11_182 dX11_mistaken_7 rfl fun v2 => ?_
    refine v_icmpge (t := 47) (pc' := 13) dX11_mistaken_10 (by decide) rfl ?_ ?_
    · refine v_iconst (v := -1) (pc' := 48) dX11_mistaken_47 rfl rfl ?_
      exact v_ireturn rfl dX11_mistaken_48
    · refine v_aload_n (pc' := 14) 0 dX11_mistaken_13 rfl rfl rfl ?_
      refine v_getR (pc' := 17) fl_X11_19 dX11_mistaken_14 rfl fun r3 => ?_
      refine v_aload_n (pc' := 18) 0 dX11_mistaken_17 rfl rfl rfl ?_
      refine v_getR (pc' := 21) fl_X11_87 dX11_mistaken_18 rfl fun r4 => ?_
      refine v_iload_n (pc' := 22) 1 dX11_mistaken_21 rfl rfl rfl ?_
      refine v_callV (vs := [.int x1]) (pc' := 25) (h_X5_faceOn g r4 x1) mv_X5_faceOn wl_X11_236 rfl (Nat.le_of_ble_eq_true rfl) (by omega) (by decide) (Nat.le_of_ble_eq_true rfl) rfl dX11_mistaken_22 rfl fun v5 => ?_
      refine v_callV (vs := [.int v5]) (pc' := 28) (h_X2_nearest g r3 v5) mv_X2_nearest wl_X11_242 rfl (Nat.le_of_ble_eq_true rfl) (by omega) (by decide) (Nat.le_of_ble_eq_true rfl) rfl dX11_mistaken_25 rfl fun v6 => ?_
      refine v_aload_n (pc' := 29) 0 dX11_mistaken_28 rfl rfl rfl ?_
      refine v_getR (pc' := 32) fl_X11_87 dX11_mistaken_29 rfl fun r7 => ?_
      refine v_iload_n (pc' := 33) 1 dX11_mistaken_32 rfl rfl rfl ?_
      refine v_callV (vs := [.int x1]) (pc' := 36) (h_X5_sitterOf g r7 x1) mv_X5_sitterOf wl_X11_230 rfl (Nat.le_of_ble_eq_true rfl) (by omega) (by decide) (Nat.le_of_ble_eq_true rfl) rfl dX11_mistaken_33 rfl fun v8 => ?_
      refine v_icmpeq (t := 41) (pc' := 39) dX11_mistaken_36 (by decide) rfl ?_ ?_
      · refine v_iinc (v := x1 + 1) (lv' := [(1, .int (x1 + 1)), (0, rf g a0)]) (pc' := 44) 1 dX11_mistaken_41 rfl rfl (by decide) rfl rfl ?_
        refine v_goto (t := 2) dX11_mistaken_44 (by decide) ?_
        refine V.sub [1, 0] rfl ?_
        exact ih a0 (x1 + 1)
      · refine v_iload_n (pc' := 40) 1 dX11_mistaken_39 rfl rfl rfl ?_
        exact v_ireturn rfl dX11_mistaken_40
set_option maxRecDepth 20000 in
theorem h_X11_mistaken (g : GW) (a0 : Nat) : V g mX11_mistaken 9 rtI 0 [(0, rf g a0)] [] (f_X11_mistaken a0) := by
  unfold f_X11_mistaken
  refine v_iconst (v := 0) (pc' := 1) dX11_mistaken_0 rfl rfl ?_
  refine v_istore_n (lv' := [(1, .int 0), (0, rf g a0)]) (pc' := 2) dX11_mistaken_1 rfl (by decide) rfl rfl ?_
  refine V.sub [1, 0] rfl ?_
  exact h_X11_mistaken_b2 g NF a0 0
-- can
def f_X11_can (a0 : Nat) (x1 : Int32) : Mo Int32 := bd (cv 11 a0 (f_X11_needPerson a0 x1)) fun _ => bd (gR 11 7 a0) fun r1 => bd (gR 11 11 a0) fun r2 => bd (cv 6 r1 (f_X6_takersOf r1 r2 x1)) fun v3 => pu v3
set_option maxRecDepth 20000 in
theorem h_X11_can (g : GW) (a0 : Nat) (x1 : Int32) : V g mX11_can 13 rtI 0 [(0, rf g a0), (1, .int x1)] [] (f_X11_can a0 x1) := by
  unfold f_X11_can
  refine v_aload_n (pc' := 1) 0 dX11_can_0 rfl rfl rfl ?_
  refine v_iload_n (pc' := 2) 1 dX11_can_1 rfl rfl rfl ?_
  refine v_callV (vs := [.int x1]) (pc' := 5) (h_X11_needPerson g a0 x1) mv_X11_needPerson wl_X11_197 rfl (Nat.le_of_ble_eq_true rfl) (by omega) (by decide) (Nat.le_of_ble_eq_true rfl) rfl dX11_can_2 rfl fun _ => ?_
  refine v_aload_n (pc' := 6) 0 dX11_can_5 rfl rfl rfl ?_
  refine v_getR (pc' := 9) fl_X11_57 dX11_can_6 rfl fun r1 => ?_
  refine v_aload_n (pc' := 10) 0 dX11_can_9 rfl rfl rfl ?_
  refine v_getR (pc' := 13) fl_X11_87 dX11_can_10 rfl fun r2 => ?_
  refine v_iload_n (pc' := 14) 1 dX11_can_13 rfl rfl rfl ?_
  refine v_callV (vs := [rf g r2, .int x1]) (pc' := 17) (h_X6_takersOf g r1 r2 x1) mv_X6_takersOf wl_X11_268 rfl (Nat.le_of_ble_eq_true rfl) (by omega) (by decide) (Nat.le_of_ble_eq_true rfl) rfl dX11_can_14 rfl fun v3 => ?_
  exact v_ireturn rfl dX11_can_17
-- needBits
def f_X11_needBits_b20 (xs0 : Int32) (as1 : Nat) : Mo Unit := bd (cv 11 as1 (f_X11_needArgument as1 xs0)) fun _ => pu ()
def f_X11_needBits (a0 : Nat) (x1 : Int32) : Mo Unit := bd (gR 11 1 a0) fun r1 => bd (cv 2 r1 (f_X2_everybody r1)) fun v2 => if ((x1 &&& (v2 ^^^ (-1 : Int32))) = 0 : Prop) then (f_X11_needBits_b20 1 a0) else f_X11_needBits_b20 0 a0
set_option maxRecDepth 20000 in
theorem h_X11_needBits_b20 (g : GW) (xs0 : Int32) (as1 : Nat) : V g mX11_needBits 9 rtU 20 [] [.int xs0, rf g as1] (f_X11_needBits_b20 xs0 as1) := by
  unfold f_X11_needBits_b20
  refine v_callV (vs := [.int xs0]) (pc' := 23) (h_X11_needArgument g as1 xs0) mv_X11_needArgument wl_X11_281 rfl (Nat.le_of_ble_eq_true rfl) (by omega) (by decide) (Nat.le_of_ble_eq_true rfl) rfl dX11_needBits_20 rfl fun _ => ?_
  exact v_return rfl dX11_needBits_23
set_option maxRecDepth 20000 in
theorem h_X11_needBits (g : GW) (a0 : Nat) (x1 : Int32) : V g mX11_needBits 9 rtU 0 [(0, rf g a0), (1, .int x1)] [] (f_X11_needBits a0 x1) := by
  unfold f_X11_needBits
  refine v_aload_n (pc' := 1) 0 dX11_needBits_0 rfl rfl rfl ?_
  refine v_iload_n (pc' := 2) 1 dX11_needBits_1 rfl rfl rfl ?_
  refine v_aload_n (pc' := 3) 0 dX11_needBits_2 rfl rfl rfl ?_
  refine v_getR (pc' := 6) fl_X11_19 dX11_needBits_3 rfl fun r1 => ?_
  refine v_callV (vs := []) (pc' := 9) (h_X2_everybody g r1) mv_X2_everybody wl_X11_297 rfl (Nat.le_of_ble_eq_true rfl) (by omega) (by decide) (Nat.le_of_ble_eq_true rfl) rfl dX11_needBits_6 rfl fun v2 => ?_
  refine v_iconst (v := -1) (pc' := 10) dX11_needBits_9 rfl rfl ?_
  refine v_ixor (pc' := 11) dX11_needBits_10 rfl ?_
  refine v_iand (pc' := 12) dX11_needBits_11 rfl ?_
  refine v_ifne (t := 19) (pc' := 15) dX11_needBits_12 (by decide) rfl ?_ ?_
  · refine v_iconst (v := 0) (pc' := 20) dX11_needBits_19 rfl rfl ?_
    refine V.sub [] rfl ?_
    exact h_X11_needBits_b20 g 0 a0
  · refine v_iconst (v := 1) (pc' := 16) dX11_needBits_15 rfl rfl ?_
    refine v_goto (t := 20) dX11_needBits_16 (by decide) ?_
    refine V.sub [] rfl ?_
    exact h_X11_needBits_b20 g 1 a0
-- fewest
def f_X11_fewest (a0 : Nat) (x1 : Int32) : Mo Int32 := bd (cv 11 a0 (f_X11_needBits a0 x1)) fun _ => bd (gR 11 8 a0) fun r1 => bd (gR 11 11 a0) fun r2 => bd (cv 7 r1 (f_X7_look r1 r2)) fun _ => bd (gR 11 8 a0) fun r3 => bd (cv 7 r3 (f_X7_leastSet r3 x1 0)) fun v4 => pu v4
set_option maxRecDepth 20000 in
theorem h_X11_fewest (g : GW) (a0 : Nat) (x1 : Int32) : V g mX11_fewest 14 rtI 0 [(0, rf g a0), (1, .int x1)] [] (f_X11_fewest a0 x1) := by
  unfold f_X11_fewest
  refine v_aload_n (pc' := 1) 0 dX11_fewest_0 rfl rfl rfl ?_
  refine v_iload_n (pc' := 2) 1 dX11_fewest_1 rfl rfl rfl ?_
  refine v_callV (vs := [.int x1]) (pc' := 5) (h_X11_needBits g a0 x1) mv_X11_needBits wl_X11_271 rfl (Nat.le_of_ble_eq_true rfl) (by omega) (by decide) (Nat.le_of_ble_eq_true rfl) rfl dX11_fewest_2 rfl fun _ => ?_
  refine v_aload_n (pc' := 6) 0 dX11_fewest_5 rfl rfl rfl ?_
  refine v_getR (pc' := 9) fl_X11_66 dX11_fewest_6 rfl fun r1 => ?_
  refine v_aload_n (pc' := 10) 0 dX11_fewest_9 rfl rfl rfl ?_
  refine v_getR (pc' := 13) fl_X11_87 dX11_fewest_10 rfl fun r2 => ?_
  refine v_callV (vs := [rf g r2]) (pc' := 16) (h_X7_look g r1 r2) mv_X7_look wl_X11_274 rfl (Nat.le_of_ble_eq_true rfl) (by omega) (by decide) (Nat.le_of_ble_eq_true rfl) rfl dX11_fewest_13 rfl fun _ => ?_
  refine v_aload_n (pc' := 17) 0 dX11_fewest_16 rfl rfl rfl ?_
  refine v_getR (pc' := 20) fl_X11_66 dX11_fewest_17 rfl fun r3 => ?_
  refine v_iload_n (pc' := 21) 1 dX11_fewest_20 rfl rfl rfl ?_
  refine v_iconst (v := 0) (pc' := 22) dX11_fewest_21 rfl rfl ?_
  refine v_callV (vs := [.int x1, .int 0]) (pc' := 25) (h_X7_leastSet g r3 x1 0) mv_X7_leastSet wl_X11_277 rfl (Nat.le_of_ble_eq_true rfl) (by omega) (by decide) (Nat.le_of_ble_eq_true rfl) rfl dX11_fewest_22 rfl fun v4 => ?_
  exact v_ireturn rfl dX11_fewest_25
-- nobody
def f_X11_nobody_b44 (k7 : Nat → Int32 → Int32 → Mo Int32) (a0 : Nat) (x1 : Int32) (x2 : Int32) : Mo Int32 := k7 a0 x1 (x2 + 1)
def f_X11_nobody_b7 : Nat → Nat → Int32 → Int32 → Mo Int32
  | 0, _, _, _ => fl
  | n + 1, a0, x1, x2 => bd (gR 11 1 a0) fun r1 => bd (gI 2 4 r1) fun v2 => if (v2 ≤ x2 : Prop) then (pu (-1)) else if (((x1 >>> (x2 &&& 31)) &&& (1 : Int32)) = 1 : Prop) then (bd (gR 11 7 a0) fun r3 => bd (gR 11 11 a0) fun r4 => bd (cv 6 r3 (f_X6_takersOf r3 r4 x2)) fun v5 => if (v5 = 0 : Prop) then (pu x2) else f_X11_nobody_b44 (f_X11_nobody_b7 n) a0 x1 x2) else f_X11_nobody_b44 (f_X11_nobody_b7 n) a0 x1 x2
def f_X11_nobody (a0 : Nat) (x1 : Int32) : Mo Int32 := bd (cv 11 a0 (f_X11_needBits a0 x1)) fun _ => f_X11_nobody_b7 NF a0 x1 0
set_option maxRecDepth 20000 in
theorem h_X11_nobody_b44 (g : GW) (k7 : Nat → Int32 → Int32 → Mo Int32) (hk7 : ∀ a0 x1 x2, V g mX11_nobody 13 rtI 7 [(0, rf g a0), (1, .int x1), (2, .int x2)] [] (k7 a0 x1 x2)) (a0 : Nat) (x1 : Int32) (x2 : Int32) : V g mX11_nobody 13 rtI 44 [(0, rf g a0), (1, .int x1), (2, .int x2)] [] (f_X11_nobody_b44 k7 a0 x1 x2) := by
  unfold f_X11_nobody_b44
  refine v_iinc (v := x2 + 1) (lv' := [(2, .int (x2 + 1)), (0, rf g a0), (1, .int x1)]) (pc' := 47) 2 dX11_nobody_44 rfl rfl (by decide) rfl rfl ?_
  refine v_goto (t := 7) dX11_nobody_47 (by decide) ?_
  refine V.sub [1, 2, 0] rfl ?_
  exact hk7 a0 x1 (x2 + 1)
set_option maxRecDepth 20000 in
theorem h_X11_nobody_b7 (g : GW) : ∀ n : Nat, ∀ a0 x1 x2, V g mX11_nobody 13 rtI 7 [(0, rf g a0), (1, .int x1), (2, .int x2)] [] (f_X11_nobody_b7 n a0 x1 x2) := by
  intro n
  induction n with
  | zero => intro a0 x1 x2; exact V.vain
  | succ n ih =>
    intro a0 x1 x2
    unfold f_X11_nobody_b7
    refine v_iload_n (pc' := 8) 2 dX11_nobody_7 rfl rfl rfl ?_
    refine v_aload_n (pc' := 9) 0 dX11_nobody_8 rfl rfl rfl ?_
    refine v_getR (pc' := 12) fl_X11_19 dX11_nobody_9 rfl fun r1 => ?_
    refine v_getI (pc' := 15) fl_X11_137 dX11_nobody_12 rfl fun v2 => ?_
    refine v_icmpge (t := 50) (pc' := 18) dX11_nobody_15 (by decide) rfl ?_ ?_
    · refine v_iconst (v := -1) (pc' := 51) dX11_nobody_50 rfl rfl ?_
      exact v_ireturn rfl dX11_nobody_51
    · refine v_iload_n (pc' := 19) 1 dX11_nobody_18 rfl rfl rfl ?_
      refine v_iload_n (pc' := 20) 2 dX11_nobody_19 rfl rfl rfl ?_
      refine v_ishr (pc' := 21) dX11_nobody_20 rfl ?_
      refine v_iconst (v := 1) (pc' := 22) dX11_nobody_21 rfl rfl ?_
      refine v_iand (pc' := 23) dX11_nobody_22 rfl ?_
      refine v_iconst (v := 1) (pc' := 24) dX11_nobody_23 rfl rfl ?_
      refine v_icmpne (t := 44) (pc' := 27) dX11_nobody_24 (by decide) rfl ?_ ?_
      · refine V.sub [0, 1, 2] rfl ?_
        exact h_X11_nobody_b44 g (f_X11_nobody_b7 n) ih a0 x1 x2
      · refine v_aload_n (pc' := 28) 0 dX11_nobody_27 rfl rfl rfl ?_
        refine v_getR (pc' := 31) fl_X11_57 dX11_nobody_28 rfl fun r3 => ?_
        refine v_aload_n (pc' := 32) 0 dX11_nobody_31 rfl rfl rfl ?_
        refine v_getR (pc' := 35) fl_X11_87 dX11_nobody_32 rfl fun r4 => ?_
        refine v_iload_n (pc' := 36) 2 dX11_nobody_35 rfl rfl rfl ?_
        refine v_callV (vs := [rf g r4, .int x2]) (pc' := 39) (h_X6_takersOf g r3 r4 x2) mv_X6_takersOf wl_X11_268 rfl (Nat.le_of_ble_eq_true rfl) (by omega) (by decide) (Nat.le_of_ble_eq_true rfl) rfl dX11_nobody_36 rfl fun v5 => ?_
        refine v_ifne (t := 44) (pc' := 42) dX11_nobody_39 (by decide) rfl ?_ ?_
        · refine V.sub [0, 1, 2] rfl ?_
          exact h_X11_nobody_b44 g (f_X11_nobody_b7 n) ih a0 x1 x2
        · refine v_iload_n (pc' := 43) 2 dX11_nobody_42 rfl rfl rfl ?_
          exact v_ireturn rfl dX11_nobody_43
set_option maxRecDepth 20000 in
theorem h_X11_nobody (g : GW) (a0 : Nat) (x1 : Int32) : V g mX11_nobody 13 rtI 0 [(0, rf g a0), (1, .int x1)] [] (f_X11_nobody a0 x1) := by
  unfold f_X11_nobody
  refine v_aload_n (pc' := 1) 0 dX11_nobody_0 rfl rfl rfl ?_
  refine v_iload_n (pc' := 2) 1 dX11_nobody_1 rfl rfl rfl ?_
  refine v_callV (vs := [.int x1]) (pc' := 5) (h_X11_needBits g a0 x1) mv_X11_needBits wl_X11_271 rfl (Nat.le_of_ble_eq_true rfl) (by omega) (by decide) (Nat.le_of_ble_eq_true rfl) rfl dX11_nobody_2 rfl fun _ => ?_
  refine v_iconst (v := 0) (pc' := 6) dX11_nobody_5 rfl rfl ?_
  refine v_istore_n (lv' := [(2, .int 0), (0, rf g a0), (1, .int x1)]) (pc' := 7) dX11_nobody_6 rfl (by decide) rfl rfl ?_
  refine V.sub [1, 2, 0] rfl ?_
  exact h_X11_nobody_b7 g NF a0 x1 0
-- ring
def f_X11_ring_b16 (a0 : Nat) (x1 : Int32) (x2 : Int32) (xs0 : Int32) (as1 : Nat) : Mo Int32 := bd (cv 11 as1 (f_X11_needArgument as1 xs0)) fun _ => bd (cv 11 a0 (f_X11_needRange a0 x2 1)) fun _ => bd (gR 11 8 a0) fun r1 => bd (gR 11 11 a0) fun r2 => bd (cv 7 r1 (f_X7_look r1 r2)) fun _ => bd (gR 11 8 a0) fun r3 => bd (cv 7 r3 (f_X7_seekRings r3 x1)) fun _ => if (x2 = 0 : Prop) then (bd (gR 11 8 a0) fun r6 => bd (gI 7 4 r6) fun v7 => pu v7) else bd (gR 11 8 a0) fun r4 => bd (gI 7 5 r4) fun v5 => pu v5
def f_X11_ring_b15 (a0 : Nat) (x1 : Int32) (x2 : Int32) (as0 : Nat) : Mo Int32 := f_X11_ring_b16 a0 x1 x2 0 as0
def f_X11_ring (a0 : Nat) (x1 : Int32) (x2 : Int32) : Mo Int32 := if (x1 < 2 : Prop) then (f_X11_ring_b15 a0 x1 x2 a0) else if (5 < x1 : Prop) then (f_X11_ring_b15 a0 x1 x2 a0) else f_X11_ring_b16 a0 x1 x2 1 a0
set_option maxRecDepth 20000 in
theorem h_X11_ring_b16 (g : GW) (a0 : Nat) (x1 : Int32) (x2 : Int32) (xs0 : Int32) (as1 : Nat) : V g mX11_ring 22 rtI 16 [(0, rf g a0), (1, .int x1), (2, .int x2)] [.int xs0, rf g as1] (f_X11_ring_b16 a0 x1 x2 xs0 as1) := by
  unfold f_X11_ring_b16
  refine v_callV (vs := [.int xs0]) (pc' := 19) (h_X11_needArgument g as1 xs0) mv_X11_needArgument wl_X11_281 rfl (Nat.le_of_ble_eq_true rfl) (by omega) (by decide) (Nat.le_of_ble_eq_true rfl) rfl dX11_ring_16 rfl fun _ => ?_
  refine v_aload_n (pc' := 20) 0 dX11_ring_19 rfl rfl rfl ?_
  refine v_iload_n (pc' := 21) 2 dX11_ring_20 rfl rfl rfl ?_
  refine v_iconst (v := 1) (pc' := 22) dX11_ring_21 rfl rfl ?_
  refine v_callV (vs := [.int x2, .int 1]) (pc' := 25) (h_X11_needRange g a0 x2 1) mv_X11_needRange wl_X11_179 rfl (Nat.le_of_ble_eq_true rfl) (by omega) (by decide) (Nat.le_of_ble_eq_true rfl) rfl dX11_ring_22 rfl fun _ => ?_
  refine v_aload_n (pc' := 26) 0 dX11_ring_25 rfl rfl rfl ?_
  refine v_getR (pc' := 29) fl_X11_66 dX11_ring_26 rfl fun r1 => ?_
  refine v_aload_n (pc' := 30) 0 dX11_ring_29 rfl rfl rfl ?_
  refine v_getR (pc' := 33) fl_X11_87 dX11_ring_30 rfl fun r2 => ?_
  refine v_callV (vs := [rf g r2]) (pc' := 36) (h_X7_look g r1 r2) mv_X7_look wl_X11_274 rfl (Nat.le_of_ble_eq_true rfl) (by omega) (by decide) (Nat.le_of_ble_eq_true rfl) rfl dX11_ring_33 rfl fun _ => ?_
  refine v_aload_n (pc' := 37) 0 dX11_ring_36 rfl rfl rfl ?_
  refine v_getR (pc' := 40) fl_X11_66 dX11_ring_37 rfl fun r3 => ?_
  refine v_iload_n (pc' := 41) 1 dX11_ring_40 rfl rfl rfl ?_
  refine v_callV (vs := [.int x1]) (pc' := 44) (h_X7_seekRings g r3 x1) mv_X7_seekRings wl_X11_284 rfl (Nat.le_of_ble_eq_true rfl) (by omega) (by decide) (Nat.le_of_ble_eq_true rfl) rfl dX11_ring_41 rfl fun _ => ?_
  refine v_iload_n (pc' := 45) 2 dX11_ring_44 rfl rfl rfl ?_
  refine v_ifne (t := 58) (pc' := 48) dX11_ring_45 (by decide) rfl ?_ ?_
  · refine v_aload_n (pc' := 59) 0 dX11_ring_58 rfl rfl rfl ?_
    refine v_getR (pc' := 62) fl_X11_66 dX11_ring_59 rfl fun r4 => ?_
    refine v_getI (pc' := 65) fl_X11_290 dX11_ring_62 rfl fun v5 => ?_
    exact v_ireturn rfl dX11_ring_65
  · refine v_aload_n (pc' := 49) 0 dX11_ring_48 rfl rfl rfl ?_
    refine v_getR (pc' := 52) fl_X11_66 dX11_ring_49 rfl fun r6 => ?_
    refine v_getI (pc' := 55) fl_X11_287 dX11_ring_52 rfl fun v7 => ?_
    refine v_goto (t := 65) dX11_ring_55 (by decide) ?_
    exact v_ireturn rfl dX11_ring_65
set_option maxRecDepth 20000 in
theorem h_X11_ring_b15 (g : GW) (a0 : Nat) (x1 : Int32) (x2 : Int32) (as0 : Nat) : V g mX11_ring 22 rtI 15 [(0, rf g a0), (1, .int x1), (2, .int x2)] [rf g as0] (f_X11_ring_b15 a0 x1 x2 as0) := by
  unfold f_X11_ring_b15
  refine v_iconst (v := 0) (pc' := 16) dX11_ring_15 rfl rfl ?_
  refine V.sub [0, 1, 2] rfl ?_
  exact h_X11_ring_b16 g a0 x1 x2 0 as0
set_option maxRecDepth 20000 in
theorem h_X11_ring (g : GW) (a0 : Nat) (x1 : Int32) (x2 : Int32) : V g mX11_ring 22 rtI 0 [(0, rf g a0), (1, .int x1), (2, .int x2)] [] (f_X11_ring a0 x1 x2) := by
  unfold f_X11_ring
  refine v_aload_n (pc' := 1) 0 dX11_ring_0 rfl rfl rfl ?_
  refine v_iload_n (pc' := 2) 1 dX11_ring_1 rfl rfl rfl ?_
  refine v_iconst (v := 2) (pc' := 3) dX11_ring_2 rfl rfl ?_
  refine v_icmplt (t := 15) (pc' := 6) dX11_ring_3 (by decide) rfl ?_ ?_
  · refine V.sub [0, 1, 2] rfl ?_
    exact h_X11_ring_b15 g a0 x1 x2 a0
  · refine v_iload_n (pc' := 7) 1 dX11_ring_6 rfl rfl rfl ?_
    refine v_iconst (v := 5) (pc' := 8) dX11_ring_7 rfl rfl ?_
    refine v_icmpgt (t := 15) (pc' := 11) dX11_ring_8 (by decide) rfl ?_ ?_
    · refine V.sub [0, 1, 2] rfl ?_
      exact h_X11_ring_b15 g a0 x1 x2 a0
    · refine v_iconst (v := 1) (pc' := 12) dX11_ring_11 rfl rfl ?_
      refine v_goto (t := 16) dX11_ring_12 (by decide) ?_
      refine V.sub [0, 1, 2] rfl ?_
      exact h_X11_ring_b16 g a0 x1 x2 1 a0
-- who
def f_X11_who_b78 (k17 : Nat → Int32 → Int32 → Int32 → Int32 → Mo Int32) (a0 : Nat) (x1 : Int32) (x2 : Int32) (x3 : Int32) (x4 : Int32) : Mo Int32 := k17 a0 x1 x2 x3 (x4 + 1)
def f_X11_who_b17 : Nat → Nat → Int32 → Int32 → Int32 → Int32 → Mo Int32
  | 0, _, _, _, _, _ => fl
  | n + 1, a0, x1, x2, x3, x4 => bd (gR 11 1 a0) fun r1 => bd (gI 2 4 r1) fun v2 => if (v2 ≤ x4 : Prop) then (pu x3) else bd (gR 11 1 a0) fun r3 => bd (cv 2 r3 (f_X2_never r3 x4 x2)) fun v4 => if (v4 = 0 : Prop) then (bd (gR 11 7 a0) fun r5 => bd (gR 11 11 a0) fun r6 => bd (gR 11 11 a0) fun r7 => bd (gR 5 0 r7) fun r8 => bd (al 0 r8 x4) fun v9 => bd (cv 6 r5 (f_X6_faceBy r5 r6 x4 x2 0 v9)) fun v10 => if (v10 = x1 : Prop) then (f_X11_who_b78 (f_X11_who_b17 n) a0 x1 x2 (x3 ||| ((1 : Int32) <<< (x4 &&& 31))) x4) else f_X11_who_b78 (f_X11_who_b17 n) a0 x1 x2 x3 x4) else f_X11_who_b78 (f_X11_who_b17 n) a0 x1 x2 x3 x4
def f_X11_who (a0 : Nat) (x1 : Int32) (x2 : Int32) : Mo Int32 := bd (cv 11 a0 (f_X11_needPerson a0 x2)) fun _ => bd (cv 11 a0 (f_X11_needRange a0 x1 63)) fun _ => f_X11_who_b17 NF a0 x1 x2 0 0
set_option maxRecDepth 20000 in
theorem h_X11_who_b78 (g : GW) (k17 : Nat → Int32 → Int32 → Int32 → Int32 → Mo Int32) (hk17 : ∀ a0 x1 x2 x3 x4, V g mX11_who 11 rtI 17 [(0, rf g a0), (1, .int x1), (2, .int x2), (3, .int x3), (4, .int x4)] [] (k17 a0 x1 x2 x3 x4)) (a0 : Nat) (x1 : Int32) (x2 : Int32) (x3 : Int32) (x4 : Int32) : V g mX11_who 11 rtI 78 [(0, rf g a0), (1, .int x1), (2, .int x2), (3, .int x3), (4, .int x4)] [] (f_X11_who_b78 k17 a0 x1 x2 x3 x4) := by
  unfold f_X11_who_b78
  refine v_iinc (v := x4 + 1) (lv' := [(4, .int (x4 + 1)), (0, rf g a0), (1, .int x1), (2, .int x2), (3, .int x3)]) (pc' := 81) 4 dX11_who_78 rfl rfl (by decide) rfl rfl ?_
  refine v_goto (t := 17) dX11_who_81 (by decide) ?_
  refine V.sub [1, 2, 3, 4, 0] rfl ?_
  exact hk17 a0 x1 x2 x3 (x4 + 1)
set_option maxRecDepth 20000 in
theorem h_X11_who_b17 (g : GW) : ∀ n : Nat, ∀ a0 x1 x2 x3 x4, V g mX11_who 11 rtI 17 [(0, rf g a0), (1, .int x1), (2, .int x2), (3, .int x3), (4, .int x4)] [] (f_X11_who_b17 n a0 x1 x2 x3 x4) := by
  intro n
  induction n with
  | zero => intro a0 x1 x2 x3 x4; exact V.vain
  | succ n ih =>
    intro a0 x1 x2 x3 x4
    unfold f_X11_who_b17
    refine v_iload (pc' := 19) 4 dX11_who_17 rfl rfl ?_
    refine v_aload_n (pc' := 20) 0 dX11_who_19 rfl rfl rfl ?_
    refine v_getR (pc' := 23) fl_X11_19 dX11_who_20 rfl fun r1 => ?_
    refine v_getI (pc' := 26) fl_X11_137 dX11_who_23 rfl fun v2 => ?_
    refine v_icmpge (t := 84) (pc' := 29) dX11_who_26 (by decide) rfl ?_ ?_
    · refine v_iload_n (pc' := 85) 3 dX11_who_84 rfl rfl rfl ?_
      exact v_ireturn rfl dX11_who_85
    · refine v_aload_n (pc' := 30) 0 dX11_who_29 rfl rfl rfl ?_
      refine v_getR (pc' := 33) fl_X11_19 dX11_who_30 rfl fun r3 => ?_
      refine v_iload (pc' := 35) 4 dX11_who_33 rfl rfl ?_
      refine v_iload_n (pc' := 36) 2 dX11_who_35 rfl rfl rfl ?_
      refine v_callV (vs := [.int x4, .int x2]) (pc' := 39) (h_X2_never g r3 x4 x2) mv_X2_never wl_X11_293 rfl (Nat.le_of_ble_eq_true rfl) (by omega) (by decide) (Nat.le_of_ble_eq_true rfl) rfl dX11_who_36 rfl fun v4 => ?_
      refine v_ifne (t := 78) (pc' := 42) dX11_who_39 (by decide) rfl ?_ ?_
      · refine V.sub [0, 1, 2, 3, 4] rfl ?_
        exact h_X11_who_b78 g (f_X11_who_b17 n) ih a0 x1 x2 x3 x4
      · refine v_aload_n (pc' := 43) 0 dX11_who_42 rfl rfl rfl ?_
        refine v_getR (pc' := 46) fl_X11_57 dX11_who_43 rfl fun r5 => ?_
        refine v_aload_n (pc' := 47) 0 dX11_who_46 rfl rfl rfl ?_
        refine v_getR (pc' := 50) fl_X11_87 dX11_who_47 rfl fun r6 => ?_
        refine v_iload (pc' := 52) 4 dX11_who_50 rfl rfl ?_
        refine v_iload_n (pc' := 53) 2 dX11_who_52 rfl rfl rfl ?_
        refine v_iconst (v := 0) (pc' := 54) dX11_who_53 rfl rfl ?_
        refine v_aload_n (pc' := 55) 0 dX11_who_54 rfl rfl rfl ?_
        refine v_getR (pc' := 58) fl_X11_87 dX11_who_55 rfl fun r7 => ?_
        refine v_getR (pc' := 61) fl_X11_210 dX11_who_58 rfl fun r8 => ?_
        refine v_iload (pc' := 63) 4 dX11_who_61 rfl rfl ?_
        refine v_iald (pc' := 64) dX11_who_63 rfl fun v9 => ?_
        refine v_callV (vs := [rf g r6, .int x4, .int x2, .int 0, .int v9]) (pc' := 67) (h_X6_faceBy g r5 r6 x4 x2 0 v9) mv_X6_faceBy wl_X11_248 rfl (Nat.le_of_ble_eq_true rfl) (by omega) (by decide) (Nat.le_of_ble_eq_true rfl) rfl dX11_who_64 rfl fun v10 => ?_
        refine v_iload_n (pc' := 68) 1 dX11_who_67 rfl rfl rfl ?_
        refine v_icmpne (t := 78) (pc' := 71) dX11_who_68 (by decide) rfl ?_ ?_
        · refine V.sub [0, 1, 2, 3, 4] rfl ?_
          exact h_X11_who_b78 g (f_X11_who_b17 n) ih a0 x1 x2 x3 x4
        · refine v_iload_n (pc' := 72) 3 dX11_who_71 rfl rfl rfl ?_
          refine v_iconst (v := 1) (pc' := 73) dX11_who_72 rfl rfl ?_
          refine v_iload (pc' := 75) 4 dX11_who_73 rfl rfl ?_
          refine v_ishl (pc' := 76) dX11_who_75 rfl ?_
          refine v_ior (pc' := 77) dX11_who_76 rfl ?_
          refine v_istore_n (lv' := [(3, .int (x3 ||| ((1 : Int32) <<< (x4 &&& 31)))), (0, rf g a0), (1, .int x1), (2, .int x2), (4, .int x4)]) (pc' := 78) dX11_who_77 rfl (by decide) rfl rfl ?_
          refine V.sub [1, 2, 3, 0, 4] rfl ?_
          exact h_X11_who_b78 g (f_X11_who_b17 n) ih a0 x1 x2 (x3 ||| ((1 : Int32) <<< (x4 &&& 31))) x4
set_option maxRecDepth 20000 in
theorem h_X11_who (g : GW) (a0 : Nat) (x1 : Int32) (x2 : Int32) : V g mX11_who 11 rtI 0 [(0, rf g a0), (1, .int x1), (2, .int x2)] [] (f_X11_who a0 x1 x2) := by
  unfold f_X11_who
  refine v_aload_n (pc' := 1) 0 dX11_who_0 rfl rfl rfl ?_
  refine v_iload_n (pc' := 2) 2 dX11_who_1 rfl rfl rfl ?_
  refine v_callV (vs := [.int x2]) (pc' := 5) (h_X11_needPerson g a0 x2) mv_X11_needPerson wl_X11_197 rfl (Nat.le_of_ble_eq_true rfl) (by omega) (by decide) (Nat.le_of_ble_eq_true rfl) rfl dX11_who_2 rfl fun _ => ?_
  refine v_aload_n (pc' := 6) 0 dX11_who_5 rfl rfl rfl ?_
  refine v_iload_n (pc' := 7) 1 dX11_who_6 rfl rfl rfl ?_
  refine v_bipush (v := 63) (pc' := 9) dX11_who_7 rfl rfl ?_
  refine v_callV (vs := [.int x1, .int 63]) (pc' := 12) (h_X11_needRange g a0 x1 63) mv_X11_needRange wl_X11_179 rfl (Nat.le_of_ble_eq_true rfl) (by omega) (by decide) (Nat.le_of_ble_eq_true rfl) rfl dX11_who_9 rfl fun _ => ?_
  refine v_iconst (v := 0) (pc' := 13) dX11_who_12 rfl rfl ?_
  refine v_istore_n (lv' := [(3, .int 0), (0, rf g a0), (1, .int x1), (2, .int x2)]) (pc' := 14) dX11_who_13 rfl (by decide) rfl rfl ?_
  refine v_iconst (v := 0) (pc' := 15) dX11_who_14 rfl rfl ?_
  refine v_istore (lv' := [(4, .int 0), (3, .int 0), (0, rf g a0), (1, .int x1), (2, .int x2)]) (pc' := 17) dX11_who_15 (by decide) rfl rfl ?_
  refine V.sub [2, 3, 4, 1, 0] rfl ?_
  exact h_X11_who_b17 g NF a0 x1 x2 0 0
-- made
def f_X11_made_b58 (k15 : Nat → Int32 → Int32 → Int32 → Int32 → Mo Int32) (a0 : Nat) (x1 : Int32) (x2 : Int32) (x3 : Int32) (x4 : Int32) : Mo Int32 := k15 a0 x1 x2 x3 (x4 + 1)
def f_X11_made_b15 : Nat → Nat → Int32 → Int32 → Int32 → Int32 → Mo Int32
  | 0, _, _, _, _, _ => fl
  | n + 1, a0, x1, x2, x3, x4 => bd (gR 11 1 a0) fun r1 => bd (cv 2 r1 (f_X2_everybody r1)) fun v2 => if (v2 < x4 : Prop) then (pu x2) else if (x3 ≤ (bc32 x4) : Prop) then (f_X11_made_b58 (f_X11_made_b15 n) a0 x1 x2 x3 x4) else bd (gR 11 1 a0) fun r3 => bd (cv 2 r3 (f_X2_together r3 x4)) fun v4 => if (v4 = x1 : Prop) then (f_X11_made_b58 (f_X11_made_b15 n) a0 x1 x4 (bc32 x4) x4) else f_X11_made_b58 (f_X11_made_b15 n) a0 x1 x2 x3 x4
def f_X11_made (a0 : Nat) (x1 : Int32) : Mo Int32 := bd (cv 11 a0 (f_X11_needRange a0 x1 63)) fun _ => f_X11_made_b15 NF a0 x1 (-1) 9 0
set_option maxRecDepth 20000 in
theorem h_X11_made_b58 (g : GW) (k15 : Nat → Int32 → Int32 → Int32 → Int32 → Mo Int32) (hk15 : ∀ a0 x1 x2 x3 x4, V g mX11_made 10 rtI 15 [(0, rf g a0), (1, .int x1), (2, .int x2), (3, .int x3), (4, .int x4)] [] (k15 a0 x1 x2 x3 x4)) (a0 : Nat) (x1 : Int32) (x2 : Int32) (x3 : Int32) (x4 : Int32) : V g mX11_made 10 rtI 58 [(0, rf g a0), (1, .int x1), (2, .int x2), (3, .int x3), (4, .int x4)] [] (f_X11_made_b58 k15 a0 x1 x2 x3 x4) := by
  unfold f_X11_made_b58
  refine v_iinc (v := x4 + 1) (lv' := [(4, .int (x4 + 1)), (0, rf g a0), (1, .int x1), (2, .int x2), (3, .int x3)]) (pc' := 61) 4 dX11_made_58 rfl rfl (by decide) rfl rfl ?_
  refine v_goto (t := 15) dX11_made_61 (by decide) ?_
  refine V.sub [1, 2, 3, 4, 0] rfl ?_
  exact hk15 a0 x1 x2 x3 (x4 + 1)
set_option maxRecDepth 20000 in
theorem h_X11_made_b15 (g : GW) : ∀ n : Nat, ∀ a0 x1 x2 x3 x4, V g mX11_made 10 rtI 15 [(0, rf g a0), (1, .int x1), (2, .int x2), (3, .int x3), (4, .int x4)] [] (f_X11_made_b15 n a0 x1 x2 x3 x4) := by
  intro n
  induction n with
  | zero => intro a0 x1 x2 x3 x4; exact V.vain
  | succ n ih =>
    intro a0 x1 x2 x3 x4
    unfold f_X11_made_b15
    refine v_iload (pc' := 17) 4 dX11_made_15 rfl rfl ?_
    refine v_aload_n (pc' := 18) 0 dX11_made_17 rfl rfl rfl ?_
    refine v_getR (pc' := 21) fl_X11_19 dX11_made_18 rfl fun r1 => ?_
    refine v_callV (vs := []) (pc' := 24) (h_X2_everybody g r1) mv_X2_everybody wl_X11_297 rfl (Nat.le_of_ble_eq_true rfl) (by omega) (by decide) (Nat.le_of_ble_eq_true rfl) rfl dX11_made_21 rfl fun v2 => ?_
    refine v_icmpgt (t := 64) (pc' := 27) dX11_made_24 (by decide) rfl ?_ ?_
    · refine v_iload_n (pc' := 65) 2 dX11_made_64 rfl rfl rfl ?_
      exact v_ireturn rfl dX11_made_65
    · refine v_iload (pc' := 29) 4 dX11_made_27 rfl rfl ?_
      refine v_bc32 (pc' := 32) (by omega) (tg5 54 (by decide +kernel) (by decide +kernel)) (Nat.le_of_ble_eq_true rfl) rfl dX11_made_29 rfl ?_
      refine v_iload_n (pc' := 33) 3 dX11_made_32 rfl rfl rfl ?_
      refine v_icmpge (t := 58) (pc' := 36) dX11_made_33 (by decide) rfl ?_ ?_
      · refine V.sub [0, 1, 2, 3, 4] rfl ?_
        exact h_X11_made_b58 g (f_X11_made_b15 n) ih a0 x1 x2 x3 x4
      · refine v_aload_n (pc' := 37) 0 dX11_made_36 rfl rfl rfl ?_
        refine v_getR (pc' := 40) fl_X11_19 dX11_made_37 rfl fun r3 => ?_
        refine v_iload (pc' := 42) 4 dX11_made_40 rfl rfl ?_
        refine v_callV (vs := [.int x4]) (pc' := 45) (h_X2_together g r3 x4) mv_X2_together wl_X11_300 rfl (Nat.le_of_ble_eq_true rfl) (by omega) (by decide) (Nat.le_of_ble_eq_true rfl) rfl dX11_made_42 rfl fun v4 => ?_
        refine v_iload_n (pc' := 46) 1 dX11_made_45 rfl rfl rfl ?_
        refine v_icmpne (t := 58) (pc' := 49) dX11_made_46 (by decide) rfl ?_ ?_
        · refine V.sub [0, 1, 2, 3, 4] rfl ?_
          exact h_X11_made_b58 g (f_X11_made_b15 n) ih a0 x1 x2 x3 x4
        · refine v_iload (pc' := 51) 4 dX11_made_49 rfl rfl ?_
          refine v_istore_n (lv' := [(2, .int x4), (0, rf g a0), (1, .int x1), (3, .int x3), (4, .int x4)]) (pc' := 52) dX11_made_51 rfl (by decide) rfl rfl ?_
          refine v_iload (pc' := 54) 4 dX11_made_52 rfl rfl ?_
          refine v_bc32 (pc' := 57) (by omega) (tg5 54 (by decide +kernel) (by decide +kernel)) (Nat.le_of_ble_eq_true rfl) rfl dX11_made_54 rfl ?_
          refine v_istore_n (lv' := [(3, .int (bc32 x4)), (2, .int x4), (0, rf g a0), (1, .int x1), (4, .int x4)]) (pc' := 58) dX11_made_57 rfl (by decide) rfl rfl ?_
          refine V.sub [2, 3, 1, 0, 4] rfl ?_
          exact h_X11_made_b58 g (f_X11_made_b15 n) ih a0 x1 x4 (bc32 x4) x4
set_option maxRecDepth 20000 in
theorem h_X11_made (g : GW) (a0 : Nat) (x1 : Int32) : V g mX11_made 10 rtI 0 [(0, rf g a0), (1, .int x1)] [] (f_X11_made a0 x1) := by
  unfold f_X11_made
  refine v_aload_n (pc' := 1) 0 dX11_made_0 rfl rfl rfl ?_
  refine v_iload_n (pc' := 2) 1 dX11_made_1 rfl rfl rfl ?_
  refine v_bipush (v := 63) (pc' := 4) dX11_made_2 rfl rfl ?_
  refine v_callV (vs := [.int x1, .int 63]) (pc' := 7) (h_X11_needRange g a0 x1 63) mv_X11_needRange wl_X11_179 rfl (Nat.le_of_ble_eq_true rfl) (by omega) (by decide) (Nat.le_of_ble_eq_true rfl) rfl dX11_made_4 rfl fun _ => ?_
  refine v_iconst (v := -1) (pc' := 8) dX11_made_7 rfl rfl ?_
  refine v_istore_n (lv' := [(2, .int (-1)), (0, rf g a0), (1, .int x1)]) (pc' := 9) dX11_made_8 rfl (by decide) rfl rfl ?_
  refine v_bipush (v := 9) (pc' := 11) dX11_made_9 rfl rfl ?_
  refine v_istore_n (lv' := [(3, .int 9), (2, .int (-1)), (0, rf g a0), (1, .int x1)]) (pc' := 12) dX11_made_11 rfl (by decide) rfl rfl ?_
  refine v_iconst (v := 0) (pc' := 13) dX11_made_12 rfl rfl ?_
  refine v_istore (lv' := [(4, .int 0), (3, .int 9), (2, .int (-1)), (0, rf g a0), (1, .int x1)]) (pc' := 15) dX11_made_13 (by decide) rfl rfl ?_
  refine V.sub [3, 4, 2, 1, 0] rfl ?_
  exact h_X11_made_b15 g NF a0 x1 (-1) 9 0
-- unknown
def f_X11_unknown (a0 : Nat) (x1 : Int32) : Mo Int32 := bd (cv 11 a0 (f_X11_needRange a0 x1 3)) fun _ => sw x1 0 [(bd (gR 11 6 a0) fun r1 => bd (gJ 1 5 r1) fun w2 => pu (bc64 w2)), (bd (gR 11 6 a0) fun r3 => bd (cv 1 r3 (f_X1_leastFace r3)) fun v4 => pu v4), (bd (gR 11 6 a0) fun r5 => bd (cv 1 r5 (f_X1_sureMarks r5 0)) fun v6 => pu v6)] (bd (gR 11 6 a0) fun r7 => bd (cv 1 r7 (f_X1_sureMarks r7 1)) fun v8 => pu v8)
set_option maxRecDepth 20000 in
theorem h_X11_unknown (g : GW) (a0 : Nat) (x1 : Int32) : V g mX11_unknown 10 rtI 0 [(0, rf g a0), (1, .int x1)] [] (f_X11_unknown a0 x1) := by
  unfold f_X11_unknown
  refine v_aload_n (pc' := 1) 0 dX11_unknown_0 rfl rfl rfl ?_
  refine v_iload_n (pc' := 2) 1 dX11_unknown_1 rfl rfl rfl ?_
  refine v_iconst (v := 3) (pc' := 3) dX11_unknown_2 rfl rfl ?_
  refine v_callV (vs := [.int x1, .int 3]) (pc' := 6) (h_X11_needRange g a0 x1 3) mv_X11_needRange wl_X11_179 rfl (Nat.le_of_ble_eq_true rfl) (by omega) (by decide) (Nat.le_of_ble_eq_true rfl) rfl dX11_unknown_3 rfl fun _ => ?_
  refine v_iload_n (pc' := 7) 1 dX11_unknown_6 rfl rfl rfl ?_
  refine v_table (td := 60) dX11_unknown_7 rfl (by decide) ⟨⟨32, by decide, ?_⟩, ⟨43, by decide, ?_⟩, ⟨51, by decide, ?_⟩, trivial⟩ ?_
  · refine v_aload_n (pc' := 33) 0 dX11_unknown_32 rfl rfl rfl ?_
    refine v_getR (pc' := 36) fl_X11_48 dX11_unknown_33 rfl fun r1 => ?_
    refine v_getJ (pc' := 39) fl_X11_303 dX11_unknown_36 rfl fun w2 => ?_
    refine v_bc64 (pc' := 42) (by omega) (tg5 161 (by decide +kernel) (by decide +kernel)) (Nat.le_of_ble_eq_true rfl) rfl dX11_unknown_39 rfl ?_
    exact v_ireturn rfl dX11_unknown_42
  · refine v_aload_n (pc' := 44) 0 dX11_unknown_43 rfl rfl rfl ?_
    refine v_getR (pc' := 47) fl_X11_48 dX11_unknown_44 rfl fun r3 => ?_
    refine v_callV (vs := []) (pc' := 50) (h_X1_leastFace g r3) mv_X1_leastFace wl_X11_312 rfl (Nat.le_of_ble_eq_true rfl) (by omega) (by decide) (Nat.le_of_ble_eq_true rfl) rfl dX11_unknown_47 rfl fun v4 => ?_
    exact v_ireturn rfl dX11_unknown_50
  · refine v_aload_n (pc' := 52) 0 dX11_unknown_51 rfl rfl rfl ?_
    refine v_getR (pc' := 55) fl_X11_48 dX11_unknown_52 rfl fun r5 => ?_
    refine v_iconst (v := 0) (pc' := 56) dX11_unknown_55 rfl rfl ?_
    refine v_callV (vs := [.int 0]) (pc' := 59) (h_X1_sureMarks g r5 0) mv_X1_sureMarks wl_X11_315 rfl (Nat.le_of_ble_eq_true rfl) (by omega) (by decide) (Nat.le_of_ble_eq_true rfl) rfl dX11_unknown_56 rfl fun v6 => ?_
    exact v_ireturn rfl dX11_unknown_59
  · refine v_aload_n (pc' := 61) 0 dX11_unknown_60 rfl rfl rfl ?_
    refine v_getR (pc' := 64) fl_X11_48 dX11_unknown_61 rfl fun r7 => ?_
    refine v_iconst (v := 1) (pc' := 65) dX11_unknown_64 rfl rfl ?_
    refine v_callV (vs := [.int 1]) (pc' := 68) (h_X1_sureMarks g r7 1) mv_X1_sureMarks wl_X11_315 rfl (Nat.le_of_ble_eq_true rfl) (by omega) (by decide) (Nat.le_of_ble_eq_true rfl) rfl dX11_unknown_65 rfl fun v8 => ?_
    exact v_ireturn rfl dX11_unknown_68
-- hold
def f_X11_hold_b67 (k13 : Nat → Int32 → Int32 → Int32 → Int32 → Mo Int32) (a0 : Nat) (x1 : Int32) (x2 : Int32) (x3 : Int32) (x4 : Int32) : Mo Int32 := k13 a0 x1 x2 x3 (x4 + 1)
def f_X11_hold_b61 (k13 : Nat → Int32 → Int32 → Int32 → Int32 → Mo Int32) (a0 : Nat) (x1 : Int32) (x4 : Int32) (x5 : Int32) : Mo Int32 := f_X11_hold_b67 k13 a0 x1 x4 x5 x4
def f_X11_hold_b13 : Nat → Nat → Int32 → Int32 → Int32 → Int32 → Mo Int32
  | 0, _, _, _, _, _ => fl
  | n + 1, a0, x1, x2, x3, x4 => bd (gR 11 1 a0) fun r1 => bd (gI 2 4 r1) fun v2 => if (v2 ≤ x4 : Prop) then (if (x1 = 0 : Prop) then (pu x2) else pu x3) else bd (gR 11 6 a0) fun r3 => bd (gR 1 1 r3) fun r4 => bd (al 0 r4 x4) fun v5 => if (v5 = (-1) : Prop) then (bd (gR 11 6 a0) fun r6 => bd (cv 1 r6 (f_X1_worstBy r6 x4)) fun v7 => if (x2 = (-1) : Prop) then (f_X11_hold_b61 (f_X11_hold_b13 n) a0 x1 x4 v7) else if (x3 ≤ v7 : Prop) then (f_X11_hold_b67 (f_X11_hold_b13 n) a0 x1 x2 x3 x4) else f_X11_hold_b61 (f_X11_hold_b13 n) a0 x1 x4 v7) else f_X11_hold_b67 (f_X11_hold_b13 n) a0 x1 x2 x3 x4
def f_X11_hold (a0 : Nat) (x1 : Int32) : Mo Int32 := bd (cv 11 a0 (f_X11_needRange a0 x1 1)) fun _ => f_X11_hold_b13 NF a0 x1 (-1) (-1) 0
set_option maxRecDepth 20000 in
theorem h_X11_hold_b67 (g : GW) (k13 : Nat → Int32 → Int32 → Int32 → Int32 → Mo Int32) (hk13 : ∀ a0 x1 x2 x3 x4, V g mX11_hold 10 rtI 13 [(0, rf g a0), (1, .int x1), (2, .int x2), (3, .int x3), (4, .int x4)] [] (k13 a0 x1 x2 x3 x4)) (a0 : Nat) (x1 : Int32) (x2 : Int32) (x3 : Int32) (x4 : Int32) : V g mX11_hold 10 rtI 67 [(0, rf g a0), (1, .int x1), (2, .int x2), (3, .int x3), (4, .int x4)] [] (f_X11_hold_b67 k13 a0 x1 x2 x3 x4) := by
  unfold f_X11_hold_b67
  refine v_iinc (v := x4 + 1) (lv' := [(4, .int (x4 + 1)), (0, rf g a0), (1, .int x1), (2, .int x2), (3, .int x3)]) (pc' := 70) 4 dX11_hold_67 rfl rfl (by decide) rfl rfl ?_
  refine v_goto (t := 13) dX11_hold_70 (by decide) ?_
  refine V.sub [1, 2, 3, 4, 0] rfl ?_
  exact hk13 a0 x1 x2 x3 (x4 + 1)
set_option maxRecDepth 20000 in
theorem h_X11_hold_b61 (g : GW) (k13 : Nat → Int32 → Int32 → Int32 → Int32 → Mo Int32) (hk13 : ∀ a0 x1 x2 x3 x4, V g mX11_hold 10 rtI 13 [(0, rf g a0), (1, .int x1), (2, .int x2), (3, .int x3), (4, .int x4)] [] (k13 a0 x1 x2 x3 x4)) (a0 : Nat) (x1 : Int32) (x4 : Int32) (x5 : Int32) : V g mX11_hold 10 rtI 61 [(0, rf g a0), (1, .int x1), (4, .int x4), (5, .int x5)] [] (f_X11_hold_b61 k13 a0 x1 x4 x5) := by
  unfold f_X11_hold_b61
  refine v_iload (pc' := 63) 2 dX11_hold_61 rfl rfl ?_
  refine v_istore_n (lv' := [(2, .int x4), (0, rf g a0), (1, .int x1), (4, .int x4), (5, .int x5)]) (pc' := 64) dX11_hold_63 rfl (by decide) rfl rfl ?_
  refine v_iload (pc' := 66) 4 dX11_hold_64 rfl rfl ?_
  refine v_istore_n (lv' := [(3, .int x5), (2, .int x4), (0, rf g a0), (1, .int x1), (4, .int x4), (5, .int x5)]) (pc' := 67) dX11_hold_66 rfl (by decide) rfl rfl ?_
  refine V.sub [2, 3, 1, 0, 4] rfl ?_
  exact h_X11_hold_b67 g k13 hk13 a0 x1 x4 x5 x4
set_option maxRecDepth 20000 in
theorem h_X11_hold_b13 (g : GW) : ∀ n : Nat, ∀ a0 x1 x2 x3 x4, V g mX11_hold 10 rtI 13 [(0, rf g a0), (1, .int x1), (2, .int x2), (3, .int x3), (4, .int x4)] [] (f_X11_hold_b13 n a0 x1 x2 x3 x4) := by
  intro n
  induction n with
  | zero => intro a0 x1 x2 x3 x4; exact V.vain
  | succ n ih =>
    intro a0 x1 x2 x3 x4
    unfold f_X11_hold_b13
    refine v_iload (pc' := 15) 4 dX11_hold_13 rfl rfl ?_
    refine v_aload_n (pc' := 16) 0 dX11_hold_15 rfl rfl rfl ?_
    refine v_getR (pc' := 19) fl_X11_19 dX11_hold_16 rfl fun r1 => ?_
    refine v_getI (pc' := 22) fl_X11_137 dX11_hold_19 rfl fun v2 => ?_
    refine v_icmpge (t := 73) (pc' := 25) dX11_hold_22 (by decide) rfl ?_ ?_
    · refine v_iload_n (pc' := 74) 1 dX11_hold_73 rfl rfl rfl ?_
      refine v_ifne (t := 81) (pc' := 77) dX11_hold_74 (by decide) rfl ?_ ?_
      · refine v_iload_n (pc' := 82) 3 dX11_hold_81 rfl rfl rfl ?_
        exact v_ireturn rfl dX11_hold_82
      · refine v_iload_n (pc' := 78) 2 dX11_hold_77 rfl rfl rfl ?_
        refine v_goto (t := 82) dX11_hold_78 (by decide) ?_
        exact v_ireturn rfl dX11_hold_82
    · refine v_aload_n (pc' := 26) 0 dX11_hold_25 rfl rfl rfl ?_
      refine v_getR (pc' := 29) fl_X11_48 dX11_hold_26 rfl fun r3 => ?_
      refine v_getR (pc' := 32) fl_X11_319 dX11_hold_29 rfl fun r4 => ?_
      refine v_iload (pc' := 34) 4 dX11_hold_32 rfl rfl ?_
      refine v_iald (pc' := 35) dX11_hold_34 rfl fun v5 => ?_
      refine v_iconst (v := -1) (pc' := 36) dX11_hold_35 rfl rfl ?_
      refine v_icmpne (t := 67) (pc' := 39) dX11_hold_36 (by decide) rfl ?_ ?_
      · refine V.sub [0, 1, 2, 3, 4] rfl ?_
        exact h_X11_hold_b67 g (f_X11_hold_b13 n) ih a0 x1 x2 x3 x4
      · refine v_aload_n (pc' := 40) 0 dX11_hold_39 rfl rfl rfl ?_
        refine v_getR (pc' := 43) fl_X11_48 dX11_hold_40 rfl fun r6 => ?_
        refine v_iload (pc' := 45) 4 dX11_hold_43 rfl rfl ?_
        refine v_callV (vs := [.int x4]) (pc' := 48) (h_X1_worstBy g r6 x4) mv_X1_worstBy wl_X11_322 rfl (Nat.le_of_ble_eq_true rfl) (by omega) (by decide) (Nat.le_of_ble_eq_true rfl) rfl dX11_hold_45 rfl fun v7 => ?_
        refine v_istore (lv' := [(5, .int v7), (0, rf g a0), (1, .int x1), (2, .int x2), (3, .int x3), (4, .int x4)]) (pc' := 50) dX11_hold_48 (by decide) rfl rfl ?_
        refine v_iload_n (pc' := 51) 3 dX11_hold_50 rfl rfl rfl ?_
        refine v_iconst (v := -1) (pc' := 52) dX11_hold_51 rfl rfl ?_
        refine v_icmpeq (t := 61) (pc' := 55) dX11_hold_52 (by decide) rfl ?_ ?_
        · refine V.sub [1, 2, 5, 0] rfl ?_
          exact h_X11_hold_b61 g (f_X11_hold_b13 n) ih a0 x1 x4 v7
        · refine v_iload (pc' := 57) 0 dX11_hold_55 rfl rfl ?_
          refine v_iload_n (pc' := 58) 4 dX11_hold_57 rfl rfl rfl ?_
          refine v_icmpge (t := 67) (pc' := 61) dX11_hold_58 (by decide) rfl ?_ ?_
          · refine V.sub [1, 2, 3, 4, 5] rfl ?_
            exact h_X11_hold_b67 g (f_X11_hold_b13 n) ih a0 x1 x2 x3 x4
          · refine V.sub [1, 2, 5, 0] rfl ?_
            exact h_X11_hold_b61 g (f_X11_hold_b13 n) ih a0 x1 x4 v7
set_option maxRecDepth 20000 in
theorem h_X11_hold (g : GW) (a0 : Nat) (x1 : Int32) : V g mX11_hold 10 rtI 0 [(0, rf g a0), (1, .int x1)] [] (f_X11_hold a0 x1) := by
  unfold f_X11_hold
  refine v_aload_n (pc' := 1) 0 dX11_hold_0 rfl rfl rfl ?_
  refine v_iload_n (pc' := 2) 1 dX11_hold_1 rfl rfl rfl ?_
  refine v_iconst (v := 1) (pc' := 3) dX11_hold_2 rfl rfl ?_
  refine v_callV (vs := [.int x1, .int 1]) (pc' := 6) (h_X11_needRange g a0 x1 1) mv_X11_needRange wl_X11_179 rfl (Nat.le_of_ble_eq_true rfl) (by omega) (by decide) (Nat.le_of_ble_eq_true rfl) rfl dX11_hold_3 rfl fun _ => ?_
  refine v_iconst (v := -1) (pc' := 7) dX11_hold_6 rfl rfl ?_
  refine v_istore_n (lv' := [(2, .int (-1)), (0, rf g a0), (1, .int x1)]) (pc' := 8) dX11_hold_7 rfl (by decide) rfl rfl ?_
  refine v_iconst (v := -1) (pc' := 9) dX11_hold_8 rfl rfl ?_
  refine v_istore_n (lv' := [(3, .int (-1)), (2, .int (-1)), (0, rf g a0), (1, .int x1)]) (pc' := 10) dX11_hold_9 rfl (by decide) rfl rfl ?_
  refine v_iconst (v := 0) (pc' := 11) dX11_hold_10 rfl rfl ?_
  refine v_istore (lv' := [(4, .int 0), (3, .int (-1)), (2, .int (-1)), (0, rf g a0), (1, .int x1)]) (pc' := 13) dX11_hold_11 (by decide) rfl rfl ?_
  refine V.sub [3, 4, 2, 1, 0] rfl ?_
  exact h_X11_hold_b13 g NF a0 x1 (-1) (-1) 0
-- papers
def f_X11_papers (a0 : Nat) : Mo Int32 := bd (gR 11 9 a0) fun r1 => bd (gR 11 11 a0) fun r2 => bd (cv 0 r1 (f_X0_match r1 r2)) fun _ => bd (gR 11 9 a0) fun r3 => bd (gI 0 4 r3) fun v4 => pu v4
set_option maxRecDepth 20000 in
theorem h_X11_papers (g : GW) (a0 : Nat) : V g mX11_papers 24 rtI 0 [(0, rf g a0)] [] (f_X11_papers a0) := by
  unfold f_X11_papers
  refine v_aload_n (pc' := 1) 0 dX11_papers_0 rfl rfl rfl ?_
  refine v_getR (pc' := 4) fl_X11_73 dX11_papers_1 rfl fun r1 => ?_
  refine v_aload_n (pc' := 5) 0 dX11_papers_4 rfl rfl rfl ?_
  refine v_getR (pc' := 8) fl_X11_87 dX11_papers_5 rfl fun r2 => ?_
  refine v_callV (vs := [rf g r2]) (pc' := 11) (h_X0_match g r1 r2) mv_X0_match wl_X11_325 rfl (Nat.le_of_ble_eq_true rfl) (by omega) (by decide) (Nat.le_of_ble_eq_true rfl) rfl dX11_papers_8 rfl fun _ => ?_
  refine v_aload_n (pc' := 12) 0 dX11_papers_11 rfl rfl rfl ?_
  refine v_getR (pc' := 15) fl_X11_73 dX11_papers_12 rfl fun r3 => ?_
  refine v_getI (pc' := 18) fl_X11_328 dX11_papers_15 rfl fun v4 => ?_
  exact v_ireturn rfl dX11_papers_18
-- paper
def f_X11_paper (a0 : Nat) (x1 : Int32) : Mo Int32 := bd (cv 11 a0 (f_X11_needPerson a0 x1)) fun _ => bd (gR 11 9 a0) fun r1 => bd (gR 11 11 a0) fun r2 => bd (cv 0 r1 (f_X0_match r1 r2)) fun _ => bd (gR 11 9 a0) fun r3 => bd (gR 0 1 r3) fun r4 => bd (al 0 r4 x1) fun v5 => pu v5
set_option maxRecDepth 20000 in
theorem h_X11_paper (g : GW) (a0 : Nat) (x1 : Int32) : V g mX11_paper 24 rtI 0 [(0, rf g a0), (1, .int x1)] [] (f_X11_paper a0 x1) := by
  unfold f_X11_paper
  refine v_aload_n (pc' := 1) 0 dX11_paper_0 rfl rfl rfl ?_
  refine v_iload_n (pc' := 2) 1 dX11_paper_1 rfl rfl rfl ?_
  refine v_callV (vs := [.int x1]) (pc' := 5) (h_X11_needPerson g a0 x1) mv_X11_needPerson wl_X11_197 rfl (Nat.le_of_ble_eq_true rfl) (by omega) (by decide) (Nat.le_of_ble_eq_true rfl) rfl dX11_paper_2 rfl fun _ => ?_
  refine v_aload_n (pc' := 6) 0 dX11_paper_5 rfl rfl rfl ?_
  refine v_getR (pc' := 9) fl_X11_73 dX11_paper_6 rfl fun r1 => ?_
  refine v_aload_n (pc' := 10) 0 dX11_paper_9 rfl rfl rfl ?_
  refine v_getR (pc' := 13) fl_X11_87 dX11_paper_10 rfl fun r2 => ?_
  refine v_callV (vs := [rf g r2]) (pc' := 16) (h_X0_match g r1 r2) mv_X0_match wl_X11_325 rfl (Nat.le_of_ble_eq_true rfl) (by omega) (by decide) (Nat.le_of_ble_eq_true rfl) rfl dX11_paper_13 rfl fun _ => ?_
  refine v_aload_n (pc' := 17) 0 dX11_paper_16 rfl rfl rfl ?_
  refine v_getR (pc' := 20) fl_X11_73 dX11_paper_17 rfl fun r3 => ?_
  refine v_getR (pc' := 23) fl_X11_331 dX11_paper_20 rfl fun r4 => ?_
  refine v_iload_n (pc' := 24) 1 dX11_paper_23 rfl rfl rfl ?_
  refine v_iald (pc' := 25) dX11_paper_24 rfl fun v5 => ?_
  exact v_ireturn rfl dX11_paper_25
-- firstHas
def f_X11_firstHas (x0 : Int32) (x1 : Int32) (x2 : Int32) : Mo Int32 := if (x1 < x2 : Prop) then (pu 0) else pu (x0 - x2)
set_option maxRecDepth 20000 in
theorem h_X11_firstHas (g : GW) (x0 : Int32) (x1 : Int32) (x2 : Int32) : V g mX11_firstHas 8 rtI 0 [(0, .int x0), (1, .int x1), (2, .int x2)] [] (f_X11_firstHas x0 x1 x2) := by
  unfold f_X11_firstHas
  refine v_iload_n (pc' := 1) 1 dX11_firstHas_0 rfl rfl rfl ?_
  refine v_iload_n (pc' := 2) 2 dX11_firstHas_1 rfl rfl rfl ?_
  refine v_icmplt (t := 11) (pc' := 5) dX11_firstHas_2 (by decide) rfl ?_ ?_
  · refine v_iconst (v := 0) (pc' := 12) dX11_firstHas_11 rfl rfl ?_
    exact v_ireturn rfl dX11_firstHas_12
  · refine v_iload_n (pc' := 6) 0 dX11_firstHas_5 rfl rfl rfl ?_
    refine v_iload_n (pc' := 7) 2 dX11_firstHas_6 rfl rfl rfl ?_
    refine v_isub (pc' := 8) dX11_firstHas_7 rfl ?_
    refine v_goto (t := 12) dX11_firstHas_8 (by decide) ?_
    exact v_ireturn rfl dX11_firstHas_12
-- secondHas
def f_X11_secondHas (x0 : Int32) (x1 : Int32) (x2 : Int32) : Mo Int32 := if (x2 ≤ x1 : Prop) then (pu 0) else pu (x0 - x1)
set_option maxRecDepth 20000 in
theorem h_X11_secondHas (g : GW) (x0 : Int32) (x1 : Int32) (x2 : Int32) : V g mX11_secondHas 8 rtI 0 [(0, .int x0), (1, .int x1), (2, .int x2)] [] (f_X11_secondHas x0 x1 x2) := by
  unfold f_X11_secondHas
  refine v_iload_n (pc' := 1) 2 dX11_secondHas_0 rfl rfl rfl ?_
  refine v_iload_n (pc' := 2) 1 dX11_secondHas_1 rfl rfl rfl ?_
  refine v_icmple (t := 11) (pc' := 5) dX11_secondHas_2 (by decide) rfl ?_ ?_
  · refine v_iconst (v := 0) (pc' := 12) dX11_secondHas_11 rfl rfl ?_
    exact v_ireturn rfl dX11_secondHas_12
  · refine v_iload_n (pc' := 6) 0 dX11_secondHas_5 rfl rfl rfl ?_
    refine v_iload_n (pc' := 7) 1 dX11_secondHas_6 rfl rfl rfl ?_
    refine v_isub (pc' := 8) dX11_secondHas_7 rfl ?_
    refine v_goto (t := 12) dX11_secondHas_8 (by decide) ?_
    exact v_ireturn rfl dX11_secondHas_12
-- rest
def f_X11_rest_b3 : Nat → Int32 → Int32 → Int32 → Int32 → Int32 → Int32 → Mo Int32
  | 0, _, _, _, _, _, _ => fl
  | n + 1, x0, x1, x2, x3, x4, x5 => if (x0 < x5 : Prop) then (pu 1) else bd (f_X11_firstHas x1 x5 x4) fun v1 => bd (f_X11_firstHas x1 x3 x4) fun v2 => if (v2 < v1 : Prop) then (pu 0) else bd (f_X11_secondHas x2 x3 x5) fun v3 => bd (f_X11_secondHas x2 x3 x4) fun v4 => if (v3 ≤ v4 : Prop) then ((f_X11_rest_b3 n) x0 x1 x2 x3 x4 (x5 + 1)) else pu 0
def f_X11_rest (x0 : Int32) (x1 : Int32) (x2 : Int32) (x3 : Int32) (x4 : Int32) : Mo Int32 := f_X11_rest_b3 NF x0 x1 x2 x3 x4 0
set_option maxRecDepth 20000 in
theorem h_X11_rest_b3 (g : GW) : ∀ n : Nat, ∀ x0 x1 x2 x3 x4 x5, V g mX11_rest 9 rtI 3 [(0, .int x0), (1, .int x1), (2, .int x2), (3, .int x3), (4, .int x4), (5, .int x5)] [] (f_X11_rest_b3 n x0 x1 x2 x3 x4 x5) := by
  intro n
  induction n with
  | zero => intro x0 x1 x2 x3 x4 x5; exact V.vain
  | succ n ih =>
    intro x0 x1 x2 x3 x4 x5
    unfold f_X11_rest_b3
    refine v_iload (pc' := 5) 5 dX11_rest_3 rfl rfl ?_
    refine v_iload_n (pc' := 6) 0 dX11_rest_5 rfl rfl rfl ?_
    refine v_icmpgt (t := 52) (pc' := 9) dX11_rest_6 (by decide) rfl ?_ ?_
    · refine v_iconst (v := 1) (pc' := 53) dX11_rest_52 rfl rfl ?_
      exact v_zret rfl rfl dX11_rest_53
    · refine v_iload_n (pc' := 10) 1 dX11_rest_9 rfl rfl rfl ?_
      refine v_iload (pc' := 12) 5 dX11_rest_10 rfl rfl ?_
      refine v_iload (pc' := 14) 4 dX11_rest_12 rfl rfl ?_
      refine v_callS (vs := [.int x1, .int x5, .int x4]) (pc' := 17) (h_X11_firstHas g x1 x5 x4) ms_X11_firstHas wl_X11_338 (Nat.le_of_ble_eq_true rfl) (by omega) (by decide) (Nat.le_of_ble_eq_true rfl) rfl dX11_rest_14 rfl fun v1 => ?_
      refine v_iload_n (pc' := 18) 1 dX11_rest_17 rfl rfl rfl ?_
      refine v_iload_n (pc' := 19) 3 dX11_rest_18 rfl rfl rfl ?_
      refine v_iload (pc' := 21) 4 dX11_rest_19 rfl rfl ?_
      refine v_callS (vs := [.int x1, .int x3, .int x4]) (pc' := 24) (h_X11_firstHas g x1 x3 x4) ms_X11_firstHas wl_X11_338 (Nat.le_of_ble_eq_true rfl) (by omega) (by decide) (Nat.le_of_ble_eq_true rfl) rfl dX11_rest_21 rfl fun v2 => ?_
      refine v_icmpgt (t := 44) (pc' := 27) dX11_rest_24 (by decide) rfl ?_ ?_
      · refine v_iconst (v := 0) (pc' := 45) dX11_rest_44 rfl rfl ?_
        exact v_zret rfl rfl dX11_rest_45
      · refine v_iload_n (pc' := 28) 2 dX11_rest_27 rfl rfl rfl ?_
        refine v_iload_n (pc' := 29) 3 dX11_rest_28 rfl rfl rfl ?_
        refine v_iload (pc' := 31) 5 dX11_rest_29 rfl rfl ?_
        refine v_callS (vs := [.int x2, .int x3, .int x5]) (pc' := 34) (h_X11_secondHas g x2 x3 x5) ms_X11_secondHas wl_X11_342 (Nat.le_of_ble_eq_true rfl) (by omega) (by decide) (Nat.le_of_ble_eq_true rfl) rfl dX11_rest_31 rfl fun v3 => ?_
        refine v_iload_n (pc' := 35) 2 dX11_rest_34 rfl rfl rfl ?_
        refine v_iload_n (pc' := 36) 3 dX11_rest_35 rfl rfl rfl ?_
        refine v_iload (pc' := 38) 4 dX11_rest_36 rfl rfl ?_
        refine v_callS (vs := [.int x2, .int x3, .int x4]) (pc' := 41) (h_X11_secondHas g x2 x3 x4) ms_X11_secondHas wl_X11_342 (Nat.le_of_ble_eq_true rfl) (by omega) (by decide) (Nat.le_of_ble_eq_true rfl) rfl dX11_rest_38 rfl fun v4 => ?_
        refine v_icmple (t := 46) (pc' := 44) dX11_rest_41 (by decide) rfl ?_ ?_
        · refine v_iinc (v := x5 + 1) (lv' := [(5, .int (x5 + 1)), (0, .int x0), (1, .int x1), (2, .int x2), (3, .int x3), (4, .int x4)]) (pc' := 49) 5 dX11_rest_46 rfl rfl (by decide) rfl rfl ?_
          refine v_goto (t := 3) dX11_rest_49 (by decide) ?_
          refine V.sub [1, 2, 3, 4, 5, 0] rfl ?_
          exact ih x0 x1 x2 x3 x4 (x5 + 1)
        · refine v_iconst (v := 0) (pc' := 45) dX11_rest_44 rfl rfl ?_
          exact v_zret rfl rfl dX11_rest_45
set_option maxRecDepth 20000 in
theorem h_X11_rest (g : GW) (x0 : Int32) (x1 : Int32) (x2 : Int32) (x3 : Int32) (x4 : Int32) : V g mX11_rest 9 rtI 0 [(0, .int x0), (1, .int x1), (2, .int x2), (3, .int x3), (4, .int x4)] [] (f_X11_rest x0 x1 x2 x3 x4) := by
  unfold f_X11_rest
  refine v_iconst (v := 0) (pc' := 1) dX11_rest_0 rfl rfl ?_
  refine v_istore (lv' := [(5, .int 0), (0, .int x0), (1, .int x1), (2, .int x2), (3, .int x3), (4, .int x4)]) (pc' := 3) dX11_rest_1 (by decide) rfl rfl ?_
  refine V.sub [1, 2, 3, 4, 5, 0] rfl ?_
  exact h_X11_rest_b3 g NF x0 x1 x2 x3 x4 0
-- bids
def f_X11_bids_b106 (k40 : Int32 → Int32 → Int32 → Int32 → Int32 → Int32 → Int32 → Int32 → Mo Int32) (k49 : Int32 → Int32 → Int32 → Int32 → Int32 → Int32 → Int32 → Int32 → Int32 → Mo Int32) (x1 : Int32) (x2 : Int32) (x3 : Int32) (x4 : Int32) (x5 : Int32) (x6 : Int32) (x7 : Int32) (x8 : Int32) (x9 : Int32) : Mo Int32 := k49 x1 x2 x3 x4 x5 x6 x7 x8 (x9 + 1)
def f_X11_bids_b49 (k40 : Int32 → Int32 → Int32 → Int32 → Int32 → Int32 → Int32 → Int32 → Mo Int32) : Nat → Int32 → Int32 → Int32 → Int32 → Int32 → Int32 → Int32 → Int32 → Int32 → Mo Int32
  | 0, _, _, _, _, _, _, _, _, _ => fl
  | n + 1, x1, x2, x3, x4, x5, x6, x7, x8, x9 => if (x1 < x9 : Prop) then (k40 x1 x2 x3 x4 x5 x6 x7 (x8 + 1)) else bd (f_X11_rest x1 x2 x3 x8 x9) fun v1 => if (v1 = 0 : Prop) then (f_X11_bids_b106 k40 (f_X11_bids_b49 k40 n) x1 x2 x3 x4 x5 x6 x7 x8 x9) else if ((x5 + 1) = 1 : Prop) then (bd (f_X11_firstHas x2 x8 x9) fun v2 => bd (f_X11_secondHas x3 x8 x9) fun v3 => f_X11_bids_b106 k40 (f_X11_bids_b49 k40 n) x1 x2 x3 x4 (x5 + 1) (((10 : Int32) * x8) + x9) (v2 + v3) x8 x9) else f_X11_bids_b106 k40 (f_X11_bids_b49 k40 n) x1 x2 x3 x4 (x5 + 1) x6 x7 x8 x9
def f_X11_bids_b40 : Nat → Int32 → Int32 → Int32 → Int32 → Int32 → Int32 → Int32 → Int32 → Mo Int32
  | 0, _, _, _, _, _, _, _, _ => fl
  | n + 1, x1, x2, x3, x4, x5, x6, x7, x8 => if (x1 < x8 : Prop) then (if (x4 = 0 : Prop) then (pu x5) else if (x4 = 1 : Prop) then (pu x6) else pu x7) else f_X11_bids_b49 (f_X11_bids_b40 n) NF x1 x2 x3 x4 x5 x6 x7 x8 0
def f_X11_bids (a0 : Nat) (x1 : Int32) (x2 : Int32) (x3 : Int32) (x4 : Int32) : Mo Int32 := bd (cv 11 a0 (f_X11_needRange a0 x1 9)) fun _ => bd (cv 11 a0 (f_X11_needRange a0 x2 40)) fun _ => bd (cv 11 a0 (f_X11_needRange a0 x3 40)) fun _ => bd (cv 11 a0 (f_X11_needRange a0 x4 2)) fun _ => f_X11_bids_b40 NF x1 x2 x3 x4 0 (-1) (-1) 0
set_option maxRecDepth 20000 in
theorem h_X11_bids_b106 (g : GW) (k40 : Int32 → Int32 → Int32 → Int32 → Int32 → Int32 → Int32 → Int32 → Mo Int32) (k49 : Int32 → Int32 → Int32 → Int32 → Int32 → Int32 → Int32 → Int32 → Int32 → Mo Int32) (hk40 : ∀ x1 x2 x3 x4 x5 x6 x7 x8, V g mX11_bids 10 rtI 40 [(1, .int x1), (2, .int x2), (3, .int x3), (4, .int x4), (5, .int x5), (6, .int x6), (7, .int x7), (8, .int x8)] [] (k40 x1 x2 x3 x4 x5 x6 x7 x8)) (hk49 : ∀ x1 x2 x3 x4 x5 x6 x7 x8 x9, V g mX11_bids 10 rtI 49 [(1, .int x1), (2, .int x2), (3, .int x3), (4, .int x4), (5, .int x5), (6, .int x6), (7, .int x7), (8, .int x8), (9, .int x9)] [] (k49 x1 x2 x3 x4 x5 x6 x7 x8 x9)) (x1 : Int32) (x2 : Int32) (x3 : Int32) (x4 : Int32) (x5 : Int32) (x6 : Int32) (x7 : Int32) (x8 : Int32) (x9 : Int32) : V g mX11_bids 10 rtI 106 [(1, .int x1), (2, .int x2), (3, .int x3), (4, .int x4), (5, .int x5), (6, .int x6), (7, .int x7), (8, .int x8), (9, .int x9)] [] (f_X11_bids_b106 k40 k49 x1 x2 x3 x4 x5 x6 x7 x8 x9) := by
  unfold f_X11_bids_b106
  refine v_iinc (v := x9 + 1) (lv' := [(9, .int (x9 + 1)), (1, .int x1), (2, .int x2), (3, .int x3), (4, .int x4), (5, .int x5), (6, .int x6), (7, .int x7), (8, .int x8)]) (pc' := 109) 8 dX11_bids_106 rfl rfl (by decide) rfl rfl ?_
  refine v_goto (t := 49) dX11_bids_109 (by decide) ?_
  refine V.sub [1, 2, 3, 4, 5, 6, 7, 8, 0] rfl ?_
  exact hk49 x1 x2 x3 x4 x5 x6 x7 x8 (x9 + 1)
set_option maxRecDepth 20000 in
theorem h_X11_bids_b49 (g : GW) (k40 : Int32 → Int32 → Int32 → Int32 → Int32 → Int32 → Int32 → Int32 → Mo Int32) (hk40 : ∀ x1 x2 x3 x4 x5 x6 x7 x8, V g mX11_bids 10 rtI 40 [(1, .int x1), (2, .int x2), (3, .int x3), (4, .int x4), (5, .int x5), (6, .int x6), (7, .int x7), (8, .int x8)] [] (k40 x1 x2 x3 x4 x5 x6 x7 x8)) : ∀ n : Nat, ∀ x1 x2 x3 x4 x5 x6 x7 x8 x9, V g mX11_bids 10 rtI 49 [(1, .int x1), (2, .int x2), (3, .int x3), (4, .int x4), (5, .int x5), (6, .int x6), (7, .int x7), (8, .int x8), (9, .int x9)] [] (f_X11_bids_b49 k40 n x1 x2 x3 x4 x5 x6 x7 x8 x9) := by
  intro n
  induction n with
  | zero => intro x1 x2 x3 x4 x5 x6 x7 x8 x9; exact V.vain
  | succ n ih =>
    intro x1 x2 x3 x4 x5 x6 x7 x8 x9
    unfold f_X11_bids_b49
    refine v_iload (pc' := 51) 8 dX11_bids_49 rfl rfl ?_
    refine v_iload_n (pc' := 52) 0 dX11_bids_51 rfl rfl rfl ?_
    refine v_icmpgt (t := 112) (pc' := 55) dX11_bids_52 (by decide) rfl ?_ ?_
    · refine v_iinc (v := x8 + 1) (lv' := [(8, .int (x8 + 1)), (1, .int x1), (2, .int x2), (3, .int x3), (4, .int x4), (5, .int x5), (6, .int x6), (7, .int x7), (9, .int x9)]) (pc' := 115) 7 dX11_bids_112 rfl rfl (by decide) rfl rfl ?_
      refine v_goto (t := 40) dX11_bids_115 (by decide) ?_
      refine V.sub [1, 2, 3, 4, 5, 6, 7, 0] rfl ?_
      exact hk40 x1 x2 x3 x4 x5 x6 x7 (x8 + 1)
    · refine v_iload_n (pc' := 56) 0 dX11_bids_55 rfl rfl rfl ?_
      refine v_iload_n (pc' := 57) 1 dX11_bids_56 rfl rfl rfl ?_
      refine v_iload_n (pc' := 58) 2 dX11_bids_57 rfl rfl rfl ?_
      refine v_iload (pc' := 60) 7 dX11_bids_58 rfl rfl ?_
      refine v_iload (pc' := 62) 8 dX11_bids_60 rfl rfl ?_
      refine v_callS (vs := [.int x1, .int x2, .int x3, .int x8, .int x9]) (pc' := 65) (h_X11_rest g x1 x2 x3 x8 x9) ms_X11_rest wl_X11_334 (Nat.le_of_ble_eq_true rfl) (by omega) (by decide) (Nat.le_of_ble_eq_true rfl) rfl dX11_bids_62 rfl fun v1 => ?_
      refine v_ifeq (t := 106) (pc' := 68) dX11_bids_65 (by decide) rfl ?_ ?_
      · refine V.sub [0, 1, 2, 3, 4, 5, 6, 7, 8] rfl ?_
        exact h_X11_bids_b106 g k40 (f_X11_bids_b49 k40 n) hk40 ih x1 x2 x3 x4 x5 x6 x7 x8 x9
      · refine v_iinc (v := x5 + 1) (lv' := [(5, .int (x5 + 1)), (1, .int x1), (2, .int x2), (3, .int x3), (4, .int x4), (6, .int x6), (7, .int x7), (8, .int x8), (9, .int x9)]) (pc' := 71) 4 dX11_bids_68 rfl rfl (by decide) rfl rfl ?_
        refine v_iload (pc' := 73) 0 dX11_bids_71 rfl rfl ?_
        refine v_iconst (v := 1) (pc' := 74) dX11_bids_73 rfl rfl ?_
        refine v_icmpne (t := 106) (pc' := 77) dX11_bids_74 (by decide) rfl ?_ ?_
        · refine V.sub [1, 2, 3, 4, 0, 5, 6, 7, 8] rfl ?_
          exact h_X11_bids_b106 g k40 (f_X11_bids_b49 k40 n) hk40 ih x1 x2 x3 x4 (x5 + 1) x6 x7 x8 x9
        · refine v_bipush (v := 10) (pc' := 79) dX11_bids_77 rfl rfl ?_
          refine v_iload (pc' := 81) 7 dX11_bids_79 rfl rfl ?_
          refine v_imul (pc' := 82) dX11_bids_81 rfl ?_
          refine v_iload (pc' := 84) 8 dX11_bids_82 rfl rfl ?_
          refine v_iadd (pc' := 85) dX11_bids_84 rfl ?_
          refine v_istore (lv' := [(6, .int (((10 : Int32) * x8) + x9)), (5, .int (x5 + 1)), (1, .int x1), (2, .int x2), (3, .int x3), (4, .int x4), (7, .int x7), (8, .int x8), (9, .int x9)]) (pc' := 87) dX11_bids_85 (by decide) rfl rfl ?_
          refine v_iload_n (pc' := 88) 3 dX11_bids_87 rfl rfl rfl ?_
          refine v_iload (pc' := 90) 7 dX11_bids_88 rfl rfl ?_
          refine v_iload (pc' := 92) 8 dX11_bids_90 rfl rfl ?_
          refine v_callS (vs := [.int x2, .int x8, .int x9]) (pc' := 95) (h_X11_firstHas g x2 x8 x9) ms_X11_firstHas wl_X11_338 (Nat.le_of_ble_eq_true rfl) (by omega) (by decide) (Nat.le_of_ble_eq_true rfl) rfl dX11_bids_92 rfl fun v2 => ?_
          refine v_iload_n (pc' := 96) 4 dX11_bids_95 rfl rfl rfl ?_
          refine v_iload (pc' := 98) 7 dX11_bids_96 rfl rfl ?_
          refine v_iload (pc' := 100) 8 dX11_bids_98 rfl rfl ?_
          refine v_callS (vs := [.int x3, .int x8, .int x9]) (pc' := 103) (h_X11_secondHas g x3 x8 x9) ms_X11_secondHas wl_X11_342 (Nat.le_of_ble_eq_true rfl) (by omega) (by decide) (Nat.le_of_ble_eq_true rfl) rfl dX11_bids_100 rfl fun v3 => ?_
          refine v_iadd (pc' := 104) dX11_bids_103 rfl ?_
          refine v_istore (lv' := [(7, .int (v2 + v3)), (6, .int (((10 : Int32) * x8) + x9)), (5, .int (x5 + 1)), (1, .int x1), (2, .int x2), (3, .int x3), (4, .int x4), (8, .int x8), (9, .int x9)]) (pc' := 106) dX11_bids_104 (by decide) rfl rfl ?_
          refine V.sub [3, 4, 5, 6, 2, 1, 0, 7, 8] rfl ?_
          exact h_X11_bids_b106 g k40 (f_X11_bids_b49 k40 n) hk40 ih x1 x2 x3 x4 (x5 + 1) (((10 : Int32) * x8) + x9) (v2 + v3) x8 x9
set_option maxRecDepth 20000 in
theorem h_X11_bids_b40 (g : GW) : ∀ n : Nat, ∀ x1 x2 x3 x4 x5 x6 x7 x8, V g mX11_bids 10 rtI 40 [(1, .int x1), (2, .int x2), (3, .int x3), (4, .int x4), (5, .int x5), (6, .int x6), (7, .int x7), (8, .int x8)] [] (f_X11_bids_b40 n x1 x2 x3 x4 x5 x6 x7 x8) := by
  intro n
  induction n with
  | zero => intro x1 x2 x3 x4 x5 x6 x7 x8; exact V.vain
  | succ n ih =>
    intro x1 x2 x3 x4 x5 x6 x7 x8
    unfold f_X11_bids_b40
    refine v_iload (pc' := 42) 7 dX11_bids_40 rfl rfl ?_
    refine v_iload_n (pc' := 43) 0 dX11_bids_42 rfl rfl rfl ?_
    refine v_icmpgt (t := 118) (pc' := 46) dX11_bids_43 (by decide) rfl ?_ ?_
    · refine v_iload (pc' := 120) 3 dX11_bids_118 rfl rfl ?_
      refine v_ifne (t := 128) (pc' := 123) dX11_bids_120 (by decide) rfl ?_ ?_
      · refine v_iload (pc' := 130) 3 dX11_bids_128 rfl rfl ?_
        refine v_iconst (v := 1) (pc' := 131) dX11_bids_130 rfl rfl ?_
        refine v_icmpne (t := 139) (pc' := 134) dX11_bids_131 (by decide) rfl ?_ ?_
        · refine v_iload (pc' := 141) 6 dX11_bids_139 rfl rfl ?_
          exact v_ireturn rfl dX11_bids_141
        · refine v_iload (pc' := 136) 5 dX11_bids_134 rfl rfl ?_
          refine v_goto (t := 141) dX11_bids_136 (by decide) ?_
          exact v_ireturn rfl dX11_bids_141
      · refine v_iload (pc' := 125) 4 dX11_bids_123 rfl rfl ?_
        refine v_goto (t := 141) dX11_bids_125 (by decide) ?_
        exact v_ireturn rfl dX11_bids_141
    · refine v_iconst (v := 0) (pc' := 47) dX11_bids_46 rfl rfl ?_
      refine v_istore (lv' := [(9, .int 0), (1, .int x1), (2, .int x2), (3, .int x3), (4, .int x4), (5, .int x5), (6, .int x6), (7, .int x7), (8, .int x8)]) (pc' := 49) dX11_bids_47 (by decide) rfl rfl ?_
      refine V.sub [1, 2, 3, 4, 5, 6, 7, 8, 0] rfl ?_
      exact h_X11_bids_b49 g (f_X11_bids_b40 n) ih NF x1 x2 x3 x4 x5 x6 x7 x8 0
set_option maxRecDepth 20000 in
theorem h_X11_bids (g : GW) (a0 : Nat) (x1 : Int32) (x2 : Int32) (x3 : Int32) (x4 : Int32) : V g mX11_bids 10 rtI 0 [(0, rf g a0), (1, .int x1), (2, .int x2), (3, .int x3), (4, .int x4)] [] (f_X11_bids a0 x1 x2 x3 x4) := by
  unfold f_X11_bids
  refine v_aload_n (pc' := 1) 0 dX11_bids_0 rfl rfl rfl ?_
  refine v_iload_n (pc' := 2) 1 dX11_bids_1 rfl rfl rfl ?_
  refine v_bipush (v := 9) (pc' := 4) dX11_bids_2 rfl rfl ?_
  refine v_callV (vs := [.int x1, .int 9]) (pc' := 7) (h_X11_needRange g a0 x1 9) mv_X11_needRange wl_X11_179 rfl (Nat.le_of_ble_eq_true rfl) (by omega) (by decide) (Nat.le_of_ble_eq_true rfl) rfl dX11_bids_4 rfl fun _ => ?_
  refine v_aload_n (pc' := 8) 0 dX11_bids_7 rfl rfl rfl ?_
  refine v_iload_n (pc' := 9) 2 dX11_bids_8 rfl rfl rfl ?_
  refine v_bipush (v := 40) (pc' := 11) dX11_bids_9 rfl rfl ?_
  refine v_callV (vs := [.int x2, .int 40]) (pc' := 14) (h_X11_needRange g a0 x2 40) mv_X11_needRange wl_X11_179 rfl (Nat.le_of_ble_eq_true rfl) (by omega) (by decide) (Nat.le_of_ble_eq_true rfl) rfl dX11_bids_11 rfl fun _ => ?_
  refine v_aload_n (pc' := 15) 0 dX11_bids_14 rfl rfl rfl ?_
  refine v_iload_n (pc' := 16) 3 dX11_bids_15 rfl rfl rfl ?_
  refine v_bipush (v := 40) (pc' := 18) dX11_bids_16 rfl rfl ?_
  refine v_callV (vs := [.int x3, .int 40]) (pc' := 21) (h_X11_needRange g a0 x3 40) mv_X11_needRange wl_X11_179 rfl (Nat.le_of_ble_eq_true rfl) (by omega) (by decide) (Nat.le_of_ble_eq_true rfl) rfl dX11_bids_18 rfl fun _ => ?_
  refine v_aload_n (pc' := 22) 0 dX11_bids_21 rfl rfl rfl ?_
  refine v_iload (pc' := 24) 4 dX11_bids_22 rfl rfl ?_
  refine v_iconst (v := 2) (pc' := 25) dX11_bids_24 rfl rfl ?_
  refine v_callV (vs := [.int x4, .int 2]) (pc' := 28) (h_X11_needRange g a0 x4 2) mv_X11_needRange wl_X11_179 rfl (Nat.le_of_ble_eq_true rfl) (by omega) (by decide) (Nat.le_of_ble_eq_true rfl) rfl dX11_bids_25 rfl fun _ => ?_
  refine v_iconst (v := 0) (pc' := 29) dX11_bids_28 rfl rfl ?_
  refine v_istore (lv' := [(5, .int 0), (0, rf g a0), (1, .int x1), (2, .int x2), (3, .int x3), (4, .int x4)]) (pc' := 31) dX11_bids_29 (by decide) rfl rfl ?_
  refine v_iconst (v := -1) (pc' := 32) dX11_bids_31 rfl rfl ?_
  refine v_istore (lv' := [(6, .int (-1)), (5, .int 0), (0, rf g a0), (1, .int x1), (2, .int x2), (3, .int x3), (4, .int x4)]) (pc' := 34) dX11_bids_32 (by decide) rfl rfl ?_
  refine v_iconst (v := -1) (pc' := 35) dX11_bids_34 rfl rfl ?_
  refine v_istore (lv' := [(7, .int (-1)), (6, .int (-1)), (5, .int 0), (0, rf g a0), (1, .int x1), (2, .int x2), (3, .int x3), (4, .int x4)]) (pc' := 37) dX11_bids_35 (by decide) rfl rfl ?_
  refine v_iconst (v := 0) (pc' := 38) dX11_bids_37 rfl rfl ?_
  refine v_istore (lv' := [(8, .int 0), (7, .int (-1)), (6, .int (-1)), (5, .int 0), (0, rf g a0), (1, .int x1), (2, .int x2), (3, .int x3), (4, .int x4)]) (pc' := 40) dX11_bids_38 (by decide) rfl rfl ?_
  refine V.sub [5, 6, 7, 8, 3, 2, 1, 0] rfl ?_
  exact h_X11_bids_b40 g NF x1 x2 x3 x4 0 (-1) (-1) 0
-- share
def f_X11_share_b57 (a0 : Nat) (x1 : Int32) (x4 : Int32) : Mo Int32 := bd (gR 11 1 a0) fun r1 => bd (gR 2 2 r1) fun r2 => bd (al 0 r2 x1) fun v3 => pu (mn32 v3 x4)
def f_X11_share_b32 : Nat → Nat → Int32 → Int32 → Int32 → Int32 → Mo Int32
  | 0, _, _, _, _, _ => fl
  | n + 1, a0, x1, x2, x3, x4 => if (x4 ≤ 0 : Prop) then (f_X11_share_b57 a0 x1 x4) else bd (gR 11 1 a0) fun r4 => bd (cv 2 r4 (f_X2_givenBy r4 x2 x4)) fun v5 => if (v5 ≤ x3 : Prop) then (f_X11_share_b57 a0 x1 x4) else (f_X11_share_b32 n) a0 x1 x2 x3 (x4 + (-1))
def f_X11_share (a0 : Nat) (x1 : Int32) (x2 : Int32) (x3 : Int32) : Mo Int32 := bd (cv 11 a0 (f_X11_needPerson a0 x1)) fun _ => bd (cv 11 a0 (f_X11_needBits a0 x2)) fun _ => bd (cv 11 a0 (f_X11_needRange a0 x3 400)) fun _ => if (((x2 >>> (x1 &&& 31)) &&& (1 : Int32)) = 0 : Prop) then (pu 0) else f_X11_share_b32 NF a0 x1 x2 x3 40
set_option maxRecDepth 20000 in
theorem h_X11_share_b57 (g : GW) (a0 : Nat) (x1 : Int32) (x4 : Int32) : V g mX11_share 10 rtI 57 [(0, rf g a0), (1, .int x1), (4, .int x4)] [] (f_X11_share_b57 a0 x1 x4) := by
  unfold f_X11_share_b57
  refine v_aload_n (pc' := 58) 0 dX11_share_57 rfl rfl rfl ?_
  refine v_getR (pc' := 61) fl_X11_19 dX11_share_58 rfl fun r1 => ?_
  refine v_getR (pc' := 64) fl_X11_207 dX11_share_61 rfl fun r2 => ?_
  refine v_iload_n (pc' := 65) 1 dX11_share_64 rfl rfl rfl ?_
  refine v_iald (pc' := 66) dX11_share_65 rfl fun v3 => ?_
  refine v_iload (pc' := 68) 2 dX11_share_66 rfl rfl ?_
  refine v_mn32 (pc' := 71) (by omega) (tg5 222 (by decide +kernel) (by decide +kernel)) (Nat.le_of_ble_eq_true rfl) rfl dX11_share_68 rfl ?_
  exact v_ireturn rfl dX11_share_71
set_option maxRecDepth 20000 in
theorem h_X11_share_b32 (g : GW) : ∀ n : Nat, ∀ a0 x1 x2 x3 x4, V g mX11_share 10 rtI 32 [(0, rf g a0), (1, .int x1), (2, .int x2), (3, .int x3), (4, .int x4)] [] (f_X11_share_b32 n a0 x1 x2 x3 x4) := by
  intro n
  induction n with
  | zero => intro a0 x1 x2 x3 x4; exact V.vain
  | succ n ih =>
    intro a0 x1 x2 x3 x4
    unfold f_X11_share_b32
    refine v_iload (pc' := 34) 4 dX11_share_32 rfl rfl ?_
    refine v_ifle (t := 57) (pc' := 37) dX11_share_34 (by decide) rfl ?_ ?_
    · refine V.sub [0, 1, 4] rfl ?_
      exact h_X11_share_b57 g a0 x1 x4
    · refine v_aload_n (pc' := 38) 0 dX11_share_37 rfl rfl rfl ?_
      refine v_getR (pc' := 41) fl_X11_19 dX11_share_38 rfl fun r4 => ?_
      refine v_iload_n (pc' := 42) 2 dX11_share_41 rfl rfl rfl ?_
      refine v_iload (pc' := 44) 4 dX11_share_42 rfl rfl ?_
      refine v_callV (vs := [.int x2, .int x4]) (pc' := 47) (h_X2_givenBy g r4 x2 x4) mv_X2_givenBy wl_X11_345 rfl (Nat.le_of_ble_eq_true rfl) (by omega) (by decide) (Nat.le_of_ble_eq_true rfl) rfl dX11_share_44 rfl fun v5 => ?_
      refine v_iload_n (pc' := 48) 3 dX11_share_47 rfl rfl rfl ?_
      refine v_icmple (t := 57) (pc' := 51) dX11_share_48 (by decide) rfl ?_ ?_
      · refine V.sub [0, 1, 4] rfl ?_
        exact h_X11_share_b57 g a0 x1 x4
      · refine v_iinc (v := x4 + (-1)) (lv' := [(4, .int (x4 + (-1))), (0, rf g a0), (1, .int x1), (2, .int x2), (3, .int x3)]) (pc' := 54) 4 dX11_share_51 rfl rfl (by decide) rfl rfl ?_
        refine v_goto (t := 32) dX11_share_54 (by decide) ?_
        refine V.sub [1, 2, 3, 4, 0] rfl ?_
        exact ih a0 x1 x2 x3 (x4 + (-1))
set_option maxRecDepth 20000 in
theorem h_X11_share (g : GW) (a0 : Nat) (x1 : Int32) (x2 : Int32) (x3 : Int32) : V g mX11_share 10 rtI 0 [(0, rf g a0), (1, .int x1), (2, .int x2), (3, .int x3)] [] (f_X11_share a0 x1 x2 x3) := by
  unfold f_X11_share
  refine v_aload_n (pc' := 1) 0 dX11_share_0 rfl rfl rfl ?_
  refine v_iload_n (pc' := 2) 1 dX11_share_1 rfl rfl rfl ?_
  refine v_callV (vs := [.int x1]) (pc' := 5) (h_X11_needPerson g a0 x1) mv_X11_needPerson wl_X11_197 rfl (Nat.le_of_ble_eq_true rfl) (by omega) (by decide) (Nat.le_of_ble_eq_true rfl) rfl dX11_share_2 rfl fun _ => ?_
  refine v_aload_n (pc' := 6) 0 dX11_share_5 rfl rfl rfl ?_
  refine v_iload_n (pc' := 7) 2 dX11_share_6 rfl rfl rfl ?_
  refine v_callV (vs := [.int x2]) (pc' := 10) (h_X11_needBits g a0 x2) mv_X11_needBits wl_X11_271 rfl (Nat.le_of_ble_eq_true rfl) (by omega) (by decide) (Nat.le_of_ble_eq_true rfl) rfl dX11_share_7 rfl fun _ => ?_
  refine v_aload_n (pc' := 11) 0 dX11_share_10 rfl rfl rfl ?_
  refine v_iload_n (pc' := 12) 3 dX11_share_11 rfl rfl rfl ?_
  refine v_sipush (v := 400) (pc' := 15) dX11_share_12 rfl rfl ?_
  refine v_callV (vs := [.int x3, .int 400]) (pc' := 18) (h_X11_needRange g a0 x3 400) mv_X11_needRange wl_X11_179 rfl (Nat.le_of_ble_eq_true rfl) (by omega) (by decide) (Nat.le_of_ble_eq_true rfl) rfl dX11_share_15 rfl fun _ => ?_
  refine v_iload_n (pc' := 19) 2 dX11_share_18 rfl rfl rfl ?_
  refine v_iload_n (pc' := 20) 1 dX11_share_19 rfl rfl rfl ?_
  refine v_ishr (pc' := 21) dX11_share_20 rfl ?_
  refine v_iconst (v := 1) (pc' := 22) dX11_share_21 rfl rfl ?_
  refine v_iand (pc' := 23) dX11_share_22 rfl ?_
  refine v_ifne (t := 28) (pc' := 26) dX11_share_23 (by decide) rfl ?_ ?_
  · refine v_bipush (v := 40) (pc' := 30) dX11_share_28 rfl rfl ?_
    refine v_istore (lv' := [(4, .int 40), (0, rf g a0), (1, .int x1), (2, .int x2), (3, .int x3)]) (pc' := 32) dX11_share_30 (by decide) rfl rfl ?_
    refine V.sub [1, 2, 3, 4, 0] rfl ?_
    exact h_X11_share_b32 g NF a0 x1 x2 x3 40
  · refine v_iconst (v := 0) (pc' := 27) dX11_share_26 rfl rfl ?_
    exact v_ireturn rfl dX11_share_27
-- busiest
def f_X11_busiest_b64 (x1 : Int32) (x2 : Int32) (x3 : Int32) : Mo Int32 := if (x1 = 0 : Prop) then (pu x2) else pu x3
def f_X11_busiest_b58 (k13 : Nat → Int32 → Int32 → Int32 → Int32 → Mo Int32) (a0 : Nat) (x1 : Int32) (x2 : Int32) (x3 : Int32) (x4 : Int32) : Mo Int32 := k13 a0 x1 x2 x3 (x4 + 1)
def f_X11_busiest_b13 : Nat → Nat → Int32 → Int32 → Int32 → Int32 → Mo Int32
  | 0, _, _, _, _, _ => fl
  | n + 1, a0, x1, x2, x3, x4 => bd (gR 11 11 a0) fun r1 => bd (gI 5 4 r1) fun v2 => if (v2 ≤ 0 : Prop) then (f_X11_busiest_b64 x1 x2 x3) else bd (gR 11 1 a0) fun r3 => bd (gI 2 4 r3) fun v4 => if (v4 ≤ x4 : Prop) then (f_X11_busiest_b64 x1 x2 x3) else bd (gR 11 11 a0) fun r5 => bd (cv 5 r5 (f_X5_hangingBy r5 x4)) fun v6 => if (v6 ≤ x3 : Prop) then (f_X11_busiest_b58 (f_X11_busiest_b13 n) a0 x1 x2 x3 x4) else f_X11_busiest_b58 (f_X11_busiest_b13 n) a0 x1 x4 v6 x4
def f_X11_busiest (a0 : Nat) (x1 : Int32) : Mo Int32 := bd (cv 11 a0 (f_X11_needRange a0 x1 1)) fun _ => f_X11_busiest_b13 NF a0 x1 (-1) (-1) 0
set_option maxRecDepth 20000 in
theorem h_X11_busiest_b64 (g : GW) (x1 : Int32) (x2 : Int32) (x3 : Int32) : V g mX11_busiest 10 rtI 64 [(1, .int x1), (2, .int x2), (3, .int x3)] [] (f_X11_busiest_b64 x1 x2 x3) := by
  unfold f_X11_busiest_b64
  refine v_iload_n (pc' := 65) 0 dX11_busiest_64 rfl rfl rfl ?_
  refine v_ifne (t := 72) (pc' := 68) dX11_busiest_65 (by decide) rfl ?_ ?_
  · refine v_iload_n (pc' := 73) 2 dX11_busiest_72 rfl rfl rfl ?_
    exact v_ireturn rfl dX11_busiest_73
  · refine v_iload_n (pc' := 69) 1 dX11_busiest_68 rfl rfl rfl ?_
    refine v_goto (t := 73) dX11_busiest_69 (by decide) ?_
    exact v_ireturn rfl dX11_busiest_73
set_option maxRecDepth 20000 in
theorem h_X11_busiest_b58 (g : GW) (k13 : Nat → Int32 → Int32 → Int32 → Int32 → Mo Int32) (hk13 : ∀ a0 x1 x2 x3 x4, V g mX11_busiest 10 rtI 13 [(0, rf g a0), (1, .int x1), (2, .int x2), (3, .int x3), (4, .int x4)] [] (k13 a0 x1 x2 x3 x4)) (a0 : Nat) (x1 : Int32) (x2 : Int32) (x3 : Int32) (x4 : Int32) : V g mX11_busiest 10 rtI 58 [(0, rf g a0), (1, .int x1), (2, .int x2), (3, .int x3), (4, .int x4)] [] (f_X11_busiest_b58 k13 a0 x1 x2 x3 x4) := by
  unfold f_X11_busiest_b58
  refine v_iinc (v := x4 + 1) (lv' := [(4, .int (x4 + 1)), (0, rf g a0), (1, .int x1), (2, .int x2), (3, .int x3)]) (pc' := 61) 4 dX11_busiest_58 rfl rfl (by decide) rfl rfl ?_
  refine v_goto (t := 13) dX11_busiest_61 (by decide) ?_
  refine V.sub [1, 2, 3, 4, 0] rfl ?_
  exact hk13 a0 x1 x2 x3 (x4 + 1)
set_option maxRecDepth 20000 in
theorem h_X11_busiest_b13 (g : GW) : ∀ n : Nat, ∀ a0 x1 x2 x3 x4, V g mX11_busiest 10 rtI 13 [(0, rf g a0), (1, .int x1), (2, .int x2), (3, .int x3), (4, .int x4)] [] (f_X11_busiest_b13 n a0 x1 x2 x3 x4) := by
  intro n
  induction n with
  | zero => intro a0 x1 x2 x3 x4; exact V.vain
  | succ n ih =>
    intro a0 x1 x2 x3 x4
    unfold f_X11_busiest_b13
    refine v_aload_n (pc' := 14) 0 dX11_busiest_13 rfl rfl rfl ?_
    refine v_getR (pc' := 17) fl_X11_87 dX11_busiest_14 rfl fun r1 => ?_
    refine v_getI (pc' := 20) fl_X11_182 dX11_busiest_17 rfl fun v2 => ?_
    refine v_ifle (t := 64) (pc' := 23) dX11_busiest_20 (by decide) rfl ?_ ?_
    · refine V.sub [1, 2, 3] rfl ?_
      exact h_X11_busiest_b64 g x1 x2 x3
    · refine v_iload (pc' := 25) 4 dX11_busiest_23 rfl rfl ?_
      refine v_aload_n (pc' := 26) 0 dX11_busiest_25 rfl rfl rfl ?_
      refine v_getR (pc' := 29) fl_X11_19 dX11_busiest_26 rfl fun r3 => ?_
      refine v_getI (pc' := 32) fl_X11_137 dX11_busiest_29 rfl fun v4 => ?_
      refine v_icmpge (t := 64) (pc' := 35) dX11_busiest_32 (by decide) rfl ?_ ?_
      · refine V.sub [1, 2, 3] rfl ?_
        exact h_X11_busiest_b64 g x1 x2 x3
      · refine v_aload_n (pc' := 36) 0 dX11_busiest_35 rfl rfl rfl ?_
        refine v_getR (pc' := 39) fl_X11_87 dX11_busiest_36 rfl fun r5 => ?_
        refine v_iload (pc' := 41) 4 dX11_busiest_39 rfl rfl ?_
        refine v_callV (vs := [.int x4]) (pc' := 44) (h_X5_hangingBy g r5 x4) mv_X5_hangingBy wl_X11_354 rfl (Nat.le_of_ble_eq_true rfl) (by omega) (by decide) (Nat.le_of_ble_eq_true rfl) rfl dX11_busiest_41 rfl fun v6 => ?_
        refine v_istore (lv' := [(5, .int v6), (0, rf g a0), (1, .int x1), (2, .int x2), (3, .int x3), (4, .int x4)]) (pc' := 46) dX11_busiest_44 (by decide) rfl rfl ?_
        refine v_iload (pc' := 48) 0 dX11_busiest_46 rfl rfl ?_
        refine v_iload_n (pc' := 49) 4 dX11_busiest_48 rfl rfl rfl ?_
        refine v_icmple (t := 58) (pc' := 52) dX11_busiest_49 (by decide) rfl ?_ ?_
        · refine V.sub [1, 2, 3, 4, 5] rfl ?_
          exact h_X11_busiest_b58 g (f_X11_busiest_b13 n) ih a0 x1 x2 x3 x4
        · refine v_iload (pc' := 54) 5 dX11_busiest_52 rfl rfl ?_
          refine v_istore_n (lv' := [(2, .int x4), (5, .int v6), (0, rf g a0), (1, .int x1), (3, .int x3), (4, .int x4)]) (pc' := 55) dX11_busiest_54 rfl (by decide) rfl rfl ?_
          refine v_iload (pc' := 57) 1 dX11_busiest_55 rfl rfl ?_
          refine v_istore_n (lv' := [(3, .int v6), (2, .int x4), (5, .int v6), (0, rf g a0), (1, .int x1), (4, .int x4)]) (pc' := 58) dX11_busiest_57 rfl (by decide) rfl rfl ?_
          refine V.sub [3, 4, 1, 0, 5] rfl ?_
          exact h_X11_busiest_b58 g (f_X11_busiest_b13 n) ih a0 x1 x4 v6 x4
set_option maxRecDepth 20000 in
theorem h_X11_busiest (g : GW) (a0 : Nat) (x1 : Int32) : V g mX11_busiest 10 rtI 0 [(0, rf g a0), (1, .int x1)] [] (f_X11_busiest a0 x1) := by
  unfold f_X11_busiest
  refine v_aload_n (pc' := 1) 0 dX11_busiest_0 rfl rfl rfl ?_
  refine v_iload_n (pc' := 2) 1 dX11_busiest_1 rfl rfl rfl ?_
  refine v_iconst (v := 1) (pc' := 3) dX11_busiest_2 rfl rfl ?_
  refine v_callV (vs := [.int x1, .int 1]) (pc' := 6) (h_X11_needRange g a0 x1 1) mv_X11_needRange wl_X11_179 rfl (Nat.le_of_ble_eq_true rfl) (by omega) (by decide) (Nat.le_of_ble_eq_true rfl) rfl dX11_busiest_3 rfl fun _ => ?_
  refine v_iconst (v := -1) (pc' := 7) dX11_busiest_6 rfl rfl ?_
  refine v_istore_n (lv' := [(2, .int (-1)), (0, rf g a0), (1, .int x1)]) (pc' := 8) dX11_busiest_7 rfl (by decide) rfl rfl ?_
  refine v_iconst (v := -1) (pc' := 9) dX11_busiest_8 rfl rfl ?_
  refine v_istore_n (lv' := [(3, .int (-1)), (2, .int (-1)), (0, rf g a0), (1, .int x1)]) (pc' := 10) dX11_busiest_9 rfl (by decide) rfl rfl ?_
  refine v_iconst (v := 0) (pc' := 11) dX11_busiest_10 rfl rfl ?_
  refine v_istore (lv' := [(4, .int 0), (3, .int (-1)), (2, .int (-1)), (0, rf g a0), (1, .int x1)]) (pc' := 13) dX11_busiest_11 (by decide) rfl rfl ?_
  refine V.sub [3, 4, 2, 1, 0] rfl ?_
  exact h_X11_busiest_b13 g NF a0 x1 (-1) (-1) 0
-- unseen
def f_X11_unseen_b45 (k4 : Nat → Int32 → Int32 → Mo Int32) (a0 : Nat) (x1 : Int32) (x2 : Int32) : Mo Int32 := k4 a0 x1 (x2 + 1)
def f_X11_unseen_b4 : Nat → Nat → Int32 → Int32 → Mo Int32
  | 0, _, _, _ => fl
  | n + 1, a0, x1, x2 => bd (gR 11 1 a0) fun r1 => bd (gI 2 4 r1) fun v2 => if (v2 ≤ x2 : Prop) then (pu x1) else bd (gR 11 11 a0) fun r3 => bd (gR 5 1 r3) fun r4 => bd (al 0 r4 x2) fun v5 => if (v5 = 0 : Prop) then (bd (gR 11 11 a0) fun r6 => bd (gR 5 2 r6) fun r7 => bd (al 0 r7 x2) fun v8 => if (v8 = 0 : Prop) then (f_X11_unseen_b45 (f_X11_unseen_b4 n) a0 (x1 ||| ((1 : Int32) <<< (x2 &&& 31))) x2) else f_X11_unseen_b45 (f_X11_unseen_b4 n) a0 x1 x2) else f_X11_unseen_b45 (f_X11_unseen_b4 n) a0 x1 x2
def f_X11_unseen (a0 : Nat) : Mo Int32 := f_X11_unseen_b4 NF a0 0 0
set_option maxRecDepth 20000 in
theorem h_X11_unseen_b45 (g : GW) (k4 : Nat → Int32 → Int32 → Mo Int32) (hk4 : ∀ a0 x1 x2, V g mX11_unseen 8 rtI 4 [(0, rf g a0), (1, .int x1), (2, .int x2)] [] (k4 a0 x1 x2)) (a0 : Nat) (x1 : Int32) (x2 : Int32) : V g mX11_unseen 8 rtI 45 [(0, rf g a0), (1, .int x1), (2, .int x2)] [] (f_X11_unseen_b45 k4 a0 x1 x2) := by
  unfold f_X11_unseen_b45
  refine v_iinc (v := x2 + 1) (lv' := [(2, .int (x2 + 1)), (0, rf g a0), (1, .int x1)]) (pc' := 48) 2 dX11_unseen_45 rfl rfl (by decide) rfl rfl ?_
  refine v_goto (t := 4) dX11_unseen_48 (by decide) ?_
  refine V.sub [1, 2, 0] rfl ?_
  exact hk4 a0 x1 (x2 + 1)
set_option maxRecDepth 20000 in
theorem h_X11_unseen_b4 (g : GW) : ∀ n : Nat, ∀ a0 x1 x2, V g mX11_unseen 8 rtI 4 [(0, rf g a0), (1, .int x1), (2, .int x2)] [] (f_X11_unseen_b4 n a0 x1 x2) := by
  intro n
  induction n with
  | zero => intro a0 x1 x2; exact V.vain
  | succ n ih =>
    intro a0 x1 x2
    unfold f_X11_unseen_b4
    refine v_iload_n (pc' := 5) 2 dX11_unseen_4 rfl rfl rfl ?_
    refine v_aload_n (pc' := 6) 0 dX11_unseen_5 rfl rfl rfl ?_
    refine v_getR (pc' := 9) fl_X11_19 dX11_unseen_6 rfl fun r1 => ?_
    refine v_getI (pc' := 12) fl_X11_137 dX11_unseen_9 rfl fun v2 => ?_
    refine v_icmpge (t := 51) (pc' := 15) dX11_unseen_12 (by decide) rfl ?_ ?_
    · refine v_iload_n (pc' := 52) 1 dX11_unseen_51 rfl rfl rfl ?_
      exact v_ireturn rfl dX11_unseen_52
    · refine v_aload_n (pc' := 16) 0 dX11_unseen_15 rfl rfl rfl ?_
      refine v_getR (pc' := 19) fl_X11_87 dX11_unseen_16 rfl fun r3 => ?_
      refine v_getR (pc' := 22) fl_X11_213 dX11_unseen_19 rfl fun r4 => ?_
      refine v_iload_n (pc' := 23) 2 dX11_unseen_22 rfl rfl rfl ?_
      refine v_iald (pc' := 24) dX11_unseen_23 rfl fun v5 => ?_
      refine v_ifne (t := 45) (pc' := 27) dX11_unseen_24 (by decide) rfl ?_ ?_
      · refine V.sub [0, 1, 2] rfl ?_
        exact h_X11_unseen_b45 g (f_X11_unseen_b4 n) ih a0 x1 x2
      · refine v_aload_n (pc' := 28) 0 dX11_unseen_27 rfl rfl rfl ?_
        refine v_getR (pc' := 31) fl_X11_87 dX11_unseen_28 rfl fun r6 => ?_
        refine v_getR (pc' := 34) fl_X11_216 dX11_unseen_31 rfl fun r7 => ?_
        refine v_iload_n (pc' := 35) 2 dX11_unseen_34 rfl rfl rfl ?_
        refine v_iald (pc' := 36) dX11_unseen_35 rfl fun v8 => ?_
        refine v_ifne (t := 45) (pc' := 39) dX11_unseen_36 (by decide) rfl ?_ ?_
        · refine V.sub [0, 1, 2] rfl ?_
          exact h_X11_unseen_b45 g (f_X11_unseen_b4 n) ih a0 x1 x2
        · refine v_iload_n (pc' := 40) 1 dX11_unseen_39 rfl rfl rfl ?_
          refine v_iconst (v := 1) (pc' := 41) dX11_unseen_40 rfl rfl ?_
          refine v_iload_n (pc' := 42) 2 dX11_unseen_41 rfl rfl rfl ?_
          refine v_ishl (pc' := 43) dX11_unseen_42 rfl ?_
          refine v_ior (pc' := 44) dX11_unseen_43 rfl ?_
          refine v_istore_n (lv' := [(1, .int (x1 ||| ((1 : Int32) <<< (x2 &&& 31)))), (0, rf g a0), (2, .int x2)]) (pc' := 45) dX11_unseen_44 rfl (by decide) rfl rfl ?_
          refine V.sub [1, 0, 2] rfl ?_
          exact h_X11_unseen_b45 g (f_X11_unseen_b4 n) ih a0 (x1 ||| ((1 : Int32) <<< (x2 &&& 31))) x2
set_option maxRecDepth 20000 in
theorem h_X11_unseen (g : GW) (a0 : Nat) : V g mX11_unseen 8 rtI 0 [(0, rf g a0)] [] (f_X11_unseen a0) := by
  unfold f_X11_unseen
  refine v_iconst (v := 0) (pc' := 1) dX11_unseen_0 rfl rfl ?_
  refine v_istore_n (lv' := [(1, .int 0), (0, rf g a0)]) (pc' := 2) dX11_unseen_1 rfl (by decide) rfl rfl ?_
  refine v_iconst (v := 0) (pc' := 3) dX11_unseen_2 rfl rfl ?_
  refine v_istore_n (lv' := [(2, .int 0), (1, .int 0), (0, rf g a0)]) (pc' := 4) dX11_unseen_3 rfl (by decide) rfl rfl ?_
  refine V.sub [2, 1, 0] rfl ?_
  exact h_X11_unseen_b4 g NF a0 0 0
-- where
def f_X11_where_b52 (k9 : Nat → Int32 → Int32 → Int32 → Mo Int32) (a0 : Nat) (x1 : Int32) (x2 : Int32) (x3 : Int32) : Mo Int32 := k9 a0 x1 x2 (x3 + 1)
def f_X11_where_b9 : Nat → Nat → Int32 → Int32 → Int32 → Mo Int32
  | 0, _, _, _, _ => fl
  | n + 1, a0, x1, x2, x3 => bd (gR 11 11 a0) fun r1 => bd (gI 5 4 r1) fun v2 => if (v2 ≤ x3 : Prop) then (pu x2) else bd (gR 11 1 a0) fun r3 => bd (gR 11 11 a0) fun r4 => bd (cv 5 r4 (f_X5_faceOn r4 x3)) fun v5 => bd (cv 2 r3 (f_X2_nearest r3 v5)) fun v6 => if (v6 = x1 : Prop) then (bd (gR 11 11 a0) fun r7 => bd (cv 5 r7 (f_X5_hallOf r7 x3)) fun v8 => f_X11_where_b52 (f_X11_where_b9 n) a0 x1 (x2 ||| ((1 : Int32) <<< (v8 &&& 31))) x3) else f_X11_where_b52 (f_X11_where_b9 n) a0 x1 x2 x3
def f_X11_where (a0 : Nat) (x1 : Int32) : Mo Int32 := bd (cv 11 a0 (f_X11_needPerson a0 x1)) fun _ => f_X11_where_b9 NF a0 x1 0 0
set_option maxRecDepth 20000 in
theorem h_X11_where_b52 (g : GW) (k9 : Nat → Int32 → Int32 → Int32 → Mo Int32) (hk9 : ∀ a0 x1 x2 x3, V g mX11_where 10 rtI 9 [(0, rf g a0), (1, .int x1), (2, .int x2), (3, .int x3)] [] (k9 a0 x1 x2 x3)) (a0 : Nat) (x1 : Int32) (x2 : Int32) (x3 : Int32) : V g mX11_where 10 rtI 52 [(0, rf g a0), (1, .int x1), (2, .int x2), (3, .int x3)] [] (f_X11_where_b52 k9 a0 x1 x2 x3) := by
  unfold f_X11_where_b52
  refine v_iinc (v := x3 + 1) (lv' := [(3, .int (x3 + 1)), (0, rf g a0), (1, .int x1), (2, .int x2)]) (pc' := 55) 3 dX11_where_52 rfl rfl (by decide) rfl rfl ?_
  refine v_goto (t := 9) dX11_where_55 (by decide) ?_
  refine V.sub [1, 2, 3, 0] rfl ?_
  exact hk9 a0 x1 x2 (x3 + 1)
set_option maxRecDepth 20000 in
theorem h_X11_where_b9 (g : GW) : ∀ n : Nat, ∀ a0 x1 x2 x3, V g mX11_where 10 rtI 9 [(0, rf g a0), (1, .int x1), (2, .int x2), (3, .int x3)] [] (f_X11_where_b9 n a0 x1 x2 x3) := by
  intro n
  induction n with
  | zero => intro a0 x1 x2 x3; exact V.vain
  | succ n ih =>
    intro a0 x1 x2 x3
    unfold f_X11_where_b9
    refine v_iload_n (pc' := 10) 3 dX11_where_9 rfl rfl rfl ?_
    refine v_aload_n (pc' := 11) 0 dX11_where_10 rfl rfl rfl ?_
    refine v_getR (pc' := 14) fl_X11_87 dX11_where_11 rfl fun r1 => ?_
    refine v_getI (pc' := 17) fl_X11_182 dX11_where_14 rfl fun v2 => ?_
    refine v_icmpge (t := 58) (pc' := 20) dX11_where_17 (by decide) rfl ?_ ?_
    · refine v_iload_n (pc' := 59) 2 dX11_where_58 rfl rfl rfl ?_
      exact v_ireturn rfl dX11_where_59
    · refine v_aload_n (pc' := 21) 0 dX11_where_20 rfl rfl rfl ?_
      refine v_getR (pc' := 24) fl_X11_19 dX11_where_21 rfl fun r3 => ?_
      refine v_aload_n (pc' := 25) 0 dX11_where_24 rfl rfl rfl ?_
      refine v_getR (pc' := 28) fl_X11_87 dX11_where_25 rfl fun r4 => ?_
      refine v_iload_n (pc' := 29) 3 dX11_where_28 rfl rfl rfl ?_
      refine v_callV (vs := [.int x3]) (pc' := 32) (h_X5_faceOn g r4 x3) mv_X5_faceOn wl_X11_236 rfl (Nat.le_of_ble_eq_true rfl) (by omega) (by decide) (Nat.le_of_ble_eq_true rfl) rfl dX11_where_29 rfl fun v5 => ?_
      refine v_callV (vs := [.int v5]) (pc' := 35) (h_X2_nearest g r3 v5) mv_X2_nearest wl_X11_242 rfl (Nat.le_of_ble_eq_true rfl) (by omega) (by decide) (Nat.le_of_ble_eq_true rfl) rfl dX11_where_32 rfl fun v6 => ?_
      refine v_iload_n (pc' := 36) 1 dX11_where_35 rfl rfl rfl ?_
      refine v_icmpne (t := 52) (pc' := 39) dX11_where_36 (by decide) rfl ?_ ?_
      · refine V.sub [0, 1, 2, 3] rfl ?_
        exact h_X11_where_b52 g (f_X11_where_b9 n) ih a0 x1 x2 x3
      · refine v_iload_n (pc' := 40) 2 dX11_where_39 rfl rfl rfl ?_
        refine v_iconst (v := 1) (pc' := 41) dX11_where_40 rfl rfl ?_
        refine v_aload_n (pc' := 42) 0 dX11_where_41 rfl rfl rfl ?_
        refine v_getR (pc' := 45) fl_X11_87 dX11_where_42 rfl fun r7 => ?_
        refine v_iload_n (pc' := 46) 3 dX11_where_45 rfl rfl rfl ?_
        refine v_callV (vs := [.int x3]) (pc' := 49) (h_X5_hallOf g r7 x3) mv_X5_hallOf wl_X11_233 rfl (Nat.le_of_ble_eq_true rfl) (by omega) (by decide) (Nat.le_of_ble_eq_true rfl) rfl dX11_where_46 rfl fun v8 => ?_
        refine v_ishl (pc' := 50) dX11_where_49 rfl ?_
        refine v_ior (pc' := 51) dX11_where_50 rfl ?_
        refine v_istore_n (lv' := [(2, .int (x2 ||| ((1 : Int32) <<< (v8 &&& 31)))), (0, rf g a0), (1, .int x1), (3, .int x3)]) (pc' := 52) dX11_where_51 rfl (by decide) rfl rfl ?_
        refine V.sub [1, 2, 0, 3] rfl ?_
        exact h_X11_where_b52 g (f_X11_where_b9 n) ih a0 x1 (x2 ||| ((1 : Int32) <<< (v8 &&& 31))) x3
set_option maxRecDepth 20000 in
theorem h_X11_where (g : GW) (a0 : Nat) (x1 : Int32) : V g mX11_where 10 rtI 0 [(0, rf g a0), (1, .int x1)] [] (f_X11_where a0 x1) := by
  unfold f_X11_where
  refine v_aload_n (pc' := 1) 0 dX11_where_0 rfl rfl rfl ?_
  refine v_iload_n (pc' := 2) 1 dX11_where_1 rfl rfl rfl ?_
  refine v_callV (vs := [.int x1]) (pc' := 5) (h_X11_needPerson g a0 x1) mv_X11_needPerson wl_X11_197 rfl (Nat.le_of_ble_eq_true rfl) (by omega) (by decide) (Nat.le_of_ble_eq_true rfl) rfl dX11_where_2 rfl fun _ => ?_
  refine v_iconst (v := 0) (pc' := 6) dX11_where_5 rfl rfl ?_
  refine v_istore_n (lv' := [(2, .int 0), (0, rf g a0), (1, .int x1)]) (pc' := 7) dX11_where_6 rfl (by decide) rfl rfl ?_
  refine v_iconst (v := 0) (pc' := 8) dX11_where_7 rfl rfl ?_
  refine v_istore_n (lv' := [(3, .int 0), (2, .int 0), (0, rf g a0), (1, .int x1)]) (pc' := 9) dX11_where_8 rfl (by decide) rfl rfl ?_
  refine V.sub [2, 3, 1, 0] rfl ?_
  exact h_X11_where_b9 g NF a0 x1 0 0
-- twins
def f_X11_twins_b54 (k9 : Nat → Int32 → Int32 → Int32 → Mo Int32) (a0 : Nat) (x1 : Int32) (x2 : Int32) (x3 : Int32) : Mo Int32 := k9 a0 x1 x2 (x3 + 1)
def f_X11_twins_b9 : Nat → Nat → Int32 → Int32 → Int32 → Mo Int32
  | 0, _, _, _, _ => fl
  | n + 1, a0, x1, x2, x3 => bd (gR 11 1 a0) fun r1 => bd (gI 2 4 r1) fun v2 => if (v2 ≤ x3 : Prop) then (pu x2) else bd (gR 11 1 a0) fun r3 => bd (gR 11 1 a0) fun r4 => bd (gR 2 0 r4) fun r5 => bd (al 0 r5 x3) fun v6 => bd (gR 11 1 a0) fun r7 => bd (gR 2 0 r7) fun r8 => bd (al 0 r8 x1) fun v9 => bd (cv 2 r3 (f_X2_alike r3 v6 v9)) fun v10 => if (v10 = 0 : Prop) then (f_X11_twins_b54 (f_X11_twins_b9 n) a0 x1 x2 x3) else f_X11_twins_b54 (f_X11_twins_b9 n) a0 x1 (x2 ||| ((1 : Int32) <<< (x3 &&& 31))) x3
def f_X11_twins (a0 : Nat) (x1 : Int32) : Mo Int32 := bd (cv 11 a0 (f_X11_needPerson a0 x1)) fun _ => f_X11_twins_b9 NF a0 x1 0 0
set_option maxRecDepth 20000 in
theorem h_X11_twins_b54 (g : GW) (k9 : Nat → Int32 → Int32 → Int32 → Mo Int32) (hk9 : ∀ a0 x1 x2 x3, V g mX11_twins 10 rtI 9 [(0, rf g a0), (1, .int x1), (2, .int x2), (3, .int x3)] [] (k9 a0 x1 x2 x3)) (a0 : Nat) (x1 : Int32) (x2 : Int32) (x3 : Int32) : V g mX11_twins 10 rtI 54 [(0, rf g a0), (1, .int x1), (2, .int x2), (3, .int x3)] [] (f_X11_twins_b54 k9 a0 x1 x2 x3) := by
  unfold f_X11_twins_b54
  refine v_iinc (v := x3 + 1) (lv' := [(3, .int (x3 + 1)), (0, rf g a0), (1, .int x1), (2, .int x2)]) (pc' := 57) 3 dX11_twins_54 rfl rfl (by decide) rfl rfl ?_
  refine v_goto (t := 9) dX11_twins_57 (by decide) ?_
  refine V.sub [1, 2, 3, 0] rfl ?_
  exact hk9 a0 x1 x2 (x3 + 1)
set_option maxRecDepth 20000 in
theorem h_X11_twins_b9 (g : GW) : ∀ n : Nat, ∀ a0 x1 x2 x3, V g mX11_twins 10 rtI 9 [(0, rf g a0), (1, .int x1), (2, .int x2), (3, .int x3)] [] (f_X11_twins_b9 n a0 x1 x2 x3) := by
  intro n
  induction n with
  | zero => intro a0 x1 x2 x3; exact V.vain
  | succ n ih =>
    intro a0 x1 x2 x3
    unfold f_X11_twins_b9
    refine v_iload_n (pc' := 10) 3 dX11_twins_9 rfl rfl rfl ?_
    refine v_aload_n (pc' := 11) 0 dX11_twins_10 rfl rfl rfl ?_
    refine v_getR (pc' := 14) fl_X11_19 dX11_twins_11 rfl fun r1 => ?_
    refine v_getI (pc' := 17) fl_X11_137 dX11_twins_14 rfl fun v2 => ?_
    refine v_icmpge (t := 60) (pc' := 20) dX11_twins_17 (by decide) rfl ?_ ?_
    · refine v_iload_n (pc' := 61) 2 dX11_twins_60 rfl rfl rfl ?_
      exact v_ireturn rfl dX11_twins_61
    · refine v_aload_n (pc' := 21) 0 dX11_twins_20 rfl rfl rfl ?_
      refine v_getR (pc' := 24) fl_X11_19 dX11_twins_21 rfl fun r3 => ?_
      refine v_aload_n (pc' := 25) 0 dX11_twins_24 rfl rfl rfl ?_
      refine v_getR (pc' := 28) fl_X11_19 dX11_twins_25 rfl fun r4 => ?_
      refine v_getR (pc' := 31) fl_X11_200 dX11_twins_28 rfl fun r5 => ?_
      refine v_iload_n (pc' := 32) 3 dX11_twins_31 rfl rfl rfl ?_
      refine v_iald (pc' := 33) dX11_twins_32 rfl fun v6 => ?_
      refine v_aload_n (pc' := 34) 0 dX11_twins_33 rfl rfl rfl ?_
      refine v_getR (pc' := 37) fl_X11_19 dX11_twins_34 rfl fun r7 => ?_
      refine v_getR (pc' := 40) fl_X11_200 dX11_twins_37 rfl fun r8 => ?_
      refine v_iload_n (pc' := 41) 1 dX11_twins_40 rfl rfl rfl ?_
      refine v_iald (pc' := 42) dX11_twins_41 rfl fun v9 => ?_
      refine v_callV (vs := [.int v6, .int v9]) (pc' := 45) (h_X2_alike g r3 v6 v9) mv_X2_alike wl_X11_357 rfl (Nat.le_of_ble_eq_true rfl) (by omega) (by decide) (Nat.le_of_ble_eq_true rfl) rfl dX11_twins_42 rfl fun v10 => ?_
      refine v_ifeq (t := 54) (pc' := 48) dX11_twins_45 (by decide) rfl ?_ ?_
      · refine V.sub [0, 1, 2, 3] rfl ?_
        exact h_X11_twins_b54 g (f_X11_twins_b9 n) ih a0 x1 x2 x3
      · refine v_iload_n (pc' := 49) 2 dX11_twins_48 rfl rfl rfl ?_
        refine v_iconst (v := 1) (pc' := 50) dX11_twins_49 rfl rfl ?_
        refine v_iload_n (pc' := 51) 3 dX11_twins_50 rfl rfl rfl ?_
        refine v_ishl (pc' := 52) dX11_twins_51 rfl ?_
        refine v_ior (pc' := 53) dX11_twins_52 rfl ?_
        refine v_istore_n (lv' := [(2, .int (x2 ||| ((1 : Int32) <<< (x3 &&& 31)))), (0, rf g a0), (1, .int x1), (3, .int x3)]) (pc' := 54) dX11_twins_53 rfl (by decide) rfl rfl ?_
        refine V.sub [1, 2, 0, 3] rfl ?_
        exact h_X11_twins_b54 g (f_X11_twins_b9 n) ih a0 x1 (x2 ||| ((1 : Int32) <<< (x3 &&& 31))) x3
set_option maxRecDepth 20000 in
theorem h_X11_twins (g : GW) (a0 : Nat) (x1 : Int32) : V g mX11_twins 10 rtI 0 [(0, rf g a0), (1, .int x1)] [] (f_X11_twins a0 x1) := by
  unfold f_X11_twins
  refine v_aload_n (pc' := 1) 0 dX11_twins_0 rfl rfl rfl ?_
  refine v_iload_n (pc' := 2) 1 dX11_twins_1 rfl rfl rfl ?_
  refine v_callV (vs := [.int x1]) (pc' := 5) (h_X11_needPerson g a0 x1) mv_X11_needPerson wl_X11_197 rfl (Nat.le_of_ble_eq_true rfl) (by omega) (by decide) (Nat.le_of_ble_eq_true rfl) rfl dX11_twins_2 rfl fun _ => ?_
  refine v_iconst (v := 0) (pc' := 6) dX11_twins_5 rfl rfl ?_
  refine v_istore_n (lv' := [(2, .int 0), (0, rf g a0), (1, .int x1)]) (pc' := 7) dX11_twins_6 rfl (by decide) rfl rfl ?_
  refine v_iconst (v := 0) (pc' := 8) dX11_twins_7 rfl rfl ?_
  refine v_istore_n (lv' := [(3, .int 0), (2, .int 0), (0, rf g a0), (1, .int x1)]) (pc' := 9) dX11_twins_8 rfl (by decide) rfl rfl ?_
  refine V.sub [2, 3, 1, 0] rfl ?_
  exact h_X11_twins_b9 g NF a0 x1 0 0
-- chain
def f_X11_chain (a0 : Nat) (x1 : Int32) (x2 : Int32) : Mo Int32 := bd (cv 11 a0 (f_X11_needPerson a0 x1)) fun _ => bd (cv 11 a0 (f_X11_needPerson a0 x2)) fun _ => bd (gR 11 8 a0) fun r1 => bd (gR 11 11 a0) fun r2 => bd (cv 7 r1 (f_X7_look r1 r2)) fun _ => bd (gR 11 8 a0) fun r3 => bd (cv 7 r3 (f_X7_steps r3 x1 x2)) fun v4 => pu v4
set_option maxRecDepth 20000 in
theorem h_X11_chain (g : GW) (a0 : Nat) (x1 : Int32) (x2 : Int32) : V g mX11_chain 14 rtI 0 [(0, rf g a0), (1, .int x1), (2, .int x2)] [] (f_X11_chain a0 x1 x2) := by
  unfold f_X11_chain
  refine v_aload_n (pc' := 1) 0 dX11_chain_0 rfl rfl rfl ?_
  refine v_iload_n (pc' := 2) 1 dX11_chain_1 rfl rfl rfl ?_
  refine v_callV (vs := [.int x1]) (pc' := 5) (h_X11_needPerson g a0 x1) mv_X11_needPerson wl_X11_197 rfl (Nat.le_of_ble_eq_true rfl) (by omega) (by decide) (Nat.le_of_ble_eq_true rfl) rfl dX11_chain_2 rfl fun _ => ?_
  refine v_aload_n (pc' := 6) 0 dX11_chain_5 rfl rfl rfl ?_
  refine v_iload_n (pc' := 7) 2 dX11_chain_6 rfl rfl rfl ?_
  refine v_callV (vs := [.int x2]) (pc' := 10) (h_X11_needPerson g a0 x2) mv_X11_needPerson wl_X11_197 rfl (Nat.le_of_ble_eq_true rfl) (by omega) (by decide) (Nat.le_of_ble_eq_true rfl) rfl dX11_chain_7 rfl fun _ => ?_
  refine v_aload_n (pc' := 11) 0 dX11_chain_10 rfl rfl rfl ?_
  refine v_getR (pc' := 14) fl_X11_66 dX11_chain_11 rfl fun r1 => ?_
  refine v_aload_n (pc' := 15) 0 dX11_chain_14 rfl rfl rfl ?_
  refine v_getR (pc' := 18) fl_X11_87 dX11_chain_15 rfl fun r2 => ?_
  refine v_callV (vs := [rf g r2]) (pc' := 21) (h_X7_look g r1 r2) mv_X7_look wl_X11_274 rfl (Nat.le_of_ble_eq_true rfl) (by omega) (by decide) (Nat.le_of_ble_eq_true rfl) rfl dX11_chain_18 rfl fun _ => ?_
  refine v_aload_n (pc' := 22) 0 dX11_chain_21 rfl rfl rfl ?_
  refine v_getR (pc' := 25) fl_X11_66 dX11_chain_22 rfl fun r3 => ?_
  refine v_iload_n (pc' := 26) 1 dX11_chain_25 rfl rfl rfl ?_
  refine v_iload_n (pc' := 27) 2 dX11_chain_26 rfl rfl rfl ?_
  refine v_callV (vs := [.int x1, .int x2]) (pc' := 30) (h_X7_steps g r3 x1 x2) mv_X7_steps wl_X11_360 rfl (Nat.le_of_ble_eq_true rfl) (by omega) (by decide) (Nat.le_of_ble_eq_true rfl) rfl dX11_chain_27 rfl fun v4 => ?_
  exact v_ireturn rfl dX11_chain_30
-- looks
def f_X11_looks_b103 (k16 : Nat → Int32 → Int32 → Int32 → Int32 → Mo Int32) (a0 : Nat) (x1 : Int32) (x2 : Int32) (x3 : Int32) (x4 : Int32) : Mo Int32 := k16 a0 x1 x2 x3 (x4 + 1)
def f_X11_looks_b73 (k16 : Nat → Int32 → Int32 → Int32 → Int32 → Mo Int32) (a0 : Nat) (x1 : Int32) (x2 : Int32) (x3 : Int32) (x4 : Int32) (xs0 : Int32) : Mo Int32 := if (xs0 = 0 : Prop) then (f_X11_looks_b103 k16 a0 x1 x2 x3 x4) else bd (gR 11 1 a0) fun r1 => bd (gR 11 11 a0) fun r2 => bd (cv 5 r2 (f_X5_faceOn r2 x4)) fun v3 => bd (cv 2 r1 (f_X2_nearest r1 v3)) fun v4 => if (v4 = x1 : Prop) then (f_X11_looks_b103 k16 a0 x1 x2 (x3 + 1) x4) else f_X11_looks_b103 k16 a0 x1 x2 x3 x4
def f_X11_looks_b68 (k16 : Nat → Int32 → Int32 → Int32 → Int32 → Mo Int32) (a0 : Nat) (x1 : Int32) (x2 : Int32) (x3 : Int32) (x4 : Int32) : Mo Int32 := f_X11_looks_b73 k16 a0 x1 x2 x3 x4 1
def f_X11_looks_b72 (k16 : Nat → Int32 → Int32 → Int32 → Int32 → Mo Int32) (a0 : Nat) (x1 : Int32) (x2 : Int32) (x3 : Int32) (x4 : Int32) : Mo Int32 := f_X11_looks_b73 k16 a0 x1 x2 x3 x4 0
def f_X11_looks_b50 (k16 : Nat → Int32 → Int32 → Int32 → Int32 → Mo Int32) (a0 : Nat) (x1 : Int32) (x2 : Int32) (x3 : Int32) (x4 : Int32) : Mo Int32 := if (x2 = 2 : Prop) then (bd (gR 11 11 a0) fun r5 => bd (cv 5 r5 (f_X5_takerOf r5 x4)) fun v6 => if (v6 = x1 : Prop) then (f_X11_looks_b72 k16 a0 x1 x2 x3 x4) else f_X11_looks_b68 k16 a0 x1 x2 x3 x4) else f_X11_looks_b72 k16 a0 x1 x2 x3 x4
def f_X11_looks_b16 : Nat → Nat → Int32 → Int32 → Int32 → Int32 → Mo Int32
  | 0, _, _, _, _, _ => fl
  | n + 1, a0, x1, x2, x3, x4 => bd (gR 11 11 a0) fun r7 => bd (gI 5 4 r7) fun v8 => if (v8 ≤ x4 : Prop) then (pu x3) else if (x2 = 0 : Prop) then (f_X11_looks_b68 (f_X11_looks_b16 n) a0 x1 x2 x3 x4) else if (x2 = 1 : Prop) then (bd (gR 11 11 a0) fun r9 => bd (cv 5 r9 (f_X5_sitterOf r9 x4)) fun v10 => if (v10 = x1 : Prop) then (f_X11_looks_b50 (f_X11_looks_b16 n) a0 x1 x2 x3 x4) else f_X11_looks_b68 (f_X11_looks_b16 n) a0 x1 x2 x3 x4) else f_X11_looks_b50 (f_X11_looks_b16 n) a0 x1 x2 x3 x4
def f_X11_looks (a0 : Nat) (x1 : Int32) (x2 : Int32) : Mo Int32 := bd (cv 11 a0 (f_X11_needPerson a0 x1)) fun _ => bd (cv 11 a0 (f_X11_needRange a0 x2 2)) fun _ => f_X11_looks_b16 NF a0 x1 x2 0 0
set_option maxRecDepth 20000 in
theorem h_X11_looks_b103 (g : GW) (k16 : Nat → Int32 → Int32 → Int32 → Int32 → Mo Int32) (hk16 : ∀ a0 x1 x2 x3 x4, V g mX11_looks 10 rtI 16 [(0, rf g a0), (1, .int x1), (2, .int x2), (3, .int x3), (4, .int x4)] [] (k16 a0 x1 x2 x3 x4)) (a0 : Nat) (x1 : Int32) (x2 : Int32) (x3 : Int32) (x4 : Int32) : V g mX11_looks 10 rtI 103 [(0, rf g a0), (1, .int x1), (2, .int x2), (3, .int x3), (4, .int x4)] [] (f_X11_looks_b103 k16 a0 x1 x2 x3 x4) := by
  unfold f_X11_looks_b103
  refine v_iinc (v := x4 + 1) (lv' := [(4, .int (x4 + 1)), (0, rf g a0), (1, .int x1), (2, .int x2), (3, .int x3)]) (pc' := 106) 4 dX11_looks_103 rfl rfl (by decide) rfl rfl ?_
  refine v_goto (t := 16) dX11_looks_106 (by decide) ?_
  refine V.sub [1, 2, 3, 4, 0] rfl ?_
  exact hk16 a0 x1 x2 x3 (x4 + 1)
set_option maxRecDepth 20000 in
theorem h_X11_looks_b73 (g : GW) (k16 : Nat → Int32 → Int32 → Int32 → Int32 → Mo Int32) (hk16 : ∀ a0 x1 x2 x3 x4, V g mX11_looks 10 rtI 16 [(0, rf g a0), (1, .int x1), (2, .int x2), (3, .int x3), (4, .int x4)] [] (k16 a0 x1 x2 x3 x4)) (a0 : Nat) (x1 : Int32) (x2 : Int32) (x3 : Int32) (x4 : Int32) (xs0 : Int32) : V g mX11_looks 10 rtI 73 [(0, rf g a0), (1, .int x1), (2, .int x2), (3, .int x3), (4, .int x4)] [.int xs0] (f_X11_looks_b73 k16 a0 x1 x2 x3 x4 xs0) := by
  unfold f_X11_looks_b73
  refine v_istore (lv' := [(5, .int xs0), (0, rf g a0), (1, .int x1), (2, .int x2), (3, .int x3), (4, .int x4)]) (pc' := 75) dX11_looks_73 (by decide) rfl rfl ?_
  refine v_iload (pc' := 77) 0 dX11_looks_75 rfl rfl ?_
  refine v_ifeq (t := 103) (pc' := 80) dX11_looks_77 (by decide) rfl ?_ ?_
  · refine V.sub [1, 2, 3, 4, 5] rfl ?_
    exact h_X11_looks_b103 g k16 hk16 a0 x1 x2 x3 x4
  · refine v_aload_n (pc' := 81) 1 dX11_looks_80 rfl rfl rfl ?_
    refine v_getR (pc' := 84) fl_X11_19 dX11_looks_81 rfl fun r1 => ?_
    refine v_aload_n (pc' := 85) 1 dX11_looks_84 rfl rfl rfl ?_
    refine v_getR (pc' := 88) fl_X11_87 dX11_looks_85 rfl fun r2 => ?_
    refine v_iload (pc' := 90) 5 dX11_looks_88 rfl rfl ?_
    refine v_callV (vs := [.int x4]) (pc' := 93) (h_X5_faceOn g r2 x4) mv_X5_faceOn wl_X11_236 rfl (Nat.le_of_ble_eq_true rfl) (by omega) (by decide) (Nat.le_of_ble_eq_true rfl) rfl dX11_looks_90 rfl fun v3 => ?_
    refine v_callV (vs := [.int v3]) (pc' := 96) (h_X2_nearest g r1 v3) mv_X2_nearest wl_X11_242 rfl (Nat.le_of_ble_eq_true rfl) (by omega) (by decide) (Nat.le_of_ble_eq_true rfl) rfl dX11_looks_93 rfl fun v4 => ?_
    refine v_iload_n (pc' := 97) 2 dX11_looks_96 rfl rfl rfl ?_
    refine v_icmpne (t := 103) (pc' := 100) dX11_looks_97 (by decide) rfl ?_ ?_
    · refine V.sub [1, 2, 3, 4, 5] rfl ?_
      exact h_X11_looks_b103 g k16 hk16 a0 x1 x2 x3 x4
    · refine v_iinc (v := x3 + 1) (lv' := [(3, .int (x3 + 1)), (5, .int xs0), (0, rf g a0), (1, .int x1), (2, .int x2), (4, .int x4)]) (pc' := 103) 4 dX11_looks_100 rfl rfl (by decide) rfl rfl ?_
      refine V.sub [2, 3, 4, 0, 5] rfl ?_
      exact h_X11_looks_b103 g k16 hk16 a0 x1 x2 (x3 + 1) x4
set_option maxRecDepth 20000 in
theorem h_X11_looks_b68 (g : GW) (k16 : Nat → Int32 → Int32 → Int32 → Int32 → Mo Int32) (hk16 : ∀ a0 x1 x2 x3 x4, V g mX11_looks 10 rtI 16 [(0, rf g a0), (1, .int x1), (2, .int x2), (3, .int x3), (4, .int x4)] [] (k16 a0 x1 x2 x3 x4)) (a0 : Nat) (x1 : Int32) (x2 : Int32) (x3 : Int32) (x4 : Int32) : V g mX11_looks 10 rtI 68 [(0, rf g a0), (1, .int x1), (2, .int x2), (3, .int x3), (4, .int x4)] [] (f_X11_looks_b68 k16 a0 x1 x2 x3 x4) := by
  unfold f_X11_looks_b68
  refine v_iconst (v := 1) (pc' := 69) dX11_looks_68 rfl rfl ?_
  refine v_goto (t := 73) dX11_looks_69 (by decide) ?_
  refine V.sub [0, 1, 2, 3, 4] rfl ?_
  exact h_X11_looks_b73 g k16 hk16 a0 x1 x2 x3 x4 1
set_option maxRecDepth 20000 in
theorem h_X11_looks_b72 (g : GW) (k16 : Nat → Int32 → Int32 → Int32 → Int32 → Mo Int32) (hk16 : ∀ a0 x1 x2 x3 x4, V g mX11_looks 10 rtI 16 [(0, rf g a0), (1, .int x1), (2, .int x2), (3, .int x3), (4, .int x4)] [] (k16 a0 x1 x2 x3 x4)) (a0 : Nat) (x1 : Int32) (x2 : Int32) (x3 : Int32) (x4 : Int32) : V g mX11_looks 10 rtI 72 [(0, rf g a0), (1, .int x1), (2, .int x2), (3, .int x3), (4, .int x4)] [] (f_X11_looks_b72 k16 a0 x1 x2 x3 x4) := by
  unfold f_X11_looks_b72
  refine v_iconst (v := 0) (pc' := 73) dX11_looks_72 rfl rfl ?_
  refine V.sub [0, 1, 2, 3, 4] rfl ?_
  exact h_X11_looks_b73 g k16 hk16 a0 x1 x2 x3 x4 0
set_option maxRecDepth 20000 in
theorem h_X11_looks_b50 (g : GW) (k16 : Nat → Int32 → Int32 → Int32 → Int32 → Mo Int32) (hk16 : ∀ a0 x1 x2 x3 x4, V g mX11_looks 10 rtI 16 [(0, rf g a0), (1, .int x1), (2, .int x2), (3, .int x3), (4, .int x4)] [] (k16 a0 x1 x2 x3 x4)) (a0 : Nat) (x1 : Int32) (x2 : Int32) (x3 : Int32) (x4 : Int32) : V g mX11_looks 10 rtI 50 [(0, rf g a0), (1, .int x1), (2, .int x2), (3, .int x3), (4, .int x4)] [] (f_X11_looks_b50 k16 a0 x1 x2 x3 x4) := by
  unfold f_X11_looks_b50
  refine v_iload_n (pc' := 51) 2 dX11_looks_50 rfl rfl rfl ?_
  refine v_iconst (v := 2) (pc' := 52) dX11_looks_51 rfl rfl ?_
  refine v_icmpne (t := 72) (pc' := 55) dX11_looks_52 (by decide) rfl ?_ ?_
  · refine V.sub [0, 1, 2, 3, 4] rfl ?_
    exact h_X11_looks_b72 g k16 hk16 a0 x1 x2 x3 x4
  · refine v_aload_n (pc' := 56) 0 dX11_looks_55 rfl rfl rfl ?_
    refine v_getR (pc' := 59) fl_X11_87 dX11_looks_56 rfl fun r5 => ?_
    refine v_iload (pc' := 61) 4 dX11_looks_59 rfl rfl ?_
    refine v_callV (vs := [.int x4]) (pc' := 64) (h_X5_takerOf g r5 x4) mv_X5_takerOf wl_X11_226 rfl (Nat.le_of_ble_eq_true rfl) (by omega) (by decide) (Nat.le_of_ble_eq_true rfl) rfl dX11_looks_61 rfl fun v6 => ?_
    refine v_iload_n (pc' := 65) 1 dX11_looks_64 rfl rfl rfl ?_
    refine v_icmpeq (t := 72) (pc' := 68) dX11_looks_65 (by decide) rfl ?_ ?_
    · refine V.sub [0, 1, 2, 3, 4] rfl ?_
      exact h_X11_looks_b72 g k16 hk16 a0 x1 x2 x3 x4
    · refine V.sub [0, 1, 2, 3, 4] rfl ?_
      exact h_X11_looks_b68 g k16 hk16 a0 x1 x2 x3 x4
set_option maxRecDepth 20000 in
theorem h_X11_looks_b16 (g : GW) : ∀ n : Nat, ∀ a0 x1 x2 x3 x4, V g mX11_looks 10 rtI 16 [(0, rf g a0), (1, .int x1), (2, .int x2), (3, .int x3), (4, .int x4)] [] (f_X11_looks_b16 n a0 x1 x2 x3 x4) := by
  intro n
  induction n with
  | zero => intro a0 x1 x2 x3 x4; exact V.vain
  | succ n ih =>
    intro a0 x1 x2 x3 x4
    unfold f_X11_looks_b16
    refine v_iload (pc' := 18) 4 dX11_looks_16 rfl rfl ?_
    refine v_aload_n (pc' := 19) 0 dX11_looks_18 rfl rfl rfl ?_
    refine v_getR (pc' := 22) fl_X11_87 dX11_looks_19 rfl fun r7 => ?_
    refine v_getI (pc' := 25) fl_X11_182 dX11_looks_22 rfl fun v8 => ?_
    refine v_icmpge (t := 109) (pc' := 28) dX11_looks_25 (by decide) rfl ?_ ?_
    · refine v_iload_n (pc' := 110) 3 dX11_looks_109 rfl rfl rfl ?_
      exact v_ireturn rfl dX11_looks_110
    · refine v_iload_n (pc' := 29) 2 dX11_looks_28 rfl rfl rfl ?_
      refine v_ifeq (t := 68) (pc' := 32) dX11_looks_29 (by decide) rfl ?_ ?_
      · refine V.sub [0, 1, 2, 3, 4] rfl ?_
        exact h_X11_looks_b68 g (f_X11_looks_b16 n) ih a0 x1 x2 x3 x4
      · refine v_iload_n (pc' := 33) 2 dX11_looks_32 rfl rfl rfl ?_
        refine v_iconst (v := 1) (pc' := 34) dX11_looks_33 rfl rfl ?_
        refine v_icmpne (t := 50) (pc' := 37) dX11_looks_34 (by decide) rfl ?_ ?_
        · refine V.sub [0, 1, 2, 3, 4] rfl ?_
          exact h_X11_looks_b50 g (f_X11_looks_b16 n) ih a0 x1 x2 x3 x4
        · refine v_aload_n (pc' := 38) 0 dX11_looks_37 rfl rfl rfl ?_
          refine v_getR (pc' := 41) fl_X11_87 dX11_looks_38 rfl fun r9 => ?_
          refine v_iload (pc' := 43) 4 dX11_looks_41 rfl rfl ?_
          refine v_callV (vs := [.int x4]) (pc' := 46) (h_X5_sitterOf g r9 x4) mv_X5_sitterOf wl_X11_230 rfl (Nat.le_of_ble_eq_true rfl) (by omega) (by decide) (Nat.le_of_ble_eq_true rfl) rfl dX11_looks_43 rfl fun v10 => ?_
          refine v_iload_n (pc' := 47) 1 dX11_looks_46 rfl rfl rfl ?_
          refine v_icmpne (t := 68) (pc' := 50) dX11_looks_47 (by decide) rfl ?_ ?_
          · refine V.sub [0, 1, 2, 3, 4] rfl ?_
            exact h_X11_looks_b68 g (f_X11_looks_b16 n) ih a0 x1 x2 x3 x4
          · refine V.sub [0, 1, 2, 3, 4] rfl ?_
            exact h_X11_looks_b50 g (f_X11_looks_b16 n) ih a0 x1 x2 x3 x4
set_option maxRecDepth 20000 in
theorem h_X11_looks (g : GW) (a0 : Nat) (x1 : Int32) (x2 : Int32) : V g mX11_looks 10 rtI 0 [(0, rf g a0), (1, .int x1), (2, .int x2)] [] (f_X11_looks a0 x1 x2) := by
  unfold f_X11_looks
  refine v_aload_n (pc' := 1) 0 dX11_looks_0 rfl rfl rfl ?_
  refine v_iload_n (pc' := 2) 1 dX11_looks_1 rfl rfl rfl ?_
  refine v_callV (vs := [.int x1]) (pc' := 5) (h_X11_needPerson g a0 x1) mv_X11_needPerson wl_X11_197 rfl (Nat.le_of_ble_eq_true rfl) (by omega) (by decide) (Nat.le_of_ble_eq_true rfl) rfl dX11_looks_2 rfl fun _ => ?_
  refine v_aload_n (pc' := 6) 0 dX11_looks_5 rfl rfl rfl ?_
  refine v_iload_n (pc' := 7) 2 dX11_looks_6 rfl rfl rfl ?_
  refine v_iconst (v := 2) (pc' := 8) dX11_looks_7 rfl rfl ?_
  refine v_callV (vs := [.int x2, .int 2]) (pc' := 11) (h_X11_needRange g a0 x2 2) mv_X11_needRange wl_X11_179 rfl (Nat.le_of_ble_eq_true rfl) (by omega) (by decide) (Nat.le_of_ble_eq_true rfl) rfl dX11_looks_8 rfl fun _ => ?_
  refine v_iconst (v := 0) (pc' := 12) dX11_looks_11 rfl rfl ?_
  refine v_istore_n (lv' := [(3, .int 0), (0, rf g a0), (1, .int x1), (2, .int x2)]) (pc' := 13) dX11_looks_12 rfl (by decide) rfl rfl ?_
  refine v_iconst (v := 0) (pc' := 14) dX11_looks_13 rfl rfl ?_
  refine v_istore (lv' := [(4, .int 0), (3, .int 0), (0, rf g a0), (1, .int x1), (2, .int x2)]) (pc' := 16) dX11_looks_14 (by decide) rfl rfl ?_
  refine V.sub [2, 3, 4, 1, 0] rfl ?_
  exact h_X11_looks_b16 g NF a0 x1 x2 0 0
-- cheapest
def f_X11_cheapest (a0 : Nat) (x1 : Int32) (x2 : Int32) : Mo Int32 := bd (cv 11 a0 (f_X11_needBits a0 x1)) fun _ => bd (cv 11 a0 (f_X11_needRange a0 x2 1)) fun _ => bd (gR 11 8 a0) fun r1 => bd (gR 11 11 a0) fun r2 => bd (cv 7 r1 (f_X7_look r1 r2)) fun _ => bd (gR 11 8 a0) fun r3 => bd (cv 7 r3 (f_X7_leastSet r3 x1 1)) fun v4 => if (x2 = 1 : Prop) then (pu v4) else if (v4 = (-1) : Prop) then (pu v4) else bd (gR 11 1 a0) fun r5 => bd (cv 2 r5 (f_X2_priceOf r5 v4)) fun v6 => pu v6
set_option maxRecDepth 20000 in
theorem h_X11_cheapest (g : GW) (a0 : Nat) (x1 : Int32) (x2 : Int32) : V g mX11_cheapest 14 rtI 0 [(0, rf g a0), (1, .int x1), (2, .int x2)] [] (f_X11_cheapest a0 x1 x2) := by
  unfold f_X11_cheapest
  refine v_aload_n (pc' := 1) 0 dX11_cheapest_0 rfl rfl rfl ?_
  refine v_iload_n (pc' := 2) 1 dX11_cheapest_1 rfl rfl rfl ?_
  refine v_callV (vs := [.int x1]) (pc' := 5) (h_X11_needBits g a0 x1) mv_X11_needBits wl_X11_271 rfl (Nat.le_of_ble_eq_true rfl) (by omega) (by decide) (Nat.le_of_ble_eq_true rfl) rfl dX11_cheapest_2 rfl fun _ => ?_
  refine v_aload_n (pc' := 6) 0 dX11_cheapest_5 rfl rfl rfl ?_
  refine v_iload_n (pc' := 7) 2 dX11_cheapest_6 rfl rfl rfl ?_
  refine v_iconst (v := 1) (pc' := 8) dX11_cheapest_7 rfl rfl ?_
  refine v_callV (vs := [.int x2, .int 1]) (pc' := 11) (h_X11_needRange g a0 x2 1) mv_X11_needRange wl_X11_179 rfl (Nat.le_of_ble_eq_true rfl) (by omega) (by decide) (Nat.le_of_ble_eq_true rfl) rfl dX11_cheapest_8 rfl fun _ => ?_
  refine v_aload_n (pc' := 12) 0 dX11_cheapest_11 rfl rfl rfl ?_
  refine v_getR (pc' := 15) fl_X11_66 dX11_cheapest_12 rfl fun r1 => ?_
  refine v_aload_n (pc' := 16) 0 dX11_cheapest_15 rfl rfl rfl ?_
  refine v_getR (pc' := 19) fl_X11_87 dX11_cheapest_16 rfl fun r2 => ?_
  refine v_callV (vs := [rf g r2]) (pc' := 22) (h_X7_look g r1 r2) mv_X7_look wl_X11_274 rfl (Nat.le_of_ble_eq_true rfl) (by omega) (by decide) (Nat.le_of_ble_eq_true rfl) rfl dX11_cheapest_19 rfl fun _ => ?_
  refine v_aload_n (pc' := 23) 0 dX11_cheapest_22 rfl rfl rfl ?_
  refine v_getR (pc' := 26) fl_X11_66 dX11_cheapest_23 rfl fun r3 => ?_
  refine v_iload_n (pc' := 27) 1 dX11_cheapest_26 rfl rfl rfl ?_
  refine v_iconst (v := 1) (pc' := 28) dX11_cheapest_27 rfl rfl ?_
  refine v_callV (vs := [.int x1, .int 1]) (pc' := 31) (h_X7_leastSet g r3 x1 1) mv_X7_leastSet wl_X11_277 rfl (Nat.le_of_ble_eq_true rfl) (by omega) (by decide) (Nat.le_of_ble_eq_true rfl) rfl dX11_cheapest_28 rfl fun v4 => ?_
  refine v_istore_n (lv' := [(3, .int v4), (0, rf g a0), (1, .int x1), (2, .int x2)]) (pc' := 32) dX11_cheapest_31 rfl (by decide) rfl rfl ?_
  refine v_iload_n (pc' := 33) 3 dX11_cheapest_32 rfl rfl rfl ?_
  refine v_iconst (v := 1) (pc' := 34) dX11_cheapest_33 rfl rfl ?_
  refine v_icmpeq (t := 42) (pc' := 37) dX11_cheapest_34 (by decide) rfl ?_ ?_
  · refine v_iload_n (pc' := 43) 0 dX11_cheapest_42 rfl rfl rfl ?_
    refine v_goto (t := 54) dX11_cheapest_43 (by decide) ?_
    exact v_ireturn rfl dX11_cheapest_54
  · refine v_iload_n (pc' := 38) 0 dX11_cheapest_37 rfl rfl rfl ?_
    refine v_iconst (v := -1) (pc' := 39) dX11_cheapest_38 rfl rfl ?_
    refine v_icmpne (t := 46) (pc' := 42) dX11_cheapest_39 (by decide) rfl ?_ ?_
    · refine v_aload_n (pc' := 47) 1 dX11_cheapest_46 rfl rfl rfl ?_
      refine v_getR (pc' := 50) fl_X11_19 dX11_cheapest_47 rfl fun r5 => ?_
      refine v_iload_n (pc' := 51) 0 dX11_cheapest_50 rfl rfl rfl ?_
      refine v_callV (vs := [.int v4]) (pc' := 54) (h_X2_priceOf g r5 v4) mv_X2_priceOf wl_X11_363 rfl (Nat.le_of_ble_eq_true rfl) (by omega) (by decide) (Nat.le_of_ble_eq_true rfl) rfl dX11_cheapest_51 rfl fun v6 => ?_
      exact v_ireturn rfl dX11_cheapest_54
    · refine v_iload_n (pc' := 43) 0 dX11_cheapest_42 rfl rfl rfl ?_
      refine v_goto (t := 54) dX11_cheapest_43 (by decide) ?_
      exact v_ireturn rfl dX11_cheapest_54
-- common
def f_X11_common_b43 (k11 : Nat → Int32 → Int32 → Int32 → Mo Int32) (a0 : Nat) (x1 : Int32) (x2 : Int32) (x3 : Int32) : Mo Int32 := k11 a0 x1 x2 (x3 + 1)
def f_X11_common_b11 : Nat → Nat → Int32 → Int32 → Int32 → Mo Int32
  | 0, _, _, _, _ => fl
  | n + 1, a0, x1, x2, x3 => bd (gR 11 1 a0) fun r1 => bd (gI 2 4 r1) fun v2 => if (v2 ≤ x3 : Prop) then (pu x2) else bd (gR 11 1 a0) fun r3 => bd (gR 2 0 r3) fun r4 => bd (al 0 r4 x3) fun v5 => if ((v5 &&& x1) = x1 : Prop) then (f_X11_common_b43 (f_X11_common_b11 n) a0 x1 (x2 ||| ((1 : Int32) <<< (x3 &&& 31))) x3) else f_X11_common_b43 (f_X11_common_b11 n) a0 x1 x2 x3
def f_X11_common (a0 : Nat) (x1 : Int32) : Mo Int32 := bd (cv 11 a0 (f_X11_needRange a0 x1 63)) fun _ => f_X11_common_b11 NF a0 x1 0 0
set_option maxRecDepth 20000 in
theorem h_X11_common_b43 (g : GW) (k11 : Nat → Int32 → Int32 → Int32 → Mo Int32) (hk11 : ∀ a0 x1 x2 x3, V g mX11_common 10 rtI 11 [(0, rf g a0), (1, .int x1), (2, .int x2), (3, .int x3)] [] (k11 a0 x1 x2 x3)) (a0 : Nat) (x1 : Int32) (x2 : Int32) (x3 : Int32) : V g mX11_common 10 rtI 43 [(0, rf g a0), (1, .int x1), (2, .int x2), (3, .int x3)] [] (f_X11_common_b43 k11 a0 x1 x2 x3) := by
  unfold f_X11_common_b43
  refine v_iinc (v := x3 + 1) (lv' := [(3, .int (x3 + 1)), (0, rf g a0), (1, .int x1), (2, .int x2)]) (pc' := 46) 3 dX11_common_43 rfl rfl (by decide) rfl rfl ?_
  refine v_goto (t := 11) dX11_common_46 (by decide) ?_
  refine V.sub [1, 2, 3, 0] rfl ?_
  exact hk11 a0 x1 x2 (x3 + 1)
set_option maxRecDepth 20000 in
theorem h_X11_common_b11 (g : GW) : ∀ n : Nat, ∀ a0 x1 x2 x3, V g mX11_common 10 rtI 11 [(0, rf g a0), (1, .int x1), (2, .int x2), (3, .int x3)] [] (f_X11_common_b11 n a0 x1 x2 x3) := by
  intro n
  induction n with
  | zero => intro a0 x1 x2 x3; exact V.vain
  | succ n ih =>
    intro a0 x1 x2 x3
    unfold f_X11_common_b11
    refine v_iload_n (pc' := 12) 3 dX11_common_11 rfl rfl rfl ?_
    refine v_aload_n (pc' := 13) 0 dX11_common_12 rfl rfl rfl ?_
    refine v_getR (pc' := 16) fl_X11_19 dX11_common_13 rfl fun r1 => ?_
    refine v_getI (pc' := 19) fl_X11_137 dX11_common_16 rfl fun v2 => ?_
    refine v_icmpge (t := 49) (pc' := 22) dX11_common_19 (by decide) rfl ?_ ?_
    · refine v_iload_n (pc' := 50) 2 dX11_common_49 rfl rfl rfl ?_
      exact v_ireturn rfl dX11_common_50
    · refine v_aload_n (pc' := 23) 0 dX11_common_22 rfl rfl rfl ?_
      refine v_getR (pc' := 26) fl_X11_19 dX11_common_23 rfl fun r3 => ?_
      refine v_getR (pc' := 29) fl_X11_200 dX11_common_26 rfl fun r4 => ?_
      refine v_iload_n (pc' := 30) 3 dX11_common_29 rfl rfl rfl ?_
      refine v_iald (pc' := 31) dX11_common_30 rfl fun v5 => ?_
      refine v_iload_n (pc' := 32) 1 dX11_common_31 rfl rfl rfl ?_
      refine v_iand (pc' := 33) dX11_common_32 rfl ?_
      refine v_iload_n (pc' := 34) 1 dX11_common_33 rfl rfl rfl ?_
      refine v_icmpne (t := 43) (pc' := 37) dX11_common_34 (by decide) rfl ?_ ?_
      · refine V.sub [0, 1, 2, 3] rfl ?_
        exact h_X11_common_b43 g (f_X11_common_b11 n) ih a0 x1 x2 x3
      · refine v_iload_n (pc' := 38) 2 dX11_common_37 rfl rfl rfl ?_
        refine v_iconst (v := 1) (pc' := 39) dX11_common_38 rfl rfl ?_
        refine v_iload_n (pc' := 40) 3 dX11_common_39 rfl rfl rfl ?_
        refine v_ishl (pc' := 41) dX11_common_40 rfl ?_
        refine v_ior (pc' := 42) dX11_common_41 rfl ?_
        refine v_istore_n (lv' := [(2, .int (x2 ||| ((1 : Int32) <<< (x3 &&& 31)))), (0, rf g a0), (1, .int x1), (3, .int x3)]) (pc' := 43) dX11_common_42 rfl (by decide) rfl rfl ?_
        refine V.sub [1, 2, 0, 3] rfl ?_
        exact h_X11_common_b43 g (f_X11_common_b11 n) ih a0 x1 (x2 ||| ((1 : Int32) <<< (x3 &&& 31))) x3
set_option maxRecDepth 20000 in
theorem h_X11_common (g : GW) (a0 : Nat) (x1 : Int32) : V g mX11_common 10 rtI 0 [(0, rf g a0), (1, .int x1)] [] (f_X11_common a0 x1) := by
  unfold f_X11_common
  refine v_aload_n (pc' := 1) 0 dX11_common_0 rfl rfl rfl ?_
  refine v_iload_n (pc' := 2) 1 dX11_common_1 rfl rfl rfl ?_
  refine v_bipush (v := 63) (pc' := 4) dX11_common_2 rfl rfl ?_
  refine v_callV (vs := [.int x1, .int 63]) (pc' := 7) (h_X11_needRange g a0 x1 63) mv_X11_needRange wl_X11_179 rfl (Nat.le_of_ble_eq_true rfl) (by omega) (by decide) (Nat.le_of_ble_eq_true rfl) rfl dX11_common_4 rfl fun _ => ?_
  refine v_iconst (v := 0) (pc' := 8) dX11_common_7 rfl rfl ?_
  refine v_istore_n (lv' := [(2, .int 0), (0, rf g a0), (1, .int x1)]) (pc' := 9) dX11_common_8 rfl (by decide) rfl rfl ?_
  refine v_iconst (v := 0) (pc' := 10) dX11_common_9 rfl rfl ?_
  refine v_istore_n (lv' := [(3, .int 0), (2, .int 0), (0, rf g a0), (1, .int x1)]) (pc' := 11) dX11_common_10 rfl (by decide) rfl rfl ?_
  refine V.sub [2, 3, 1, 0] rfl ?_
  exact h_X11_common_b11 g NF a0 x1 0 0
-- moodFor
def f_X11_moodFor_b12 : Nat → Nat → Int32 → Int32 → Int32 → Mo Int32
  | 0, _, _, _, _ => fl
  | n + 1, a0, x1, x2, x3 => if (9 < x3 : Prop) then (pu (-1)) else bd (gR 11 7 a0) fun r1 => bd (gR 11 11 a0) fun r2 => bd (cv 6 r1 (f_X6_hasAsHimself r1 r2 x1 x2 x3)) fun v3 => if (v3 = 0 : Prop) then ((f_X11_moodFor_b12 n) a0 x1 x2 (x3 + 1)) else pu x3
def f_X11_moodFor (a0 : Nat) (x1 : Int32) (x2 : Int32) : Mo Int32 := bd (cv 11 a0 (f_X11_needPerson a0 x1)) fun _ => bd (cv 11 a0 (f_X11_needPerson a0 x2)) fun _ => f_X11_moodFor_b12 NF a0 x1 x2 0
set_option maxRecDepth 20000 in
theorem h_X11_moodFor_b12 (g : GW) : ∀ n : Nat, ∀ a0 x1 x2 x3, V g mX11_moodFor 12 rtI 12 [(0, rf g a0), (1, .int x1), (2, .int x2), (3, .int x3)] [] (f_X11_moodFor_b12 n a0 x1 x2 x3) := by
  intro n
  induction n with
  | zero => intro a0 x1 x2 x3; exact V.vain
  | succ n ih =>
    intro a0 x1 x2 x3
    unfold f_X11_moodFor_b12
    refine v_iload_n (pc' := 13) 3 dX11_moodFor_12 rfl rfl rfl ?_
    refine v_bipush (v := 9) (pc' := 15) dX11_moodFor_13 rfl rfl ?_
    refine v_icmpgt (t := 43) (pc' := 18) dX11_moodFor_15 (by decide) rfl ?_ ?_
    · refine v_iconst (v := -1) (pc' := 44) dX11_moodFor_43 rfl rfl ?_
      exact v_ireturn rfl dX11_moodFor_44
    · refine v_aload_n (pc' := 19) 0 dX11_moodFor_18 rfl rfl rfl ?_
      refine v_getR (pc' := 22) fl_X11_57 dX11_moodFor_19 rfl fun r1 => ?_
      refine v_aload_n (pc' := 23) 0 dX11_moodFor_22 rfl rfl rfl ?_
      refine v_getR (pc' := 26) fl_X11_87 dX11_moodFor_23 rfl fun r2 => ?_
      refine v_iload_n (pc' := 27) 1 dX11_moodFor_26 rfl rfl rfl ?_
      refine v_iload_n (pc' := 28) 2 dX11_moodFor_27 rfl rfl rfl ?_
      refine v_iload_n (pc' := 29) 3 dX11_moodFor_28 rfl rfl rfl ?_
      refine v_callV (vs := [rf g r2, .int x1, .int x2, .int x3]) (pc' := 32) (h_X6_hasAsHimself g r1 r2 x1 x2 x3) mv_X6_hasAsHimself wl_X11_366 rfl (Nat.le_of_ble_eq_true rfl) (by omega) (by decide) (Nat.le_of_ble_eq_true rfl) rfl dX11_moodFor_29 rfl fun v3 => ?_
      refine v_ifeq (t := 37) (pc' := 35) dX11_moodFor_32 (by decide) rfl ?_ ?_
      · refine v_iinc (v := x3 + 1) (lv' := [(3, .int (x3 + 1)), (0, rf g a0), (1, .int x1), (2, .int x2)]) (pc' := 40) 3 dX11_moodFor_37 rfl rfl (by decide) rfl rfl ?_
        refine v_goto (t := 12) dX11_moodFor_40 (by decide) ?_
        refine V.sub [1, 2, 3, 0] rfl ?_
        exact ih a0 x1 x2 (x3 + 1)
      · refine v_iload_n (pc' := 36) 3 dX11_moodFor_35 rfl rfl rfl ?_
        exact v_ireturn rfl dX11_moodFor_36
set_option maxRecDepth 20000 in
theorem h_X11_moodFor (g : GW) (a0 : Nat) (x1 : Int32) (x2 : Int32) : V g mX11_moodFor 12 rtI 0 [(0, rf g a0), (1, .int x1), (2, .int x2)] [] (f_X11_moodFor a0 x1 x2) := by
  unfold f_X11_moodFor
  refine v_aload_n (pc' := 1) 0 dX11_moodFor_0 rfl rfl rfl ?_
  refine v_iload_n (pc' := 2) 1 dX11_moodFor_1 rfl rfl rfl ?_
  refine v_callV (vs := [.int x1]) (pc' := 5) (h_X11_needPerson g a0 x1) mv_X11_needPerson wl_X11_197 rfl (Nat.le_of_ble_eq_true rfl) (by omega) (by decide) (Nat.le_of_ble_eq_true rfl) rfl dX11_moodFor_2 rfl fun _ => ?_
  refine v_aload_n (pc' := 6) 0 dX11_moodFor_5 rfl rfl rfl ?_
  refine v_iload_n (pc' := 7) 2 dX11_moodFor_6 rfl rfl rfl ?_
  refine v_callV (vs := [.int x2]) (pc' := 10) (h_X11_needPerson g a0 x2) mv_X11_needPerson wl_X11_197 rfl (Nat.le_of_ble_eq_true rfl) (by omega) (by decide) (Nat.le_of_ble_eq_true rfl) rfl dX11_moodFor_7 rfl fun _ => ?_
  refine v_iconst (v := 0) (pc' := 11) dX11_moodFor_10 rfl rfl ?_
  refine v_istore_n (lv' := [(3, .int 0), (0, rf g a0), (1, .int x1), (2, .int x2)]) (pc' := 12) dX11_moodFor_11 rfl (by decide) rfl rfl ?_
  refine V.sub [1, 2, 3, 0] rfl ?_
  exact h_X11_moodFor_b12 g NF a0 x1 x2 0
-- lost
def f_X11_lost (a0 : Nat) (x1 : Int32) : Mo Int32 := bd (cv 11 a0 (f_X11_needHall a0 x1)) fun _ => bd (gR 11 7 a0) fun r1 => bd (gR 11 11 a0) fun r2 => bd (cv 6 r1 (f_X6_hadBits r1 r2 (-1))) fun v3 => bd (gR 11 7 a0) fun r4 => bd (gR 11 11 a0) fun r5 => bd (cv 6 r4 (f_X6_hadBits r4 r5 x1)) fun v6 => pu (v3 &&& (v6 ^^^ (-1 : Int32)))
set_option maxRecDepth 20000 in
theorem h_X11_lost (g : GW) (a0 : Nat) (x1 : Int32) : V g mX11_lost 10 rtI 0 [(0, rf g a0), (1, .int x1)] [] (f_X11_lost a0 x1) := by
  unfold f_X11_lost
  refine v_aload_n (pc' := 1) 0 dX11_lost_0 rfl rfl rfl ?_
  refine v_iload_n (pc' := 2) 1 dX11_lost_1 rfl rfl rfl ?_
  refine v_callV (vs := [.int x1]) (pc' := 5) (h_X11_needHall g a0 x1) mv_X11_needHall wl_X11_245 rfl (Nat.le_of_ble_eq_true rfl) (by omega) (by decide) (Nat.le_of_ble_eq_true rfl) rfl dX11_lost_2 rfl fun _ => ?_
  refine v_aload_n (pc' := 6) 0 dX11_lost_5 rfl rfl rfl ?_
  refine v_getR (pc' := 9) fl_X11_57 dX11_lost_6 rfl fun r1 => ?_
  refine v_aload_n (pc' := 10) 0 dX11_lost_9 rfl rfl rfl ?_
  refine v_getR (pc' := 13) fl_X11_87 dX11_lost_10 rfl fun r2 => ?_
  refine v_iconst (v := -1) (pc' := 14) dX11_lost_13 rfl rfl ?_
  refine v_callV (vs := [rf g r2, .int (-1)]) (pc' := 17) (h_X6_hadBits g r1 r2 (-1)) mv_X6_hadBits wl_X11_264 rfl (Nat.le_of_ble_eq_true rfl) (by omega) (by decide) (Nat.le_of_ble_eq_true rfl) rfl dX11_lost_14 rfl fun v3 => ?_
  refine v_aload_n (pc' := 18) 0 dX11_lost_17 rfl rfl rfl ?_
  refine v_getR (pc' := 21) fl_X11_57 dX11_lost_18 rfl fun r4 => ?_
  refine v_aload_n (pc' := 22) 0 dX11_lost_21 rfl rfl rfl ?_
  refine v_getR (pc' := 25) fl_X11_87 dX11_lost_22 rfl fun r5 => ?_
  refine v_iload_n (pc' := 26) 1 dX11_lost_25 rfl rfl rfl ?_
  refine v_callV (vs := [rf g r5, .int x1]) (pc' := 29) (h_X6_hadBits g r4 r5 x1) mv_X6_hadBits wl_X11_264 rfl (Nat.le_of_ble_eq_true rfl) (by omega) (by decide) (Nat.le_of_ble_eq_true rfl) rfl dX11_lost_26 rfl fun v6 => ?_
  refine v_iconst (v := -1) (pc' := 30) dX11_lost_29 rfl rfl ?_
  refine v_ixor (pc' := 31) dX11_lost_30 rfl ?_
  refine v_iand (pc' := 32) dX11_lost_31 rfl ?_
  exact v_ireturn rfl dX11_lost_32
-- faces
def f_X11_faces_b94 (k22 : Nat → Int32 → Int32 → Int64 → Int32 → Int32 → Int32 → Mo Int32) (a0 : Nat) (x1 : Int32) (x2 : Int32) (j3 : Int64) (x5 : Int32) (x6 : Int32) (x7 : Int32) : Mo Int32 := k22 a0 x1 x2 j3 x5 x6 (x7 + 1)
def f_X11_faces_b83 (k22 : Nat → Int32 → Int32 → Int64 → Int32 → Int32 → Int32 → Mo Int32) (a0 : Nat) (x1 : Int32) (x2 : Int32) (j3 : Int64) (x6 : Int32) (x7 : Int32) (x8 : Int32) (xs0 : Int32) : Mo Int32 := f_X11_faces_b94 k22 a0 x1 x2 j3 xs0 (mx32 x6 x8) x7
def f_X11_faces_b22 : Nat → Nat → Int32 → Int32 → Int64 → Int32 → Int32 → Int32 → Mo Int32
  | 0, _, _, _, _, _, _, _ => fl
  | n + 1, a0, x1, x2, j3, x5, x6, x7 => bd (gR 11 11 a0) fun r1 => bd (gI 5 4 r1) fun v2 => if (v2 ≤ x7 : Prop) then (if (x2 = 0 : Prop) then (pu (bc64 j3)) else if (x2 = 1 : Prop) then (pu x5) else pu x6) else bd (gR 11 11 a0) fun r3 => bd (cv 5 r3 (f_X5_takerOf r3 x7)) fun v4 => if (v4 = x1 : Prop) then (bd (gR 11 11 a0) fun r5 => bd (cv 5 r5 (f_X5_faceOn r5 x7)) fun v6 => if (x5 = (-1) : Prop) then (f_X11_faces_b83 (f_X11_faces_b22 n) a0 x1 x2 (j3 ||| ((1 : Int64) <<< (Int32.toInt64 v6 &&& 63))) x6 x7 v6 v6) else f_X11_faces_b83 (f_X11_faces_b22 n) a0 x1 x2 (j3 ||| ((1 : Int64) <<< (Int32.toInt64 v6 &&& 63))) x6 x7 v6 (mn32 x5 v6)) else f_X11_faces_b94 (f_X11_faces_b22 n) a0 x1 x2 j3 x5 x6 x7
def f_X11_faces (a0 : Nat) (x1 : Int32) (x2 : Int32) : Mo Int32 := bd (cv 11 a0 (f_X11_needPerson a0 x1)) fun _ => bd (cv 11 a0 (f_X11_needRange a0 x2 2)) fun _ => f_X11_faces_b22 NF a0 x1 x2 0 (-1) (-1) 0
set_option maxRecDepth 20000 in
theorem h_X11_faces_b94 (g : GW) (k22 : Nat → Int32 → Int32 → Int64 → Int32 → Int32 → Int32 → Mo Int32) (hk22 : ∀ a0 x1 x2 j3 x5 x6 x7, V g mX11_faces 10 rtI 22 [(0, rf g a0), (1, .int x1), (2, .int x2), (3, .long j3), (5, .int x5), (6, .int x6), (7, .int x7)] [] (k22 a0 x1 x2 j3 x5 x6 x7)) (a0 : Nat) (x1 : Int32) (x2 : Int32) (j3 : Int64) (x5 : Int32) (x6 : Int32) (x7 : Int32) : V g mX11_faces 10 rtI 94 [(0, rf g a0), (1, .int x1), (2, .int x2), (3, .long j3), (5, .int x5), (6, .int x6), (7, .int x7)] [] (f_X11_faces_b94 k22 a0 x1 x2 j3 x5 x6 x7) := by
  unfold f_X11_faces_b94
  refine v_iinc (v := x7 + 1) (lv' := [(7, .int (x7 + 1)), (0, rf g a0), (1, .int x1), (2, .int x2), (3, .long j3), (5, .int x5), (6, .int x6)]) (pc' := 97) 6 dX11_faces_94 rfl rfl (by decide) rfl rfl ?_
  refine v_goto (t := 22) dX11_faces_97 (by decide) ?_
  refine V.sub [1, 2, 3, 4, 5, 6, 0] rfl ?_
  exact hk22 a0 x1 x2 j3 x5 x6 (x7 + 1)
set_option maxRecDepth 20000 in
theorem h_X11_faces_b83 (g : GW) (k22 : Nat → Int32 → Int32 → Int64 → Int32 → Int32 → Int32 → Mo Int32) (hk22 : ∀ a0 x1 x2 j3 x5 x6 x7, V g mX11_faces 10 rtI 22 [(0, rf g a0), (1, .int x1), (2, .int x2), (3, .long j3), (5, .int x5), (6, .int x6), (7, .int x7)] [] (k22 a0 x1 x2 j3 x5 x6 x7)) (a0 : Nat) (x1 : Int32) (x2 : Int32) (j3 : Int64) (x6 : Int32) (x7 : Int32) (x8 : Int32) (xs0 : Int32) : V g mX11_faces 10 rtI 83 [(0, rf g a0), (1, .int x1), (2, .int x2), (3, .long j3), (6, .int x6), (7, .int x7), (8, .int x8)] [.int xs0] (f_X11_faces_b83 k22 a0 x1 x2 j3 x6 x7 x8 xs0) := by
  unfold f_X11_faces_b83
  refine v_istore (lv' := [(5, .int xs0), (0, rf g a0), (1, .int x1), (2, .int x2), (3, .long j3), (6, .int x6), (7, .int x7), (8, .int x8)]) (pc' := 85) dX11_faces_83 (by decide) rfl rfl ?_
  refine v_iload (pc' := 87) 5 dX11_faces_85 rfl rfl ?_
  refine v_iload (pc' := 89) 7 dX11_faces_87 rfl rfl ?_
  refine v_mx32 (pc' := 92) (by omega) (tg6 69 (by decide +kernel) (by decide +kernel)) (Nat.le_of_ble_eq_true rfl) rfl dX11_faces_89 rfl ?_
  refine v_istore (lv' := [(6, .int (mx32 x6 x8)), (5, .int xs0), (0, rf g a0), (1, .int x1), (2, .int x2), (3, .long j3), (7, .int x7), (8, .int x8)]) (pc' := 94) dX11_faces_92 (by decide) rfl rfl ?_
  refine V.sub [2, 3, 4, 5, 1, 0, 6] rfl ?_
  exact h_X11_faces_b94 g k22 hk22 a0 x1 x2 j3 xs0 (mx32 x6 x8) x7
set_option maxRecDepth 20000 in
theorem h_X11_faces_b22 (g : GW) : ∀ n : Nat, ∀ a0 x1 x2 j3 x5 x6 x7, V g mX11_faces 10 rtI 22 [(0, rf g a0), (1, .int x1), (2, .int x2), (3, .long j3), (5, .int x5), (6, .int x6), (7, .int x7)] [] (f_X11_faces_b22 n a0 x1 x2 j3 x5 x6 x7) := by
  intro n
  induction n with
  | zero => intro a0 x1 x2 j3 x5 x6 x7; exact V.vain
  | succ n ih =>
    intro a0 x1 x2 j3 x5 x6 x7
    unfold f_X11_faces_b22
    refine v_iload (pc' := 24) 6 dX11_faces_22 rfl rfl ?_
    refine v_aload_n (pc' := 25) 0 dX11_faces_24 rfl rfl rfl ?_
    refine v_getR (pc' := 28) fl_X11_87 dX11_faces_25 rfl fun r1 => ?_
    refine v_getI (pc' := 31) fl_X11_182 dX11_faces_28 rfl fun v2 => ?_
    refine v_icmpge (t := 100) (pc' := 34) dX11_faces_31 (by decide) rfl ?_ ?_
    · refine v_iload_n (pc' := 101) 2 dX11_faces_100 rfl rfl rfl ?_
      refine v_ifne (t := 111) (pc' := 104) dX11_faces_101 (by decide) rfl ?_ ?_
      · refine v_iload_n (pc' := 112) 2 dX11_faces_111 rfl rfl rfl ?_
        refine v_iconst (v := 1) (pc' := 113) dX11_faces_112 rfl rfl ?_
        refine v_icmpne (t := 121) (pc' := 116) dX11_faces_113 (by decide) rfl ?_ ?_
        · refine v_iload (pc' := 123) 5 dX11_faces_121 rfl rfl ?_
          exact v_ireturn rfl dX11_faces_123
        · refine v_iload (pc' := 118) 4 dX11_faces_116 rfl rfl ?_
          refine v_goto (t := 123) dX11_faces_118 (by decide) ?_
          exact v_ireturn rfl dX11_faces_123
      · refine v_lload_n (pc' := 105) 3 dX11_faces_104 rfl rfl rfl ?_
        refine v_bc64 (pc' := 108) (by omega) (tg5 161 (by decide +kernel) (by decide +kernel)) (Nat.le_of_ble_eq_true rfl) rfl dX11_faces_105 rfl ?_
        refine v_goto (t := 123) dX11_faces_108 (by decide) ?_
        exact v_ireturn rfl dX11_faces_123
    · refine v_aload_n (pc' := 35) 0 dX11_faces_34 rfl rfl rfl ?_
      refine v_getR (pc' := 38) fl_X11_87 dX11_faces_35 rfl fun r3 => ?_
      refine v_iload (pc' := 40) 6 dX11_faces_38 rfl rfl ?_
      refine v_callV (vs := [.int x7]) (pc' := 43) (h_X5_takerOf g r3 x7) mv_X5_takerOf wl_X11_226 rfl (Nat.le_of_ble_eq_true rfl) (by omega) (by decide) (Nat.le_of_ble_eq_true rfl) rfl dX11_faces_40 rfl fun v4 => ?_
      refine v_iload_n (pc' := 44) 1 dX11_faces_43 rfl rfl rfl ?_
      refine v_icmpne (t := 94) (pc' := 47) dX11_faces_44 (by decide) rfl ?_ ?_
      · refine V.sub [0, 1, 2, 3, 4, 5, 6] rfl ?_
        exact h_X11_faces_b94 g (f_X11_faces_b22 n) ih a0 x1 x2 j3 x5 x6 x7
      · refine v_aload_n (pc' := 48) 0 dX11_faces_47 rfl rfl rfl ?_
        refine v_getR (pc' := 51) fl_X11_87 dX11_faces_48 rfl fun r5 => ?_
        refine v_iload (pc' := 53) 6 dX11_faces_51 rfl rfl ?_
        refine v_callV (vs := [.int x7]) (pc' := 56) (h_X5_faceOn g r5 x7) mv_X5_faceOn wl_X11_236 rfl (Nat.le_of_ble_eq_true rfl) (by omega) (by decide) (Nat.le_of_ble_eq_true rfl) rfl dX11_faces_53 rfl fun v6 => ?_
        refine v_istore (lv' := [(8, .int v6), (0, rf g a0), (1, .int x1), (2, .int x2), (3, .long j3), (5, .int x5), (6, .int x6), (7, .int x7)]) (pc' := 58) dX11_faces_56 (by decide) rfl rfl ?_
        refine v_lload_n (pc' := 59) 4 dX11_faces_58 rfl rfl rfl ?_
        refine v_lconst (v := 1) (pc' := 60) dX11_faces_59 rfl rfl ?_
        refine v_iload (pc' := 62) 0 dX11_faces_60 rfl rfl ?_
        refine v_lshl (pc' := 63) dX11_faces_62 rfl ?_
        refine v_lor (pc' := 64) dX11_faces_63 rfl ?_
        refine v_lstore_n (lv' := [(3, .long (j3 ||| ((1 : Int64) <<< (Int32.toInt64 v6 &&& 63)))), (8, .int v6), (0, rf g a0), (1, .int x1), (2, .int x2), (5, .int x5), (6, .int x6), (7, .int x7)]) (pc' := 65) dX11_faces_64 rfl (by decide) rfl rfl ?_
        refine v_iload (pc' := 67) 5 dX11_faces_65 rfl rfl ?_
        refine v_iconst (v := -1) (pc' := 68) dX11_faces_67 rfl rfl ?_
        refine v_icmpne (t := 76) (pc' := 71) dX11_faces_68 (by decide) rfl ?_ ?_
        · refine v_iload (pc' := 78) 5 dX11_faces_76 rfl rfl ?_
          refine v_iload (pc' := 80) 1 dX11_faces_78 rfl rfl ?_
          refine v_mn32 (pc' := 83) (by omega) (tg5 222 (by decide +kernel) (by decide +kernel)) (Nat.le_of_ble_eq_true rfl) rfl dX11_faces_80 rfl ?_
          refine V.sub [2, 3, 4, 0, 6, 7, 1] rfl ?_
          exact h_X11_faces_b83 g (f_X11_faces_b22 n) ih a0 x1 x2 (j3 ||| ((1 : Int64) <<< (Int32.toInt64 v6 &&& 63))) x6 x7 v6 (mn32 x5 v6)
        · refine v_iload (pc' := 73) 1 dX11_faces_71 rfl rfl ?_
          refine v_goto (t := 83) dX11_faces_73 (by decide) ?_
          refine V.sub [2, 3, 4, 0, 6, 7, 1] rfl ?_
          exact h_X11_faces_b83 g (f_X11_faces_b22 n) ih a0 x1 x2 (j3 ||| ((1 : Int64) <<< (Int32.toInt64 v6 &&& 63))) x6 x7 v6 v6
set_option maxRecDepth 20000 in
theorem h_X11_faces (g : GW) (a0 : Nat) (x1 : Int32) (x2 : Int32) : V g mX11_faces 10 rtI 0 [(0, rf g a0), (1, .int x1), (2, .int x2)] [] (f_X11_faces a0 x1 x2) := by
  unfold f_X11_faces
  refine v_aload_n (pc' := 1) 0 dX11_faces_0 rfl rfl rfl ?_
  refine v_iload_n (pc' := 2) 1 dX11_faces_1 rfl rfl rfl ?_
  refine v_callV (vs := [.int x1]) (pc' := 5) (h_X11_needPerson g a0 x1) mv_X11_needPerson wl_X11_197 rfl (Nat.le_of_ble_eq_true rfl) (by omega) (by decide) (Nat.le_of_ble_eq_true rfl) rfl dX11_faces_2 rfl fun _ => ?_
  refine v_aload_n (pc' := 6) 0 dX11_faces_5 rfl rfl rfl ?_
  refine v_iload_n (pc' := 7) 2 dX11_faces_6 rfl rfl rfl ?_
  refine v_iconst (v := 2) (pc' := 8) dX11_faces_7 rfl rfl ?_
  refine v_callV (vs := [.int x2, .int 2]) (pc' := 11) (h_X11_needRange g a0 x2 2) mv_X11_needRange wl_X11_179 rfl (Nat.le_of_ble_eq_true rfl) (by omega) (by decide) (Nat.le_of_ble_eq_true rfl) rfl dX11_faces_8 rfl fun _ => ?_
  refine v_lconst (v := 0) (pc' := 12) dX11_faces_11 rfl rfl ?_
  refine v_lstore_n (lv' := [(3, .long 0), (0, rf g a0), (1, .int x1), (2, .int x2)]) (pc' := 13) dX11_faces_12 rfl (by decide) rfl rfl ?_
  refine v_iconst (v := -1) (pc' := 14) dX11_faces_13 rfl rfl ?_
  refine v_istore (lv' := [(5, .int (-1)), (3, .long 0), (0, rf g a0), (1, .int x1), (2, .int x2)]) (pc' := 16) dX11_faces_14 (by decide) rfl rfl ?_
  refine v_iconst (v := -1) (pc' := 17) dX11_faces_16 rfl rfl ?_
  refine v_istore (lv' := [(6, .int (-1)), (5, .int (-1)), (3, .long 0), (0, rf g a0), (1, .int x1), (2, .int x2)]) (pc' := 19) dX11_faces_17 (by decide) rfl rfl ?_
  refine v_iconst (v := 0) (pc' := 20) dX11_faces_19 rfl rfl ?_
  refine v_istore (lv' := [(7, .int 0), (6, .int (-1)), (5, .int (-1)), (3, .long 0), (0, rf g a0), (1, .int x1), (2, .int x2)]) (pc' := 22) dX11_faces_20 (by decide) rfl rfl ?_
  refine V.sub [4, 5, 6, 3, 2, 1, 0] rfl ?_
  exact h_X11_faces_b22 g NF a0 x1 x2 0 (-1) (-1) 0
-- needYears
def f_X11_needYears_b17 (a0 : Nat) (x2 : Int32) (xs0 : Int32) (as1 : Nat) : Mo Unit := bd (cv 11 as1 (f_X11_needArgument as1 xs0)) fun _ => bd (cv 11 a0 (f_X11_needRange a0 x2 16)) fun _ => pu ()
def f_X11_needYears_b16 (a0 : Nat) (x2 : Int32) (as0 : Nat) : Mo Unit := f_X11_needYears_b17 a0 x2 0 as0
def f_X11_needYears (a0 : Nat) (x1 : Int32) (x2 : Int32) : Mo Unit := if (x1 < 1 : Prop) then (f_X11_needYears_b16 a0 x2 a0) else if (96 < x1 : Prop) then (f_X11_needYears_b16 a0 x2 a0) else f_X11_needYears_b17 a0 x2 1 a0
set_option maxRecDepth 20000 in
theorem h_X11_needYears_b17 (g : GW) (a0 : Nat) (x2 : Int32) (xs0 : Int32) (as1 : Nat) : V g mX11_needYears 10 rtU 17 [(0, rf g a0), (2, .int x2)] [.int xs0, rf g as1] (f_X11_needYears_b17 a0 x2 xs0 as1) := by
  unfold f_X11_needYears_b17
  refine v_callV (vs := [.int xs0]) (pc' := 20) (h_X11_needArgument g as1 xs0) mv_X11_needArgument wl_X11_281 rfl (Nat.le_of_ble_eq_true rfl) (by omega) (by decide) (Nat.le_of_ble_eq_true rfl) rfl dX11_needYears_17 rfl fun _ => ?_
  refine v_aload_n (pc' := 21) 0 dX11_needYears_20 rfl rfl rfl ?_
  refine v_iload_n (pc' := 22) 1 dX11_needYears_21 rfl rfl rfl ?_
  refine v_bipush (v := 16) (pc' := 24) dX11_needYears_22 rfl rfl ?_
  refine v_callV (vs := [.int x2, .int 16]) (pc' := 27) (h_X11_needRange g a0 x2 16) mv_X11_needRange wl_X11_179 rfl (Nat.le_of_ble_eq_true rfl) (by omega) (by decide) (Nat.le_of_ble_eq_true rfl) rfl dX11_needYears_24 rfl fun _ => ?_
  exact v_return rfl dX11_needYears_27
set_option maxRecDepth 20000 in
theorem h_X11_needYears_b16 (g : GW) (a0 : Nat) (x2 : Int32) (as0 : Nat) : V g mX11_needYears 10 rtU 16 [(0, rf g a0), (2, .int x2)] [rf g as0] (f_X11_needYears_b16 a0 x2 as0) := by
  unfold f_X11_needYears_b16
  refine v_iconst (v := 0) (pc' := 17) dX11_needYears_16 rfl rfl ?_
  refine V.sub [0, 1] rfl ?_
  exact h_X11_needYears_b17 g a0 x2 0 as0
set_option maxRecDepth 20000 in
theorem h_X11_needYears (g : GW) (a0 : Nat) (x1 : Int32) (x2 : Int32) : V g mX11_needYears 10 rtU 0 [(0, rf g a0), (1, .int x1), (2, .int x2)] [] (f_X11_needYears a0 x1 x2) := by
  unfold f_X11_needYears
  refine v_aload_n (pc' := 1) 0 dX11_needYears_0 rfl rfl rfl ?_
  refine v_iload_n (pc' := 2) 1 dX11_needYears_1 rfl rfl rfl ?_
  refine v_iconst (v := 1) (pc' := 3) dX11_needYears_2 rfl rfl ?_
  refine v_icmplt (t := 16) (pc' := 6) dX11_needYears_3 (by decide) rfl ?_ ?_
  · refine V.sub [0, 2] rfl ?_
    exact h_X11_needYears_b16 g a0 x2 a0
  · refine v_iload_n (pc' := 7) 1 dX11_needYears_6 rfl rfl rfl ?_
    refine v_bipush (v := 96) (pc' := 9) dX11_needYears_7 rfl rfl ?_
    refine v_icmpgt (t := 16) (pc' := 12) dX11_needYears_9 (by decide) rfl ?_ ?_
    · refine V.sub [0, 2] rfl ?_
      exact h_X11_needYears_b16 g a0 x2 a0
    · refine v_iconst (v := 1) (pc' := 13) dX11_needYears_12 rfl rfl ?_
      refine v_goto (t := 17) dX11_needYears_13 (by decide) ?_
      refine V.sub [0, 2] rfl ?_
      exact h_X11_needYears_b17 g a0 x2 1 a0
-- years
def f_X11_years (a0 : Nat) (x1 : Int32) (x2 : Int32) (x3 : Int32) (x4 : Int32) : Mo Int32 := bd (cv 11 a0 (f_X11_needYears a0 x2 x3)) fun _ => bd (cv 11 a0 (f_X11_needRange a0 x4 3)) fun _ => bd (gR 11 10 a0) fun r1 => bd (gR 11 11 a0) fun r2 => bd (cv 10 r1 (f_X10_pass r1 r2 x1 x2 x3)) fun _ => sw x4 0 [(bd (gR 11 10 a0) fun r3 => bd (gR 10 1 r3) fun r4 => bd (gI 5 4 r4) fun v5 => pu v5), (bd (gR 11 10 a0) fun r6 => bd (gI 10 3 r6) fun v7 => pu v7), (bd (gR 11 10 a0) fun r8 => bd (gI 10 4 r8) fun v9 => pu v9)] (bd (gR 11 7 a0) fun r10 => bd (gR 11 10 a0) fun r11 => bd (gR 10 1 r11) fun r12 => bd (cv 6 r10 (f_X6_hadBits r10 r12 (-1))) fun v13 => pu (bc32 v13))
set_option maxRecDepth 20000 in
theorem h_X11_years (g : GW) (a0 : Nat) (x1 : Int32) (x2 : Int32) (x3 : Int32) (x4 : Int32) : V g mX11_years 14 rtI 0 [(0, rf g a0), (1, .int x1), (2, .int x2), (3, .int x3), (4, .int x4)] [] (f_X11_years a0 x1 x2 x3 x4) := by
  unfold f_X11_years
  refine v_aload_n (pc' := 1) 0 dX11_years_0 rfl rfl rfl ?_
  refine v_iload_n (pc' := 2) 2 dX11_years_1 rfl rfl rfl ?_
  refine v_iload_n (pc' := 3) 3 dX11_years_2 rfl rfl rfl ?_
  refine v_callV (vs := [.int x2, .int x3]) (pc' := 6) (h_X11_needYears g a0 x2 x3) mv_X11_needYears wl_X11_373 rfl (Nat.le_of_ble_eq_true rfl) (by omega) (by decide) (Nat.le_of_ble_eq_true rfl) rfl dX11_years_3 rfl fun _ => ?_
  refine v_aload_n (pc' := 7) 0 dX11_years_6 rfl rfl rfl ?_
  refine v_iload (pc' := 9) 4 dX11_years_7 rfl rfl ?_
  refine v_iconst (v := 3) (pc' := 10) dX11_years_9 rfl rfl ?_
  refine v_callV (vs := [.int x4, .int 3]) (pc' := 13) (h_X11_needRange g a0 x4 3) mv_X11_needRange wl_X11_179 rfl (Nat.le_of_ble_eq_true rfl) (by omega) (by decide) (Nat.le_of_ble_eq_true rfl) rfl dX11_years_10 rfl fun _ => ?_
  refine v_aload_n (pc' := 14) 0 dX11_years_13 rfl rfl rfl ?_
  refine v_getR (pc' := 17) fl_X11_80 dX11_years_14 rfl fun r1 => ?_
  refine v_aload_n (pc' := 18) 0 dX11_years_17 rfl rfl rfl ?_
  refine v_getR (pc' := 21) fl_X11_87 dX11_years_18 rfl fun r2 => ?_
  refine v_iload_n (pc' := 22) 1 dX11_years_21 rfl rfl rfl ?_
  refine v_iload_n (pc' := 23) 2 dX11_years_22 rfl rfl rfl ?_
  refine v_iload_n (pc' := 24) 3 dX11_years_23 rfl rfl rfl ?_
  refine v_callV (vs := [rf g r2, .int x1, .int x2, .int x3]) (pc' := 27) (h_X10_pass g r1 r2 x1 x2 x3) mv_X10_pass wl_X11_376 rfl (Nat.le_of_ble_eq_true rfl) (by omega) (by decide) (Nat.le_of_ble_eq_true rfl) rfl dX11_years_24 rfl fun _ => ?_
  refine v_iload (pc' := 29) 4 dX11_years_27 rfl rfl ?_
  refine v_table (td := 83) dX11_years_29 rfl (by decide) ⟨⟨56, by decide, ?_⟩, ⟨67, by decide, ?_⟩, ⟨75, by decide, ?_⟩, trivial⟩ ?_
  · refine v_aload_n (pc' := 57) 0 dX11_years_56 rfl rfl rfl ?_
    refine v_getR (pc' := 60) fl_X11_80 dX11_years_57 rfl fun r3 => ?_
    refine v_getR (pc' := 63) fl_X11_380 dX11_years_60 rfl fun r4 => ?_
    refine v_getI (pc' := 66) fl_X11_182 dX11_years_63 rfl fun v5 => ?_
    exact v_ireturn rfl dX11_years_66
  · refine v_aload_n (pc' := 68) 0 dX11_years_67 rfl rfl rfl ?_
    refine v_getR (pc' := 71) fl_X11_80 dX11_years_68 rfl fun r6 => ?_
    refine v_getI (pc' := 74) fl_X11_381 dX11_years_71 rfl fun v7 => ?_
    exact v_ireturn rfl dX11_years_74
  · refine v_aload_n (pc' := 76) 0 dX11_years_75 rfl rfl rfl ?_
    refine v_getR (pc' := 79) fl_X11_80 dX11_years_76 rfl fun r8 => ?_
    refine v_getI (pc' := 82) fl_X11_384 dX11_years_79 rfl fun v9 => ?_
    exact v_ireturn rfl dX11_years_82
  · refine v_aload_n (pc' := 84) 0 dX11_years_83 rfl rfl rfl ?_
    refine v_getR (pc' := 87) fl_X11_57 dX11_years_84 rfl fun r10 => ?_
    refine v_aload_n (pc' := 88) 0 dX11_years_87 rfl rfl rfl ?_
    refine v_getR (pc' := 91) fl_X11_80 dX11_years_88 rfl fun r11 => ?_
    refine v_getR (pc' := 94) fl_X11_380 dX11_years_91 rfl fun r12 => ?_
    refine v_iconst (v := -1) (pc' := 95) dX11_years_94 rfl rfl ?_
    refine v_callV (vs := [rf g r12, .int (-1)]) (pc' := 98) (h_X6_hadBits g r10 r12 (-1)) mv_X6_hadBits wl_X11_264 rfl (Nat.le_of_ble_eq_true rfl) (by omega) (by decide) (Nat.le_of_ble_eq_true rfl) rfl dX11_years_95 rfl fun v13 => ?_
    refine v_bc32 (pc' := 101) (by omega) (tg5 54 (by decide +kernel) (by decide +kernel)) (Nat.le_of_ble_eq_true rfl) rfl dX11_years_98 rfl ?_
    exact v_ireturn rfl dX11_years_101
-- span
def f_X11_span_b73 : Nat → Nat → Int32 → Int32 → Int32 → Int32 → Int32 → Int32 → Int32 → Int32 → Int32 → Int32 → Mo Int32
  | 0, _, _, _, _, _, _, _, _, _, _, _ => fl
  | n + 1, a0, x1, x2, x3, x4, x5, x6, x7, x8, x9, x10 => if (x2 ≤ x10 : Prop) then (if (x5 = 0 : Prop) then (pu x7) else if (x5 = 1 : Prop) then (pu x8) else pu x9) else bd (gR 11 10 a0) fun r1 => bd (gR 11 11 a0) fun r2 => bd (cv 10 r1 (f_X10_pass r1 r2 (x1 + x10) x3 x4)) fun _ => bd (gR 11 10 a0) fun r3 => bd (gR 10 1 r3) fun r4 => bd (gI 5 4 r4) fun v5 => bd (gR 11 10 a0) fun r6 => bd (gR 10 1 r6) fun r7 => bd (gI 5 4 r7) fun v8 => bd (gR 11 7 a0) fun r9 => bd (gR 11 10 a0) fun r10 => bd (gR 10 1 r10) fun r11 => bd (cv 6 r9 (f_X6_hadBits r9 r11 (-1))) fun v12 => (f_X11_span_b73 n) a0 x1 x2 x3 x4 x5 x6 (mn32 x7 v5) (mx32 x8 v8) (x9 + ((v12 >>> (x6 &&& 31)) &&& (1 : Int32))) (x10 + 1)
def f_X11_span_b57 (a0 : Nat) (x1 : Int32) (x2 : Int32) (x3 : Int32) (x4 : Int32) (x5 : Int32) (x6 : Int32) (xs0 : Int32) (as1 : Nat) : Mo Int32 := bd (cv 11 as1 (f_X11_needArgument as1 xs0)) fun _ => f_X11_span_b73 NF a0 x1 x2 x3 x4 x5 x6 40 0 0 0
def f_X11_span_b56 (a0 : Nat) (x1 : Int32) (x2 : Int32) (x3 : Int32) (x4 : Int32) (x5 : Int32) (x6 : Int32) (as0 : Nat) : Mo Int32 := f_X11_span_b57 a0 x1 x2 x3 x4 x5 x6 0 as0
def f_X11_span_b17 (a0 : Nat) (x1 : Int32) (x2 : Int32) (x3 : Int32) (x4 : Int32) (x5 : Int32) (x6 : Int32) (xs0 : Int32) (as1 : Nat) : Mo Int32 := bd (cv 11 as1 (f_X11_needArgument as1 xs0)) fun _ => bd (cv 11 a0 (f_X11_needYears a0 x3 x4)) fun _ => bd (cv 11 a0 (f_X11_needRange a0 x5 2)) fun _ => if (x6 < 0 : Prop) then (f_X11_span_b56 a0 x1 x2 x3 x4 x5 x6 a0) else bd (gR 11 1 a0) fun r13 => bd (gI 2 4 r13) fun v14 => if (v14 ≤ x6 : Prop) then (f_X11_span_b56 a0 x1 x2 x3 x4 x5 x6 a0) else f_X11_span_b57 a0 x1 x2 x3 x4 x5 x6 1 a0
def f_X11_span_b16 (a0 : Nat) (x1 : Int32) (x2 : Int32) (x3 : Int32) (x4 : Int32) (x5 : Int32) (x6 : Int32) (as0 : Nat) : Mo Int32 := f_X11_span_b17 a0 x1 x2 x3 x4 x5 x6 0 as0
def f_X11_span (a0 : Nat) (x1 : Int32) (x2 : Int32) (x3 : Int32) (x4 : Int32) (x5 : Int32) (x6 : Int32) : Mo Int32 := if (x2 < 1 : Prop) then (f_X11_span_b16 a0 x1 x2 x3 x4 x5 x6 a0) else if (20 < x2 : Prop) then (f_X11_span_b16 a0 x1 x2 x3 x4 x5 x6 a0) else f_X11_span_b17 a0 x1 x2 x3 x4 x5 x6 1 a0
set_option maxRecDepth 20000 in
theorem h_X11_span_b73 (g : GW) : ∀ n : Nat, ∀ a0 x1 x2 x3 x4 x5 x6 x7 x8 x9 x10, V g mX11_span 14 rtI 73 [(0, rf g a0), (1, .int x1), (2, .int x2), (3, .int x3), (4, .int x4), (5, .int x5), (6, .int x6), (7, .int x7), (8, .int x8), (9, .int x9), (10, .int x10)] [] (f_X11_span_b73 n a0 x1 x2 x3 x4 x5 x6 x7 x8 x9 x10) := by
  intro n
  induction n with
  | zero => intro a0 x1 x2 x3 x4 x5 x6 x7 x8 x9 x10; exact V.vain
  | succ n ih =>
    intro a0 x1 x2 x3 x4 x5 x6 x7 x8 x9 x10
    unfold f_X11_span_b73
    refine v_iload (pc' := 75) 10 dX11_span_73 rfl rfl ?_
    refine v_iload_n (pc' := 76) 2 dX11_span_75 rfl rfl rfl ?_
    refine v_icmpge (t := 162) (pc' := 79) dX11_span_76 (by decide) rfl ?_ ?_
    · refine v_iload (pc' := 164) 5 dX11_span_162 rfl rfl ?_
      refine v_ifne (t := 172) (pc' := 167) dX11_span_164 (by decide) rfl ?_ ?_
      · refine v_iload (pc' := 174) 5 dX11_span_172 rfl rfl ?_
        refine v_iconst (v := 1) (pc' := 175) dX11_span_174 rfl rfl ?_
        refine v_icmpne (t := 183) (pc' := 178) dX11_span_175 (by decide) rfl ?_ ?_
        · refine v_iload (pc' := 185) 9 dX11_span_183 rfl rfl ?_
          exact v_ireturn rfl dX11_span_185
        · refine v_iload (pc' := 180) 8 dX11_span_178 rfl rfl ?_
          refine v_goto (t := 185) dX11_span_180 (by decide) ?_
          exact v_ireturn rfl dX11_span_185
      · refine v_iload (pc' := 169) 7 dX11_span_167 rfl rfl ?_
        refine v_goto (t := 185) dX11_span_169 (by decide) ?_
        exact v_ireturn rfl dX11_span_185
    · refine v_aload_n (pc' := 80) 0 dX11_span_79 rfl rfl rfl ?_
      refine v_getR (pc' := 83) fl_X11_80 dX11_span_80 rfl fun r1 => ?_
      refine v_aload_n (pc' := 84) 0 dX11_span_83 rfl rfl rfl ?_
      refine v_getR (pc' := 87) fl_X11_87 dX11_span_84 rfl fun r2 => ?_
      refine v_iload_n (pc' := 88) 1 dX11_span_87 rfl rfl rfl ?_
      refine v_iload (pc' := 90) 10 dX11_span_88 rfl rfl ?_
      refine v_iadd (pc' := 91) dX11_span_90 rfl ?_
      refine v_iload_n (pc' := 92) 3 dX11_span_91 rfl rfl rfl ?_
      refine v_iload (pc' := 94) 4 dX11_span_92 rfl rfl ?_
      refine v_callV (vs := [rf g r2, .int (x1 + x10), .int x3, .int x4]) (pc' := 97) (h_X10_pass g r1 r2 (x1 + x10) x3 x4) mv_X10_pass wl_X11_376 rfl (Nat.le_of_ble_eq_true rfl) (by omega) (by decide) (Nat.le_of_ble_eq_true rfl) rfl dX11_span_94 rfl fun _ => ?_
      refine v_iload (pc' := 99) 7 dX11_span_97 rfl rfl ?_
      refine v_aload_n (pc' := 100) 0 dX11_span_99 rfl rfl rfl ?_
      refine v_getR (pc' := 103) fl_X11_80 dX11_span_100 rfl fun r3 => ?_
      refine v_getR (pc' := 106) fl_X11_380 dX11_span_103 rfl fun r4 => ?_
      refine v_getI (pc' := 109) fl_X11_182 dX11_span_106 rfl fun v5 => ?_
      refine v_mn32 (pc' := 112) (by omega) (tg5 222 (by decide +kernel) (by decide +kernel)) (Nat.le_of_ble_eq_true rfl) rfl dX11_span_109 rfl ?_
      refine v_istore (lv' := [(7, .int (mn32 x7 v5)), (0, rf g a0), (1, .int x1), (2, .int x2), (3, .int x3), (4, .int x4), (5, .int x5), (6, .int x6), (8, .int x8), (9, .int x9), (10, .int x10)]) (pc' := 114) dX11_span_112 (by decide) rfl rfl ?_
      refine v_iload (pc' := 116) 8 dX11_span_114 rfl rfl ?_
      refine v_aload_n (pc' := 117) 1 dX11_span_116 rfl rfl rfl ?_
      refine v_getR (pc' := 120) fl_X11_80 dX11_span_117 rfl fun r6 => ?_
      refine v_getR (pc' := 123) fl_X11_380 dX11_span_120 rfl fun r7 => ?_
      refine v_getI (pc' := 126) fl_X11_182 dX11_span_123 rfl fun v8 => ?_
      refine v_mx32 (pc' := 129) (by omega) (tg6 69 (by decide +kernel) (by decide +kernel)) (Nat.le_of_ble_eq_true rfl) rfl dX11_span_126 rfl ?_
      refine v_istore (lv' := [(8, .int (mx32 x8 v8)), (7, .int (mn32 x7 v5)), (0, rf g a0), (1, .int x1), (2, .int x2), (3, .int x3), (4, .int x4), (5, .int x5), (6, .int x6), (9, .int x9), (10, .int x10)]) (pc' := 131) dX11_span_129 (by decide) rfl rfl ?_
      refine v_iload (pc' := 133) 9 dX11_span_131 rfl rfl ?_
      refine v_aload_n (pc' := 134) 2 dX11_span_133 rfl rfl rfl ?_
      refine v_getR (pc' := 137) fl_X11_57 dX11_span_134 rfl fun r9 => ?_
      refine v_aload_n (pc' := 138) 2 dX11_span_137 rfl rfl rfl ?_
      refine v_getR (pc' := 141) fl_X11_80 dX11_span_138 rfl fun r10 => ?_
      refine v_getR (pc' := 144) fl_X11_380 dX11_span_141 rfl fun r11 => ?_
      refine v_iconst (v := -1) (pc' := 145) dX11_span_144 rfl rfl ?_
      refine v_callV (vs := [rf g r11, .int (-1)]) (pc' := 148) (h_X6_hadBits g r9 r11 (-1)) mv_X6_hadBits wl_X11_264 rfl (Nat.le_of_ble_eq_true rfl) (by omega) (by decide) (Nat.le_of_ble_eq_true rfl) rfl dX11_span_145 rfl fun v12 => ?_
      refine v_iload (pc' := 150) 8 dX11_span_148 rfl rfl ?_
      refine v_ishr (pc' := 151) dX11_span_150 rfl ?_
      refine v_iconst (v := 1) (pc' := 152) dX11_span_151 rfl rfl ?_
      refine v_iand (pc' := 153) dX11_span_152 rfl ?_
      refine v_iadd (pc' := 154) dX11_span_153 rfl ?_
      refine v_istore (lv' := [(9, .int (x9 + ((v12 >>> (x6 &&& 31)) &&& (1 : Int32)))), (8, .int (mx32 x8 v8)), (7, .int (mn32 x7 v5)), (0, rf g a0), (1, .int x1), (2, .int x2), (3, .int x3), (4, .int x4), (5, .int x5), (6, .int x6), (10, .int x10)]) (pc' := 156) dX11_span_154 (by decide) rfl rfl ?_
      refine v_iinc (v := x10 + 1) (lv' := [(10, .int (x10 + 1)), (9, .int (x9 + ((v12 >>> (x6 &&& 31)) &&& (1 : Int32)))), (8, .int (mx32 x8 v8)), (7, .int (mn32 x7 v5)), (0, rf g a0), (1, .int x1), (2, .int x2), (3, .int x3), (4, .int x4), (5, .int x5), (6, .int x6)]) (pc' := 159) 10 dX11_span_156 rfl rfl (by decide) rfl rfl ?_
      refine v_goto (t := 73) dX11_span_159 (by decide) ?_
      refine V.sub [4, 5, 6, 7, 8, 9, 10, 3, 2, 1, 0] rfl ?_
      exact ih a0 x1 x2 x3 x4 x5 x6 (mn32 x7 v5) (mx32 x8 v8) (x9 + ((v12 >>> (x6 &&& 31)) &&& (1 : Int32))) (x10 + 1)
set_option maxRecDepth 20000 in
theorem h_X11_span_b57 (g : GW) (a0 : Nat) (x1 : Int32) (x2 : Int32) (x3 : Int32) (x4 : Int32) (x5 : Int32) (x6 : Int32) (xs0 : Int32) (as1 : Nat) : V g mX11_span 14 rtI 57 [(0, rf g a0), (1, .int x1), (2, .int x2), (3, .int x3), (4, .int x4), (5, .int x5), (6, .int x6)] [.int xs0, rf g as1] (f_X11_span_b57 a0 x1 x2 x3 x4 x5 x6 xs0 as1) := by
  unfold f_X11_span_b57
  refine v_callV (vs := [.int xs0]) (pc' := 60) (h_X11_needArgument g as1 xs0) mv_X11_needArgument wl_X11_281 rfl (Nat.le_of_ble_eq_true rfl) (by omega) (by decide) (Nat.le_of_ble_eq_true rfl) rfl dX11_span_57 rfl fun _ => ?_
  refine v_bipush (v := 40) (pc' := 62) dX11_span_60 rfl rfl ?_
  refine v_istore (lv' := [(7, .int 40), (0, rf g a0), (1, .int x1), (2, .int x2), (3, .int x3), (4, .int x4), (5, .int x5), (6, .int x6)]) (pc' := 64) dX11_span_62 (by decide) rfl rfl ?_
  refine v_iconst (v := 0) (pc' := 65) dX11_span_64 rfl rfl ?_
  refine v_istore (lv' := [(8, .int 0), (7, .int 40), (0, rf g a0), (1, .int x1), (2, .int x2), (3, .int x3), (4, .int x4), (5, .int x5), (6, .int x6)]) (pc' := 67) dX11_span_65 (by decide) rfl rfl ?_
  refine v_iconst (v := 0) (pc' := 68) dX11_span_67 rfl rfl ?_
  refine v_istore (lv' := [(9, .int 0), (8, .int 0), (7, .int 40), (0, rf g a0), (1, .int x1), (2, .int x2), (3, .int x3), (4, .int x4), (5, .int x5), (6, .int x6)]) (pc' := 70) dX11_span_68 (by decide) rfl rfl ?_
  refine v_iconst (v := 0) (pc' := 71) dX11_span_70 rfl rfl ?_
  refine v_istore (lv' := [(10, .int 0), (9, .int 0), (8, .int 0), (7, .int 40), (0, rf g a0), (1, .int x1), (2, .int x2), (3, .int x3), (4, .int x4), (5, .int x5), (6, .int x6)]) (pc' := 73) dX11_span_71 (by decide) rfl rfl ?_
  refine V.sub [4, 5, 6, 7, 8, 9, 10, 3, 2, 1, 0] rfl ?_
  exact h_X11_span_b73 g NF a0 x1 x2 x3 x4 x5 x6 40 0 0 0
set_option maxRecDepth 20000 in
theorem h_X11_span_b56 (g : GW) (a0 : Nat) (x1 : Int32) (x2 : Int32) (x3 : Int32) (x4 : Int32) (x5 : Int32) (x6 : Int32) (as0 : Nat) : V g mX11_span 14 rtI 56 [(0, rf g a0), (1, .int x1), (2, .int x2), (3, .int x3), (4, .int x4), (5, .int x5), (6, .int x6)] [rf g as0] (f_X11_span_b56 a0 x1 x2 x3 x4 x5 x6 as0) := by
  unfold f_X11_span_b56
  refine v_iconst (v := 0) (pc' := 57) dX11_span_56 rfl rfl ?_
  refine V.sub [0, 1, 2, 3, 4, 5, 6] rfl ?_
  exact h_X11_span_b57 g a0 x1 x2 x3 x4 x5 x6 0 as0
set_option maxRecDepth 20000 in
theorem h_X11_span_b17 (g : GW) (a0 : Nat) (x1 : Int32) (x2 : Int32) (x3 : Int32) (x4 : Int32) (x5 : Int32) (x6 : Int32) (xs0 : Int32) (as1 : Nat) : V g mX11_span 14 rtI 17 [(0, rf g a0), (1, .int x1), (2, .int x2), (3, .int x3), (4, .int x4), (5, .int x5), (6, .int x6)] [.int xs0, rf g as1] (f_X11_span_b17 a0 x1 x2 x3 x4 x5 x6 xs0 as1) := by
  unfold f_X11_span_b17
  refine v_callV (vs := [.int xs0]) (pc' := 20) (h_X11_needArgument g as1 xs0) mv_X11_needArgument wl_X11_281 rfl (Nat.le_of_ble_eq_true rfl) (by omega) (by decide) (Nat.le_of_ble_eq_true rfl) rfl dX11_span_17 rfl fun _ => ?_
  refine v_aload_n (pc' := 21) 0 dX11_span_20 rfl rfl rfl ?_
  refine v_iload_n (pc' := 22) 3 dX11_span_21 rfl rfl rfl ?_
  refine v_iload (pc' := 24) 4 dX11_span_22 rfl rfl ?_
  refine v_callV (vs := [.int x3, .int x4]) (pc' := 27) (h_X11_needYears g a0 x3 x4) mv_X11_needYears wl_X11_373 rfl (Nat.le_of_ble_eq_true rfl) (by omega) (by decide) (Nat.le_of_ble_eq_true rfl) rfl dX11_span_24 rfl fun _ => ?_
  refine v_aload_n (pc' := 28) 0 dX11_span_27 rfl rfl rfl ?_
  refine v_iload (pc' := 30) 5 dX11_span_28 rfl rfl ?_
  refine v_iconst (v := 2) (pc' := 31) dX11_span_30 rfl rfl ?_
  refine v_callV (vs := [.int x5, .int 2]) (pc' := 34) (h_X11_needRange g a0 x5 2) mv_X11_needRange wl_X11_179 rfl (Nat.le_of_ble_eq_true rfl) (by omega) (by decide) (Nat.le_of_ble_eq_true rfl) rfl dX11_span_31 rfl fun _ => ?_
  refine v_aload_n (pc' := 35) 0 dX11_span_34 rfl rfl rfl ?_
  refine v_iload (pc' := 37) 6 dX11_span_35 rfl rfl ?_
  refine v_iflt (t := 56) (pc' := 40) dX11_span_37 (by decide) rfl ?_ ?_
  · refine V.sub [0, 1, 2, 3, 4, 5, 6] rfl ?_
    exact h_X11_span_b56 g a0 x1 x2 x3 x4 x5 x6 a0
  · refine v_iload (pc' := 42) 6 dX11_span_40 rfl rfl ?_
    refine v_aload_n (pc' := 43) 0 dX11_span_42 rfl rfl rfl ?_
    refine v_getR (pc' := 46) fl_X11_19 dX11_span_43 rfl fun r13 => ?_
    refine v_getI (pc' := 49) fl_X11_137 dX11_span_46 rfl fun v14 => ?_
    refine v_icmpge (t := 56) (pc' := 52) dX11_span_49 (by decide) rfl ?_ ?_
    · refine V.sub [0, 1, 2, 3, 4, 5, 6] rfl ?_
      exact h_X11_span_b56 g a0 x1 x2 x3 x4 x5 x6 a0
    · refine v_iconst (v := 1) (pc' := 53) dX11_span_52 rfl rfl ?_
      refine v_goto (t := 57) dX11_span_53 (by decide) ?_
      refine V.sub [0, 1, 2, 3, 4, 5, 6] rfl ?_
      exact h_X11_span_b57 g a0 x1 x2 x3 x4 x5 x6 1 a0
set_option maxRecDepth 20000 in
theorem h_X11_span_b16 (g : GW) (a0 : Nat) (x1 : Int32) (x2 : Int32) (x3 : Int32) (x4 : Int32) (x5 : Int32) (x6 : Int32) (as0 : Nat) : V g mX11_span 14 rtI 16 [(0, rf g a0), (1, .int x1), (2, .int x2), (3, .int x3), (4, .int x4), (5, .int x5), (6, .int x6)] [rf g as0] (f_X11_span_b16 a0 x1 x2 x3 x4 x5 x6 as0) := by
  unfold f_X11_span_b16
  refine v_iconst (v := 0) (pc' := 17) dX11_span_16 rfl rfl ?_
  refine V.sub [0, 1, 2, 3, 4, 5, 6] rfl ?_
  exact h_X11_span_b17 g a0 x1 x2 x3 x4 x5 x6 0 as0
set_option maxRecDepth 20000 in
theorem h_X11_span (g : GW) (a0 : Nat) (x1 : Int32) (x2 : Int32) (x3 : Int32) (x4 : Int32) (x5 : Int32) (x6 : Int32) : V g mX11_span 14 rtI 0 [(0, rf g a0), (1, .int x1), (2, .int x2), (3, .int x3), (4, .int x4), (5, .int x5), (6, .int x6)] [] (f_X11_span a0 x1 x2 x3 x4 x5 x6) := by
  unfold f_X11_span
  refine v_aload_n (pc' := 1) 0 dX11_span_0 rfl rfl rfl ?_
  refine v_iload_n (pc' := 2) 2 dX11_span_1 rfl rfl rfl ?_
  refine v_iconst (v := 1) (pc' := 3) dX11_span_2 rfl rfl ?_
  refine v_icmplt (t := 16) (pc' := 6) dX11_span_3 (by decide) rfl ?_ ?_
  · refine V.sub [0, 1, 2, 3, 4, 5, 6] rfl ?_
    exact h_X11_span_b16 g a0 x1 x2 x3 x4 x5 x6 a0
  · refine v_iload_n (pc' := 7) 2 dX11_span_6 rfl rfl rfl ?_
    refine v_bipush (v := 20) (pc' := 9) dX11_span_7 rfl rfl ?_
    refine v_icmpgt (t := 16) (pc' := 12) dX11_span_9 (by decide) rfl ?_ ?_
    · refine V.sub [0, 1, 2, 3, 4, 5, 6] rfl ?_
      exact h_X11_span_b16 g a0 x1 x2 x3 x4 x5 x6 a0
    · refine v_iconst (v := 1) (pc' := 13) dX11_span_12 rfl rfl ?_
      refine v_goto (t := 17) dX11_span_13 (by decide) ?_
      refine V.sub [0, 1, 2, 3, 4, 5, 6] rfl ?_
      exact h_X11_span_b17 g a0 x1 x2 x3 x4 x5 x6 1 a0
-- image
def f_X11_image (a0 : Nat) : Mo Int32 := bd (gI 11 14 a0) fun v1 => if (v1 < 3 : Prop) then (bd (gR 11 12 a0) fun r2 => bd (gI 11 14 a0) fun v3 => bd (nO 3 3 [.null, .null, .int 0]) fun r4 => bd (gR 11 11 a0) fun r5 => bd (gN 11 13 a0) fun q6 => bd (ni (f_X3_init r4 r5 q6)) fun _ => bd (aq_ 4 3 r2 v3 r4) fun _ => bd (gI 11 14 a0) fun v7 => bd (pf 11 14 a0 (.int (v7 + (1 : Int32)))) fun _ => bd (gI 11 14 a0) fun v8 => pu v8) else pu (-1)
set_option maxRecDepth 20000 in
theorem h_X11_image (g : GW) (a0 : Nat) : V g mX11_image 10 rtI 0 [(0, rf g a0)] [] (f_X11_image a0) := by
  unfold f_X11_image
  refine v_aload_n (pc' := 1) 0 dX11_image_0 rfl rfl rfl ?_
  refine v_getI (pc' := 4) fl_X11_131 dX11_image_1 rfl fun v1 => ?_
  refine v_iconst (v := 3) (pc' := 5) dX11_image_4 rfl rfl ?_
  refine v_icmplt (t := 10) (pc' := 8) dX11_image_5 (by decide) rfl ?_ ?_
  · refine v_aload_n (pc' := 11) 0 dX11_image_10 rfl rfl rfl ?_
    refine v_getR (pc' := 14) fl_X11_93 dX11_image_11 rfl fun r2 => ?_
    refine v_aload_n (pc' := 15) 0 dX11_image_14 rfl rfl rfl ?_
    refine v_getI (pc' := 18) fl_X11_131 dX11_image_15 rfl fun v3 => ?_
    refine v_newO (pc' := 21) nw_X11_91 dX11_image_18 rfl fun r4 => ?_
    refine v_dup (pc' := 22) dX11_image_21 rfl rfl ?_
    refine v_aload_n (pc' := 23) 0 dX11_image_22 rfl rfl rfl ?_
    refine v_getR (pc' := 26) fl_X11_87 dX11_image_23 rfl fun r5 => ?_
    refine v_aload_n (pc' := 27) 0 dX11_image_26 rfl rfl rfl ?_
    refine v_getN (pc' := 30) fl_X11_127 dX11_image_27 rfl fun q6 => ?_
    refine v_callI (vs := [rf g r5, rn g q6]) (pc' := 33) (h_X3_init g r4 r5 q6) mn_X3_init wl_X11_150 (by cases q6 <;> exact Nat.le_of_ble_eq_true rfl) (by omega) (by decide) (Nat.le_of_ble_eq_true rfl) dX11_image_30 rfl ?_
    refine v_aast (pc' := 34) dX11_image_33 rfl ?_
    refine v_aload_n (pc' := 35) 0 dX11_image_34 rfl rfl rfl ?_
    refine v_dup (pc' := 36) dX11_image_35 rfl rfl ?_
    refine v_getI (pc' := 39) fl_X11_131 dX11_image_36 rfl fun v7 => ?_
    refine v_iconst (v := 1) (pc' := 40) dX11_image_39 rfl rfl ?_
    refine v_iadd (pc' := 41) dX11_image_40 rfl ?_
    refine v_put (v := (.int (v7 + (1 : Int32)))) (v' := .int (v7 + (1 : Int32))) (pc' := 44) fw_X11_131 rfl rfl rfl (fun h => nomatch h) dX11_image_41 rfl ?_
    refine v_aload_n (pc' := 45) 0 dX11_image_44 rfl rfl rfl ?_
    refine v_getI (pc' := 48) fl_X11_131 dX11_image_45 rfl fun v8 => ?_
    exact v_ireturn rfl dX11_image_48
  · refine v_iconst (v := -1) (pc' := 9) dX11_image_8 rfl rfl ?_
    exact v_ireturn rfl dX11_image_9
-- restore
def f_X11_restore (a0 : Nat) : Mo Int32 := bd (gI 11 14 a0) fun v1 => if (v1 ≤ 0 : Prop) then (pu (-1)) else bd (gI 11 14 a0) fun v2 => if (v2 ≤ 3 : Prop) then (bd (gR 11 12 a0) fun r3 => bd (gI 11 14 a0) fun v4 => bd (aN 4 r3 (v4 - (1 : Int32))) fun q5 => mt q5 (fun r6 => bd (gI 11 14 a0) fun v7 => bd (pf 11 14 a0 (.int (v7 - (1 : Int32)))) fun _ => bd (gR 11 11 a0) fun r8 => bd (gR 3 0 r6) fun r9 => bd (cv 5 r8 (f_X5_copyFrom r8 r9)) fun _ => bd (gN 3 1 r6) fun q10 => bd (pf 11 13 a0 (oV q10)) fun _ => bd (pf 11 15 a0 (.int 0)) fun _ => bd (gI 11 14 a0) fun v11 => pu v11) (pu (-1))) else pu (-1)
set_option maxRecDepth 20000 in
theorem h_X11_restore (g : GW) (a0 : Nat) : V g mX11_restore 9 rtI 0 [(0, rf g a0)] [] (f_X11_restore a0) := by
  unfold f_X11_restore
  refine v_aload_n (pc' := 1) 0 dX11_restore_0 rfl rfl rfl ?_
  refine v_getI (pc' := 4) fl_X11_131 dX11_restore_1 rfl fun v1 => ?_
  refine v_ifle (t := 15) (pc' := 7) dX11_restore_4 (by decide) rfl ?_ ?_
  · refine v_iconst (v := -1) (pc' := 16) dX11_restore_15 rfl rfl ?_
    exact v_ireturn rfl dX11_restore_16
  · refine v_aload_n (pc' := 8) 0 dX11_restore_7 rfl rfl rfl ?_
    refine v_getI (pc' := 11) fl_X11_131 dX11_restore_8 rfl fun v2 => ?_
    refine v_iconst (v := 3) (pc' := 12) dX11_restore_11 rfl rfl ?_
    refine v_icmple (t := 17) (pc' := 15) dX11_restore_12 (by decide) rfl ?_ ?_
    · refine v_aload_n (pc' := 18) 0 dX11_restore_17 rfl rfl rfl ?_
      refine v_getR (pc' := 21) fl_X11_93 dX11_restore_18 rfl fun r3 => ?_
      refine v_aload_n (pc' := 22) 0 dX11_restore_21 rfl rfl rfl ?_
      refine v_getI (pc' := 25) fl_X11_131 dX11_restore_22 rfl fun v4 => ?_
      refine v_iconst (v := 1) (pc' := 26) dX11_restore_25 rfl rfl ?_
      refine v_isub (pc' := 27) dX11_restore_26 rfl ?_
      refine v_aaldN (pc' := 28) dX11_restore_27 rfl fun q5 => ?_
      refine v_astore_nN (lv' := [(1, rn g q5), (0, rf g a0)]) (pc' := 29) dX11_restore_28 rfl (by decide) rfl rfl ?_
      refine v_aload_nN (pc' := 30) 0 dX11_restore_29 rfl rfl rfl ?_
      refine v_ifnn (t := 35) (pc' := 33) dX11_restore_30 (by decide) rfl (fun r6 hh => ?_) (fun hh => ?_)
      · subst hh
        refine v_aload_n (pc' := 36) 1 dX11_restore_35 rfl rfl rfl ?_
        refine v_dup (pc' := 37) dX11_restore_36 rfl rfl ?_
        refine v_getI (pc' := 40) fl_X11_131 dX11_restore_37 rfl fun v7 => ?_
        refine v_iconst (v := 1) (pc' := 41) dX11_restore_40 rfl rfl ?_
        refine v_isub (pc' := 42) dX11_restore_41 rfl ?_
        refine v_put (v := (.int (v7 - (1 : Int32)))) (v' := .int (v7 - (1 : Int32))) (pc' := 45) fw_X11_131 rfl rfl rfl (fun h => nomatch h) dX11_restore_42 rfl ?_
        refine v_aload_n (pc' := 46) 1 dX11_restore_45 rfl rfl rfl ?_
        refine v_getR (pc' := 49) fl_X11_87 dX11_restore_46 rfl fun r8 => ?_
        refine v_aload_n (pc' := 50) 0 dX11_restore_49 rfl rfl rfl ?_
        refine v_getR (pc' := 53) fl_X11_170 dX11_restore_50 rfl fun r9 => ?_
        refine v_callV (vs := [rf g r9]) (pc' := 56) (h_X5_copyFrom g r8 r9) mv_X5_copyFrom wl_X11_173 rfl (Nat.le_of_ble_eq_true rfl) (by omega) (by decide) (Nat.le_of_ble_eq_true rfl) rfl dX11_restore_53 rfl fun _ => ?_
        refine v_aload_n (pc' := 57) 1 dX11_restore_56 rfl rfl rfl ?_
        refine v_aload_n (pc' := 58) 0 dX11_restore_57 rfl rfl rfl ?_
        refine v_getN (pc' := 61) fl_X11_176 dX11_restore_58 rfl fun q10 => ?_
        refine v_put (v := (oV q10)) (v' := rn g q10) (pc' := 64) fw_X11_127 (rv_oV g q10) (by cases q10 <;> rfl) (by cases q10 <;> rfl) (fun h => nomatch h) dX11_restore_61 rfl ?_
        refine v_aload_n (pc' := 65) 1 dX11_restore_64 rfl rfl rfl ?_
        refine v_iconst (v := 0) (pc' := 66) dX11_restore_65 rfl rfl ?_
        refine v_put (v := (.int 0)) (v' := .int 0) (pc' := 69) fw_X11_134 rfl rfl rfl (fun h => nomatch h) dX11_restore_66 rfl ?_
        refine v_aload_n (pc' := 70) 1 dX11_restore_69 rfl rfl rfl ?_
        refine v_getI (pc' := 73) fl_X11_131 dX11_restore_70 rfl fun v11 => ?_
        exact v_ireturn rfl dX11_restore_73
      · subst hh
        refine v_iconst (v := -1) (pc' := 34) dX11_restore_33 rfl rfl ?_
        exact v_ireturn rfl dX11_restore_34
    · refine v_iconst (v := -1) (pc' := 16) dX11_restore_15 rfl rfl ?_
      exact v_ireturn rfl dX11_restore_16
-- status
def f_X11_status (a0 : Nat) (x1 : Int32) : Mo Int32 := if (x1 = 0 : Prop) then (bd (gI 11 16 a0) fun v2 => pu v2) else if (x1 = 1 : Prop) then (bd (gI 11 17 a0) fun v1 => pu v1) else pu (-1)
set_option maxRecDepth 20000 in
theorem h_X11_status (g : GW) (a0 : Nat) (x1 : Int32) : V g mX11_status 8 rtI 0 [(0, rf g a0), (1, .int x1)] [] (f_X11_status a0 x1) := by
  unfold f_X11_status
  refine v_iload_n (pc' := 1) 1 dX11_status_0 rfl rfl rfl ?_
  refine v_ifne (t := 11) (pc' := 4) dX11_status_1 (by decide) rfl ?_ ?_
  · refine v_iload_n (pc' := 12) 1 dX11_status_11 rfl rfl rfl ?_
    refine v_iconst (v := 1) (pc' := 13) dX11_status_12 rfl rfl ?_
    refine v_icmpne (t := 23) (pc' := 16) dX11_status_13 (by decide) rfl ?_ ?_
    · refine v_iconst (v := -1) (pc' := 24) dX11_status_23 rfl rfl ?_
      exact v_ireturn rfl dX11_status_24
    · refine v_aload_n (pc' := 17) 0 dX11_status_16 rfl rfl rfl ?_
      refine v_getI (pc' := 20) fl_X11_390 dX11_status_17 rfl fun v1 => ?_
      refine v_goto (t := 24) dX11_status_20 (by decide) ?_
      exact v_ireturn rfl dX11_status_24
  · refine v_aload_n (pc' := 5) 0 dX11_status_4 rfl rfl rfl ?_
    refine v_getI (pc' := 8) fl_X11_387 dX11_status_5 rfl fun v2 => ?_
    refine v_goto (t := 24) dX11_status_8 (by decide) ?_
    exact v_ireturn rfl dX11_status_24
-- count
def f_X11_count (a0 : Nat) (x1 : Int32) : Mo Int32 := sw x1 0 [(bd (gI 11 14 a0) fun v1 => pu v1), (bd (gR 11 0 a0) fun r2 => bd (gI 8 1 r2) fun v3 => pu v3), (bd (cv 11 a0 (f_X11_worksToUndo a0)) fun v4 => pu v4)] (pu (-1))
set_option maxRecDepth 20000 in
theorem h_X11_count (g : GW) (a0 : Nat) (x1 : Int32) : V g mX11_count 9 rtI 0 [(0, rf g a0), (1, .int x1)] [] (f_X11_count a0 x1) := by
  unfold f_X11_count
  refine v_iload_n (pc' := 1) 1 dX11_count_0 rfl rfl rfl ?_
  refine v_table (td := 46) dX11_count_1 rfl (by decide) ⟨⟨28, by decide, ?_⟩, ⟨33, by decide, ?_⟩, ⟨41, by decide, ?_⟩, trivial⟩ ?_
  · refine v_aload_n (pc' := 29) 0 dX11_count_28 rfl rfl rfl ?_
    refine v_getI (pc' := 32) fl_X11_131 dX11_count_29 rfl fun v1 => ?_
    exact v_ireturn rfl dX11_count_32
  · refine v_aload_n (pc' := 34) 0 dX11_count_33 rfl rfl rfl ?_
    refine v_getR (pc' := 37) fl_X11_10 dX11_count_34 rfl fun r2 => ?_
    refine v_getI (pc' := 40) fl_X11_97 dX11_count_37 rfl fun v3 => ?_
    exact v_ireturn rfl dX11_count_40
  · refine v_aload_n (pc' := 42) 0 dX11_count_41 rfl rfl rfl ?_
    refine v_callV (vs := []) (pc' := 45) (h_X11_worksToUndo g a0) mv_X11_worksToUndo wl_X11_144 rfl (Nat.le_of_ble_eq_true rfl) (by omega) (by decide) (Nat.le_of_ble_eq_true rfl) rfl dX11_count_42 rfl fun v4 => ?_
    exact v_ireturn rfl dX11_count_45
  · refine v_iconst (v := -1) (pc' := 47) dX11_count_46 rfl rfl ?_
    exact v_ireturn rfl dX11_count_47
