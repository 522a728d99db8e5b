-- plateOf
def f_X12_plateOf (a0 : Nat) (x1 : Int32) (x2 : Int32) : Mo Int32 := bd (al 0 a0 (((28 : Int32) + ((5 : Int32) * x1)) + x2)) fun v1 => pu v1
set_option maxRecDepth 20000 in
theorem h_X12_plateOf (g : GW) (a0 : Nat) (x1 : Int32) (x2 : Int32) : V g mX12_plateOf 8 rtI 0 [(0, rf g a0), (1, .int x1), (2, .int x2)] [] (f_X12_plateOf a0 x1 x2) := by
  unfold f_X12_plateOf
  refine v_aload_n (pc' := 1) 0 dX12_plateOf_0 rfl rfl rfl ?_
  refine v_bipush (v := 28) (pc' := 3) dX12_plateOf_1 rfl rfl ?_
  refine v_iconst (v := 5) (pc' := 4) dX12_plateOf_3 rfl rfl ?_
  refine v_iload_n (pc' := 5) 1 dX12_plateOf_4 rfl rfl rfl ?_
  refine v_imul (pc' := 6) dX12_plateOf_5 rfl ?_
  refine v_iadd (pc' := 7) dX12_plateOf_6 rfl ?_
  refine v_iload_n (pc' := 8) 2 dX12_plateOf_7 rfl rfl rfl ?_
  refine v_iadd (pc' := 9) dX12_plateOf_8 rfl ?_
  refine v_iald (pc' := 10) dX12_plateOf_9 rfl fun v1 => ?_
  exact v_ireturn rfl dX12_plateOf_10
-- shownBy
def f_X12_shownBy_b62 (a0 : Nat) (a1 : Nat) (x2 : Int32) (x4 : Int32) (xs0 : Int32) (xs1 : Int32) (as2 : Nat) : Mo Int32 := bd (as_ as2 xs1 xs0) fun _ => bd (gR 12 24 a0) fun r1 => bd (al 0 a1 27) fun v2 => bd (as_ r1 5 v2) fun _ => bd (gR 12 24 a0) fun r3 => bd (al 0 a1 ((8 : Int32) + x2)) fun v4 => bd (as_ r3 6 v4) fun _ => bd (gR 12 24 a0) fun r5 => bd (as_ r5 7 x4) fun _ => bd (cv 12 a0 (f_X12_byLaw a0)) fun v6 => pu v6
def f_X12_shownBy (a0 : Nat) (a1 : Nat) (x2 : Int32) (x3 : Int32) (x4 : Int32) : Mo Int32 := bd (gR 12 24 a0) fun r7 => bd (cv 12 a0 (f_X12_faceOf a0 x2)) fun v8 => bd (as_ r7 0 v8) fun _ => bd (gR 12 24 a0) fun r9 => bd (gR 12 16 a0) fun r10 => bd (aR 3 r10 x2) fun r11 => bd (al 0 r11 1) fun v12 => bd (as_ r9 1 v12) fun _ => bd (gR 12 24 a0) fun r13 => bd (al 0 a1 ((0 : Int32) + x2)) fun v14 => bd (as_ r13 2 v14) fun _ => bd (gR 12 24 a0) fun r15 => bd (cv 12 a0 (f_X12_faceOf a0 x3)) fun v16 => bd (as_ r15 3 v16) fun _ => bd (gR 12 24 a0) fun r17 => if (x2 = x3 : Prop) then (f_X12_shownBy_b62 a0 a1 x2 x4 1 4 r17) else f_X12_shownBy_b62 a0 a1 x2 x4 0 4 r17
set_option maxRecDepth 20000 in
theorem h_X12_shownBy_b62 (g : GW) (a0 : Nat) (a1 : Nat) (x2 : Int32) (x4 : Int32) (xs0 : Int32) (xs1 : Int32) (as2 : Nat) : V g mX12_shownBy 11 rtI 62 [(0, rf g a0), (1, rf g a1), (2, .int x2), (4, .int x4)] [.int xs0, .int xs1, rf g as2] (f_X12_shownBy_b62 a0 a1 x2 x4 xs0 xs1 as2) := by
  unfold f_X12_shownBy_b62
  refine v_iast (pc' := 63) dX12_shownBy_62 rfl ?_
  refine v_aload_n (pc' := 64) 0 dX12_shownBy_63 rfl rfl rfl ?_
  refine v_getR (pc' := 67) fl_X12_55 dX12_shownBy_64 rfl fun r1 => ?_
  refine v_iconst (v := 5) (pc' := 68) dX12_shownBy_67 rfl rfl ?_
  refine v_aload_n (pc' := 69) 1 dX12_shownBy_68 rfl rfl rfl ?_
  refine v_bipush (v := 27) (pc' := 71) dX12_shownBy_69 rfl rfl ?_
  refine v_iald (pc' := 72) dX12_shownBy_71 rfl fun v2 => ?_
  refine v_iast (pc' := 73) dX12_shownBy_72 rfl ?_
  refine v_aload_n (pc' := 74) 0 dX12_shownBy_73 rfl rfl rfl ?_
  refine v_getR (pc' := 77) fl_X12_55 dX12_shownBy_74 rfl fun r3 => ?_
  refine v_bipush (v := 6) (pc' := 79) dX12_shownBy_77 rfl rfl ?_
  refine v_aload_n (pc' := 80) 1 dX12_shownBy_79 rfl rfl rfl ?_
  refine v_bipush (v := 8) (pc' := 82) dX12_shownBy_80 rfl rfl ?_
  refine v_iload_n (pc' := 83) 2 dX12_shownBy_82 rfl rfl rfl ?_
  refine v_iadd (pc' := 84) dX12_shownBy_83 rfl ?_
  refine v_iald (pc' := 85) dX12_shownBy_84 rfl fun v4 => ?_
  refine v_iast (pc' := 86) dX12_shownBy_85 rfl ?_
  refine v_aload_n (pc' := 87) 0 dX12_shownBy_86 rfl rfl rfl ?_
  refine v_getR (pc' := 90) fl_X12_55 dX12_shownBy_87 rfl fun r5 => ?_
  refine v_bipush (v := 7) (pc' := 92) dX12_shownBy_90 rfl rfl ?_
  refine v_iload (pc' := 94) 3 dX12_shownBy_92 rfl rfl ?_
  refine v_iast (pc' := 95) dX12_shownBy_94 rfl ?_
  refine v_aload_n (pc' := 96) 0 dX12_shownBy_95 rfl rfl rfl ?_
  refine v_callV (vs := []) (pc' := 99) (h_X12_byLaw g a0) mv_X12_byLaw wl_X12_256 rfl (Nat.le_of_ble_eq_true rfl) (by omega) (by decide) (Nat.le_of_ble_eq_true rfl) rfl dX12_shownBy_96 rfl fun v6 => ?_
  exact v_ireturn rfl dX12_shownBy_99
set_option maxRecDepth 20000 in
theorem h_X12_shownBy (g : GW) (a0 : Nat) (a1 : Nat) (x2 : Int32) (x3 : Int32) (x4 : Int32) : V g mX12_shownBy 11 rtI 0 [(0, rf g a0), (1, rf g a1), (2, .int x2), (3, .int x3), (4, .int x4)] [] (f_X12_shownBy a0 a1 x2 x3 x4) := by
  unfold f_X12_shownBy
  refine v_aload_n (pc' := 1) 0 dX12_shownBy_0 rfl rfl rfl ?_
  refine v_getR (pc' := 4) fl_X12_55 dX12_shownBy_1 rfl fun r7 => ?_
  refine v_iconst (v := 0) (pc' := 5) dX12_shownBy_4 rfl rfl ?_
  refine v_aload_n (pc' := 6) 0 dX12_shownBy_5 rfl rfl rfl ?_
  refine v_iload_n (pc' := 7) 2 dX12_shownBy_6 rfl rfl rfl ?_
  refine v_callV (vs := [.int x2]) (pc' := 10) (h_X12_faceOf g a0 x2) mv_X12_faceOf wl_X12_253 rfl (Nat.le_of_ble_eq_true rfl) (by omega) (by decide) (Nat.le_of_ble_eq_true rfl) rfl dX12_shownBy_7 rfl fun v8 => ?_
  refine v_iast (pc' := 11) dX12_shownBy_10 rfl ?_
  refine v_aload_n (pc' := 12) 0 dX12_shownBy_11 rfl rfl rfl ?_
  refine v_getR (pc' := 15) fl_X12_55 dX12_shownBy_12 rfl fun r9 => ?_
  refine v_iconst (v := 1) (pc' := 16) dX12_shownBy_15 rfl rfl ?_
  refine v_aload_n (pc' := 17) 0 dX12_shownBy_16 rfl rfl rfl ?_
  refine v_getR (pc' := 20) fl_X12_37 dX12_shownBy_17 rfl fun r10 => ?_
  refine v_iload_n (pc' := 21) 2 dX12_shownBy_20 rfl rfl rfl ?_
  refine v_aaldR (pc' := 22) dX12_shownBy_21 rfl fun r11 => ?_
  refine v_iconst (v := 1) (pc' := 23) dX12_shownBy_22 rfl rfl ?_
  refine v_iald (pc' := 24) dX12_shownBy_23 rfl fun v12 => ?_
  refine v_iast (pc' := 25) dX12_shownBy_24 rfl ?_
  refine v_aload_n (pc' := 26) 0 dX12_shownBy_25 rfl rfl rfl ?_
  refine v_getR (pc' := 29) fl_X12_55 dX12_shownBy_26 rfl fun r13 => ?_
  refine v_iconst (v := 2) (pc' := 30) dX12_shownBy_29 rfl rfl ?_
  refine v_aload_n (pc' := 31) 1 dX12_shownBy_30 rfl rfl rfl ?_
  refine v_iconst (v := 0) (pc' := 32) dX12_shownBy_31 rfl rfl ?_
  refine v_iload_n (pc' := 33) 2 dX12_shownBy_32 rfl rfl rfl ?_
  refine v_iadd (pc' := 34) dX12_shownBy_33 rfl ?_
  refine v_iald (pc' := 35) dX12_shownBy_34 rfl fun v14 => ?_
  refine v_iast (pc' := 36) dX12_shownBy_35 rfl ?_
  refine v_aload_n (pc' := 37) 0 dX12_shownBy_36 rfl rfl rfl ?_
  refine v_getR (pc' := 40) fl_X12_55 dX12_shownBy_37 rfl fun r15 => ?_
  refine v_iconst (v := 3) (pc' := 41) dX12_shownBy_40 rfl rfl ?_
  refine v_aload_n (pc' := 42) 0 dX12_shownBy_41 rfl rfl rfl ?_
  refine v_iload_n (pc' := 43) 3 dX12_shownBy_42 rfl rfl rfl ?_
  refine v_callV (vs := [.int x3]) (pc' := 46) (h_X12_faceOf g a0 x3) mv_X12_faceOf wl_X12_253 rfl (Nat.le_of_ble_eq_true rfl) (by omega) (by decide) (Nat.le_of_ble_eq_true rfl) rfl dX12_shownBy_43 rfl fun v16 => ?_
  refine v_iast (pc' := 47) dX12_shownBy_46 rfl ?_
  refine v_aload_n (pc' := 48) 0 dX12_shownBy_47 rfl rfl rfl ?_
  refine v_getR (pc' := 51) fl_X12_55 dX12_shownBy_48 rfl fun r17 => ?_
  refine v_iconst (v := 4) (pc' := 52) dX12_shownBy_51 rfl rfl ?_
  refine v_iload_n (pc' := 53) 2 dX12_shownBy_52 rfl rfl rfl ?_
  refine v_iload_n (pc' := 54) 3 dX12_shownBy_53 rfl rfl rfl ?_
  refine v_icmpne (t := 61) (pc' := 57) dX12_shownBy_54 (by decide) rfl ?_ ?_
  · refine v_iconst (v := 0) (pc' := 62) dX12_shownBy_61 rfl rfl ?_
    refine V.sub [0, 1, 2, 4] rfl ?_
    exact h_X12_shownBy_b62 g a0 a1 x2 x4 0 4 r17
  · refine v_iconst (v := 1) (pc' := 58) dX12_shownBy_57 rfl rfl ?_
    refine v_goto (t := 62) dX12_shownBy_58 (by decide) ?_
    refine V.sub [0, 1, 2, 4] rfl ?_
    exact h_X12_shownBy_b62 g a0 a1 x2 x4 1 4 r17
-- takesOne
def f_X12_takesOne (a0 : Nat) (a1 : Nat) (x2 : Int32) (x3 : Int32) (x4 : Int32) : Mo Int32 := bd (gR 12 14 a0) fun r1 => bd (al 0 r1 x2) fun v2 => bd (f_X12_has v2 x3) fun v3 => if (v3 = 0 : Prop) then (bd (al 0 a1 24) fun v4 => if (v4 = 40 : Prop) then (pu 0) else bd (al 0 a1 24) fun v5 => bd (cv 12 a0 (f_X12_shownBy a0 a1 x2 x3 x4)) fun v6 => bd (as_ a1 (((28 : Int32) + ((5 : Int32) * v5)) + (3 : Int32)) v6) fun _ => bd (as_ a1 ((28 : Int32) + ((5 : Int32) * v5)) x2) fun _ => bd (as_ a1 (((28 : Int32) + ((5 : Int32) * v5)) + (1 : Int32)) x3) fun _ => bd (as_ a1 (((28 : Int32) + ((5 : Int32) * v5)) + (2 : Int32)) x4) fun _ => bd (al 0 a1 27) fun v7 => bd (as_ a1 (((28 : Int32) + ((5 : Int32) * v5)) + (4 : Int32)) v7) fun _ => bd (al 0 a1 ((8 : Int32) + x2)) fun v8 => bd (as_ a1 ((8 : Int32) + x2) (v8 + (1 : Int32))) fun _ => bd (al 0 a1 ((16 : Int32) + x3)) fun v9 => bd (as_ a1 ((16 : Int32) + x3) (v9 + (1 : Int32))) fun _ => bd (al 0 a1 24) fun v10 => bd (as_ a1 24 (v10 + (1 : Int32))) fun _ => bd (al 0 a1 25) fun v11 => bd (as_ a1 25 (v11 + (1 : Int32))) fun _ => pu 1) else pu 0
set_option maxRecDepth 20000 in
theorem h_X12_takesOne (g : GW) (a0 : Nat) (a1 : Nat) (x2 : Int32) (x3 : Int32) (x4 : Int32) : V g mX12_takesOne 12 rtI 0 [(0, rf g a0), (1, rf g a1), (2, .int x2), (3, .int x3), (4, .int x4)] [] (f_X12_takesOne a0 a1 x2 x3 x4) := by
  unfold f_X12_takesOne
  refine v_aload_n (pc' := 1) 0 dX12_takesOne_0 rfl rfl rfl ?_
  refine v_getR (pc' := 4) fl_X12_29 dX12_takesOne_1 rfl fun r1 => ?_
  refine v_iload_n (pc' := 5) 2 dX12_takesOne_4 rfl rfl rfl ?_
  refine v_iald (pc' := 6) dX12_takesOne_5 rfl fun v2 => ?_
  refine v_iload_n (pc' := 7) 3 dX12_takesOne_6 rfl rfl rfl ?_
  refine v_callS (vs := [.int v2, .int x3]) (pc' := 10) (h_X12_has g v2 x3) ms_X12_has wl_X12_246 (Nat.le_of_ble_eq_true rfl) (by omega) (by decide) (Nat.le_of_ble_eq_true rfl) rfl dX12_takesOne_7 rfl fun v3 => ?_
  refine v_ifne (t := 22) (pc' := 13) dX12_takesOne_10 (by decide) rfl ?_ ?_
  · refine v_iconst (v := 0) (pc' := 23) dX12_takesOne_22 rfl rfl ?_
    exact v_zret rfl rfl dX12_takesOne_23
  · refine v_aload_n (pc' := 14) 1 dX12_takesOne_13 rfl rfl rfl ?_
    refine v_bipush (v := 24) (pc' := 16) dX12_takesOne_14 rfl rfl ?_
    refine v_iald (pc' := 17) dX12_takesOne_16 rfl fun v4 => ?_
    refine v_bipush (v := 40) (pc' := 19) dX12_takesOne_17 rfl rfl ?_
    refine v_icmpne (t := 24) (pc' := 22) dX12_takesOne_19 (by decide) rfl ?_ ?_
    · refine v_bipush (v := 28) (pc' := 26) dX12_takesOne_24 rfl rfl ?_
      refine v_iconst (v := 5) (pc' := 27) dX12_takesOne_26 rfl rfl ?_
      refine v_aload_n (pc' := 28) 1 dX12_takesOne_27 rfl rfl rfl ?_
      refine v_bipush (v := 24) (pc' := 30) dX12_takesOne_28 rfl rfl ?_
      refine v_iald (pc' := 31) dX12_takesOne_30 rfl fun v5 => ?_
      refine v_imul (pc' := 32) dX12_takesOne_31 rfl ?_
      refine v_iadd (pc' := 33) dX12_takesOne_32 rfl ?_
      refine v_istore (lv' := [(5, .int ((28 : Int32) + ((5 : Int32) * v5))), (0, rf g a0), (1, rf g a1), (2, .int x2), (3, .int x3), (4, .int x4)]) (pc' := 35) dX12_takesOne_33 (by decide) rfl rfl ?_
      refine v_aload_n (pc' := 36) 2 dX12_takesOne_35 rfl rfl rfl ?_
      refine v_iload (pc' := 38) 0 dX12_takesOne_36 rfl rfl ?_
      refine v_iconst (v := 3) (pc' := 39) dX12_takesOne_38 rfl rfl ?_
      refine v_iadd (pc' := 40) dX12_takesOne_39 rfl ?_
      refine v_aload_n (pc' := 41) 1 dX12_takesOne_40 rfl rfl rfl ?_
      refine v_aload_n (pc' := 42) 2 dX12_takesOne_41 rfl rfl rfl ?_
      refine v_iload_n (pc' := 43) 3 dX12_takesOne_42 rfl rfl rfl ?_
      refine v_iload_n (pc' := 44) 4 dX12_takesOne_43 rfl rfl rfl ?_
      refine v_iload (pc' := 46) 5 dX12_takesOne_44 rfl rfl ?_
      refine v_callV (vs := [rf g a1, .int x2, .int x3, .int x4]) (pc' := 49) (h_X12_shownBy g a0 a1 x2 x3 x4) mv_X12_shownBy wl_X12_259 rfl (Nat.le_of_ble_eq_true rfl) (by omega) (by decide) (Nat.le_of_ble_eq_true rfl) rfl dX12_takesOne_46 rfl fun v6 => ?_
      refine v_iast (pc' := 50) dX12_takesOne_49 rfl ?_
      refine v_aload_n (pc' := 51) 2 dX12_takesOne_50 rfl rfl rfl ?_
      refine v_iload (pc' := 53) 0 dX12_takesOne_51 rfl rfl ?_
      refine v_iload_n (pc' := 54) 3 dX12_takesOne_53 rfl rfl rfl ?_
      refine v_iast (pc' := 55) dX12_takesOne_54 rfl ?_
      refine v_aload_n (pc' := 56) 2 dX12_takesOne_55 rfl rfl rfl ?_
      refine v_iload (pc' := 58) 0 dX12_takesOne_56 rfl rfl ?_
      refine v_iconst (v := 1) (pc' := 59) dX12_takesOne_58 rfl rfl ?_
      refine v_iadd (pc' := 60) dX12_takesOne_59 rfl ?_
      refine v_iload_n (pc' := 61) 4 dX12_takesOne_60 rfl rfl rfl ?_
      refine v_iast (pc' := 62) dX12_takesOne_61 rfl ?_
      refine v_aload_n (pc' := 63) 2 dX12_takesOne_62 rfl rfl rfl ?_
      refine v_iload (pc' := 65) 0 dX12_takesOne_63 rfl rfl ?_
      refine v_iconst (v := 2) (pc' := 66) dX12_takesOne_65 rfl rfl ?_
      refine v_iadd (pc' := 67) dX12_takesOne_66 rfl ?_
      refine v_iload (pc' := 69) 5 dX12_takesOne_67 rfl rfl ?_
      refine v_iast (pc' := 70) dX12_takesOne_69 rfl ?_
      refine v_aload_n (pc' := 71) 2 dX12_takesOne_70 rfl rfl rfl ?_
      refine v_iload (pc' := 73) 0 dX12_takesOne_71 rfl rfl ?_
      refine v_iconst (v := 4) (pc' := 74) dX12_takesOne_73 rfl rfl ?_
      refine v_iadd (pc' := 75) dX12_takesOne_74 rfl ?_
      refine v_aload_n (pc' := 76) 2 dX12_takesOne_75 rfl rfl rfl ?_
      refine v_bipush (v := 27) (pc' := 78) dX12_takesOne_76 rfl rfl ?_
      refine v_iald (pc' := 79) dX12_takesOne_78 rfl fun v7 => ?_
      refine v_iast (pc' := 80) dX12_takesOne_79 rfl ?_
      refine v_aload_n (pc' := 81) 2 dX12_takesOne_80 rfl rfl rfl ?_
      refine v_bipush (v := 8) (pc' := 83) dX12_takesOne_81 rfl rfl ?_
      refine v_iload_n (pc' := 84) 3 dX12_takesOne_83 rfl rfl rfl ?_
      refine v_iadd (pc' := 85) dX12_takesOne_84 rfl ?_
      refine v_dup2 (pc' := 86) dX12_takesOne_85 rfl rfl rfl ?_
      refine v_iald (pc' := 87) dX12_takesOne_86 rfl fun v8 => ?_
      refine v_iconst (v := 1) (pc' := 88) dX12_takesOne_87 rfl rfl ?_
      refine v_iadd (pc' := 89) dX12_takesOne_88 rfl ?_
      refine v_iast (pc' := 90) dX12_takesOne_89 rfl ?_
      refine v_aload_n (pc' := 91) 2 dX12_takesOne_90 rfl rfl rfl ?_
      refine v_bipush (v := 16) (pc' := 93) dX12_takesOne_91 rfl rfl ?_
      refine v_iload_n (pc' := 94) 4 dX12_takesOne_93 rfl rfl rfl ?_
      refine v_iadd (pc' := 95) dX12_takesOne_94 rfl ?_
      refine v_dup2 (pc' := 96) dX12_takesOne_95 rfl rfl rfl ?_
      refine v_iald (pc' := 97) dX12_takesOne_96 rfl fun v9 => ?_
      refine v_iconst (v := 1) (pc' := 98) dX12_takesOne_97 rfl rfl ?_
      refine v_iadd (pc' := 99) dX12_takesOne_98 rfl ?_
      refine v_iast (pc' := 100) dX12_takesOne_99 rfl ?_
      refine v_aload_n (pc' := 101) 2 dX12_takesOne_100 rfl rfl rfl ?_
      refine v_bipush (v := 24) (pc' := 103) dX12_takesOne_101 rfl rfl ?_
      refine v_dup2 (pc' := 104) dX12_takesOne_103 rfl rfl rfl ?_
      refine v_iald (pc' := 105) dX12_takesOne_104 rfl fun v10 => ?_
      refine v_iconst (v := 1) (pc' := 106) dX12_takesOne_105 rfl rfl ?_
      refine v_iadd (pc' := 107) dX12_takesOne_106 rfl ?_
      refine v_iast (pc' := 108) dX12_takesOne_107 rfl ?_
      refine v_aload_n (pc' := 109) 2 dX12_takesOne_108 rfl rfl rfl ?_
      refine v_bipush (v := 25) (pc' := 111) dX12_takesOne_109 rfl rfl ?_
      refine v_dup2 (pc' := 112) dX12_takesOne_111 rfl rfl rfl ?_
      refine v_iald (pc' := 113) dX12_takesOne_112 rfl fun v11 => ?_
      refine v_iconst (v := 1) (pc' := 114) dX12_takesOne_113 rfl rfl ?_
      refine v_iadd (pc' := 115) dX12_takesOne_114 rfl ?_
      refine v_iast (pc' := 116) dX12_takesOne_115 rfl ?_
      refine v_iconst (v := 1) (pc' := 117) dX12_takesOne_116 rfl rfl ?_
      exact v_zret rfl rfl dX12_takesOne_117
    · refine v_iconst (v := 0) (pc' := 23) dX12_takesOne_22 rfl rfl ?_
      exact v_zret rfl rfl dX12_takesOne_23
-- burns
def f_X12_burns_b61 (k4 : Nat → Int32 → Int32 → Int32 → Mo Int32) (a0 : Nat) (x1 : Int32) (x2 : Int32) (x3 : Int32) : Mo Int32 := k4 a0 x1 x2 (x3 + 1)
def f_X12_burns_b28 (k4 : Nat → Int32 → Int32 → Int32 → Mo Int32) : Nat → Nat → Int32 → Int32 → Int32 → Int32 → Mo Int32
  | 0, _, _, _, _, _ => fl
  | n + 1, a0, x1, x2, x3, x4 => if (5 ≤ x4 : Prop) then (f_X12_burns_b61 k4 a0 x1 (x2 + 1) x3) else bd (f_X12_plateOf a0 x3 x4) fun v1 => bd (as_ a0 (((28 : Int32) + ((5 : Int32) * x2)) + x4) v1) fun _ => (f_X12_burns_b28 k4 n) a0 x1 x2 x3 (x4 + 1)
def f_X12_burns_b4 : Nat → Nat → Int32 → Int32 → Int32 → Mo Int32
  | 0, _, _, _, _ => fl
  | n + 1, a0, x1, x2, x3 => bd (al 0 a0 24) fun v2 => if (v2 ≤ x3 : Prop) then (bd (al 0 a0 24) fun v3 => bd (al 0 a0 26) fun v4 => bd (as_ a0 26 (v4 + (v3 - x2))) fun _ => bd (as_ a0 24 x2) fun _ => if ((v3 - x2) ≤ 0 : Prop) then (pu 0) else pu 1) else bd (f_X12_plateOf a0 x3 2) fun v5 => if (v5 = x1 : Prop) then (f_X12_burns_b61 (f_X12_burns_b4 n) a0 x1 x2 x3) else f_X12_burns_b28 (f_X12_burns_b4 n) NF a0 x1 x2 x3 0
def f_X12_burns (a0 : Nat) (x1 : Int32) : Mo Int32 := f_X12_burns_b4 NF a0 x1 0 0
set_option maxRecDepth 20000 in
theorem h_X12_burns_b61 (g : GW) (k4 : Nat → Int32 → Int32 → Int32 → Mo Int32) (hk4 : ∀ a0 x1 x2 x3, V g mX12_burns 9 rtI 4 [(0, rf g a0), (1, .int x1), (2, .int x2), (3, .int x3)] [] (k4 a0 x1 x2 x3)) (a0 : Nat) (x1 : Int32) (x2 : Int32) (x3 : Int32) : V g mX12_burns 9 rtI 61 [(0, rf g a0), (1, .int x1), (2, .int x2), (3, .int x3)] [] (f_X12_burns_b61 k4 a0 x1 x2 x3) := by
  unfold f_X12_burns_b61
  refine v_iinc (v := x3 + 1) (lv' := [(3, .int (x3 + 1)), (0, rf g a0), (1, .int x1), (2, .int x2)]) (pc' := 64) 3 dX12_burns_61 rfl rfl (by decide) rfl rfl ?_
  refine v_goto (t := 4) dX12_burns_64 (by decide) ?_
  refine V.sub [1, 2, 3, 0] rfl ?_
  exact hk4 a0 x1 x2 (x3 + 1)
set_option maxRecDepth 20000 in
theorem h_X12_burns_b28 (g : GW) (k4 : Nat → Int32 → Int32 → Int32 → Mo Int32) (hk4 : ∀ a0 x1 x2 x3, V g mX12_burns 9 rtI 4 [(0, rf g a0), (1, .int x1), (2, .int x2), (3, .int x3)] [] (k4 a0 x1 x2 x3)) : ∀ n : Nat, ∀ a0 x1 x2 x3 x4, V g mX12_burns 9 rtI 28 [(0, rf g a0), (1, .int x1), (2, .int x2), (3, .int x3), (4, .int x4)] [] (f_X12_burns_b28 k4 n a0 x1 x2 x3 x4) := by
  intro n
  induction n with
  | zero => intro a0 x1 x2 x3 x4; exact V.vain
  | succ n ih =>
    intro a0 x1 x2 x3 x4
    unfold f_X12_burns_b28
    refine v_iload (pc' := 30) 4 dX12_burns_28 rfl rfl ?_
    refine v_iconst (v := 5) (pc' := 31) dX12_burns_30 rfl rfl ?_
    refine v_icmpge (t := 58) (pc' := 34) dX12_burns_31 (by decide) rfl ?_ ?_
    · refine v_iinc (v := x2 + 1) (lv' := [(2, .int (x2 + 1)), (0, rf g a0), (1, .int x1), (3, .int x3), (4, .int x4)]) (pc' := 61) 2 dX12_burns_58 rfl rfl (by decide) rfl rfl ?_
      refine V.sub [1, 2, 0, 3] rfl ?_
      exact h_X12_burns_b61 g k4 hk4 a0 x1 (x2 + 1) x3
    · refine v_aload_n (pc' := 35) 0 dX12_burns_34 rfl rfl rfl ?_
      refine v_bipush (v := 28) (pc' := 37) dX12_burns_35 rfl rfl ?_
      refine v_iconst (v := 5) (pc' := 38) dX12_burns_37 rfl rfl ?_
      refine v_iload_n (pc' := 39) 2 dX12_burns_38 rfl rfl rfl ?_
      refine v_imul (pc' := 40) dX12_burns_39 rfl ?_
      refine v_iadd (pc' := 41) dX12_burns_40 rfl ?_
      refine v_iload (pc' := 43) 4 dX12_burns_41 rfl rfl ?_
      refine v_iadd (pc' := 44) dX12_burns_43 rfl ?_
      refine v_aload_n (pc' := 45) 0 dX12_burns_44 rfl rfl rfl ?_
      refine v_iload_n (pc' := 46) 3 dX12_burns_45 rfl rfl rfl ?_
      refine v_iload (pc' := 48) 4 dX12_burns_46 rfl rfl ?_
      refine v_callS (vs := [rf g a0, .int x3, .int x4]) (pc' := 51) (h_X12_plateOf g a0 x3 x4) ms_X12_plateOf wl_X12_263 (Nat.le_of_ble_eq_true rfl) (by omega) (by decide) (Nat.le_of_ble_eq_true rfl) rfl dX12_burns_48 rfl fun v1 => ?_
      refine v_iast (pc' := 52) dX12_burns_51 rfl ?_
      refine v_iinc (v := x4 + 1) (lv' := [(4, .int (x4 + 1)), (0, rf g a0), (1, .int x1), (2, .int x2), (3, .int x3)]) (pc' := 55) 4 dX12_burns_52 rfl rfl (by decide) rfl rfl ?_
      refine v_goto (t := 28) dX12_burns_55 (by decide) ?_
      refine V.sub [1, 2, 3, 4, 0] rfl ?_
      exact ih a0 x1 x2 x3 (x4 + 1)
set_option maxRecDepth 20000 in
theorem h_X12_burns_b4 (g : GW) : ∀ n : Nat, ∀ a0 x1 x2 x3, V g mX12_burns 9 rtI 4 [(0, rf g a0), (1, .int x1), (2, .int x2), (3, .int x3)] [] (f_X12_burns_b4 n a0 x1 x2 x3) := by
  intro n
  induction n with
  | zero => intro a0 x1 x2 x3; exact V.vain
  | succ n ih =>
    intro a0 x1 x2 x3
    unfold f_X12_burns_b4
    refine v_iload_n (pc' := 5) 3 dX12_burns_4 rfl rfl rfl ?_
    refine v_aload_n (pc' := 6) 0 dX12_burns_5 rfl rfl rfl ?_
    refine v_bipush (v := 24) (pc' := 8) dX12_burns_6 rfl rfl ?_
    refine v_iald (pc' := 9) dX12_burns_8 rfl fun v2 => ?_
    refine v_icmpge (t := 67) (pc' := 12) dX12_burns_9 (by decide) rfl ?_ ?_
    · refine v_aload_n (pc' := 68) 0 dX12_burns_67 rfl rfl rfl ?_
      refine v_bipush (v := 24) (pc' := 70) dX12_burns_68 rfl rfl ?_
      refine v_iald (pc' := 71) dX12_burns_70 rfl fun v3 => ?_
      refine v_iload_n (pc' := 72) 2 dX12_burns_71 rfl rfl rfl ?_
      refine v_isub (pc' := 73) dX12_burns_72 rfl ?_
      refine v_istore_n (lv' := [(3, .int (v3 - x2)), (0, rf g a0), (1, .int x1), (2, .int x2)]) (pc' := 74) dX12_burns_73 rfl (by decide) rfl rfl ?_
      refine v_aload_n (pc' := 75) 1 dX12_burns_74 rfl rfl rfl ?_
      refine v_bipush (v := 26) (pc' := 77) dX12_burns_75 rfl rfl ?_
      refine v_dup2 (pc' := 78) dX12_burns_77 rfl rfl rfl ?_
      refine v_iald (pc' := 79) dX12_burns_78 rfl fun v4 => ?_
      refine v_iload_n (pc' := 80) 0 dX12_burns_79 rfl rfl rfl ?_
      refine v_iadd (pc' := 81) dX12_burns_80 rfl ?_
      refine v_iast (pc' := 82) dX12_burns_81 rfl ?_
      refine v_aload_n (pc' := 83) 1 dX12_burns_82 rfl rfl rfl ?_
      refine v_bipush (v := 24) (pc' := 85) dX12_burns_83 rfl rfl ?_
      refine v_iload_n (pc' := 86) 3 dX12_burns_85 rfl rfl rfl ?_
      refine v_iast (pc' := 87) dX12_burns_86 rfl ?_
      refine v_iload_n (pc' := 88) 0 dX12_burns_87 rfl rfl rfl ?_
      refine v_ifle (t := 95) (pc' := 91) dX12_burns_88 (by decide) rfl ?_ ?_
      · refine v_iconst (v := 0) (pc' := 96) dX12_burns_95 rfl rfl ?_
        exact v_zret rfl rfl dX12_burns_96
      · refine v_iconst (v := 1) (pc' := 92) dX12_burns_91 rfl rfl ?_
        refine v_goto (t := 96) dX12_burns_92 (by decide) ?_
        exact v_zret rfl rfl dX12_burns_96
    · refine v_aload_n (pc' := 13) 0 dX12_burns_12 rfl rfl rfl ?_
      refine v_iload_n (pc' := 14) 3 dX12_burns_13 rfl rfl rfl ?_
      refine v_iconst (v := 2) (pc' := 15) dX12_burns_14 rfl rfl ?_
      refine v_callS (vs := [rf g a0, .int x3, .int 2]) (pc' := 18) (h_X12_plateOf g a0 x3 2) ms_X12_plateOf wl_X12_263 (Nat.le_of_ble_eq_true rfl) (by omega) (by decide) (Nat.le_of_ble_eq_true rfl) rfl dX12_burns_15 rfl fun v5 => ?_
      refine v_iload_n (pc' := 19) 1 dX12_burns_18 rfl rfl rfl ?_
      refine v_icmpne (t := 25) (pc' := 22) dX12_burns_19 (by decide) rfl ?_ ?_
      · refine v_iconst (v := 0) (pc' := 26) dX12_burns_25 rfl rfl ?_
        refine v_istore (lv' := [(4, .int 0), (0, rf g a0), (1, .int x1), (2, .int x2), (3, .int x3)]) (pc' := 28) dX12_burns_26 (by decide) rfl rfl ?_
        refine V.sub [1, 2, 3, 4, 0] rfl ?_
        exact h_X12_burns_b28 g (f_X12_burns_b4 n) ih NF a0 x1 x2 x3 0
      · refine v_goto (t := 61) dX12_burns_22 (by decide) ?_
        refine V.sub [0, 1, 2, 3] rfl ?_
        exact h_X12_burns_b61 g (f_X12_burns_b4 n) ih a0 x1 x2 x3
set_option maxRecDepth 20000 in
theorem h_X12_burns (g : GW) (a0 : Nat) (x1 : Int32) : V g mX12_burns 9 rtI 0 [(0, rf g a0), (1, .int x1)] [] (f_X12_burns a0 x1) := by
  unfold f_X12_burns
  refine v_iconst (v := 0) (pc' := 1) dX12_burns_0 rfl rfl ?_
  refine v_istore_n (lv' := [(2, .int 0), (0, rf g a0), (1, .int x1)]) (pc' := 2) dX12_burns_1 rfl (by decide) rfl rfl ?_
  refine v_iconst (v := 0) (pc' := 3) dX12_burns_2 rfl rfl ?_
  refine v_istore_n (lv' := [(3, .int 0), (2, .int 0), (0, rf g a0), (1, .int x1)]) (pc' := 4) dX12_burns_3 rfl (by decide) rfl rfl ?_
  refine V.sub [2, 3, 1, 0] rfl ?_
  exact h_X12_burns_b4 g NF a0 x1 0 0
-- yearEnds
def f_X12_yearEnds_b10 : Nat → Nat → Int32 → Mo Unit
  | 0, _, _ => fl
  | n + 1, a0, x1 => if (8 ≤ x1 : Prop) then (pu ()) else bd (as_ a0 ((0 : Int32) + x1) 0) fun _ => (f_X12_yearEnds_b10 n) a0 (x1 + 1)
def f_X12_yearEnds (a0 : Nat) : Mo Unit := bd (al 0 a0 27) fun v1 => bd (as_ a0 27 (v1 + (1 : Int32))) fun _ => f_X12_yearEnds_b10 NF a0 0
set_option maxRecDepth 20000 in
theorem h_X12_yearEnds_b10 (g : GW) : ∀ n : Nat, ∀ a0 x1, V g mX12_yearEnds 8 rtU 10 [(0, rf g a0), (1, .int x1)] [] (f_X12_yearEnds_b10 n a0 x1) := by
  intro n
  induction n with
  | zero => intro a0 x1; exact V.vain
  | succ n ih =>
    intro a0 x1
    unfold f_X12_yearEnds_b10
    refine v_iload_n (pc' := 11) 1 dX12_yearEnds_10 rfl rfl rfl ?_
    refine v_bipush (v := 8) (pc' := 13) dX12_yearEnds_11 rfl rfl ?_
    refine v_icmpge (t := 28) (pc' := 16) dX12_yearEnds_13 (by decide) rfl ?_ ?_
    · exact v_return rfl dX12_yearEnds_28
    · refine v_aload_n (pc' := 17) 0 dX12_yearEnds_16 rfl rfl rfl ?_
      refine v_iconst (v := 0) (pc' := 18) dX12_yearEnds_17 rfl rfl ?_
      refine v_iload_n (pc' := 19) 1 dX12_yearEnds_18 rfl rfl rfl ?_
      refine v_iadd (pc' := 20) dX12_yearEnds_19 rfl ?_
      refine v_iconst (v := 0) (pc' := 21) dX12_yearEnds_20 rfl rfl ?_
      refine v_iast (pc' := 22) dX12_yearEnds_21 rfl ?_
      refine v_iinc (v := x1 + 1) (lv' := [(1, .int (x1 + 1)), (0, rf g a0)]) (pc' := 25) 1 dX12_yearEnds_22 rfl rfl (by decide) rfl rfl ?_
      refine v_goto (t := 10) dX12_yearEnds_25 (by decide) ?_
      refine V.sub [1, 0] rfl ?_
      exact ih a0 (x1 + 1)
set_option maxRecDepth 20000 in
theorem h_X12_yearEnds (g : GW) (a0 : Nat) : V g mX12_yearEnds 8 rtU 0 [(0, rf g a0)] [] (f_X12_yearEnds a0) := by
  unfold f_X12_yearEnds
  refine v_aload_n (pc' := 1) 0 dX12_yearEnds_0 rfl rfl rfl ?_
  refine v_bipush (v := 27) (pc' := 3) dX12_yearEnds_1 rfl rfl ?_
  refine v_dup2 (pc' := 4) dX12_yearEnds_3 rfl rfl rfl ?_
  refine v_iald (pc' := 5) dX12_yearEnds_4 rfl fun v1 => ?_
  refine v_iconst (v := 1) (pc' := 6) dX12_yearEnds_5 rfl rfl ?_
  refine v_iadd (pc' := 7) dX12_yearEnds_6 rfl ?_
  refine v_iast (pc' := 8) dX12_yearEnds_7 rfl ?_
  refine v_iconst (v := 0) (pc' := 9) dX12_yearEnds_8 rfl rfl ?_
  refine v_istore_n (lv' := [(1, .int 0), (0, rf g a0)]) (pc' := 10) dX12_yearEnds_9 rfl (by decide) rfl rfl ?_
  refine V.sub [1, 0] rfl ?_
  exact h_X12_yearEnds_b10 g NF a0 0
-- does
def f_X12_does (a0 : Nat) (a1 : Nat) (a2 : Nat) : Mo Int32 := bd (al 0 a2 0) fun v1 => sw v1 0 [(bd (al 0 a2 1) fun v2 => bd (al 0 a2 2) fun v3 => bd (al 0 a2 3) fun v4 => bd (cv 12 a0 (f_X12_takesOne a0 a1 v2 v3 v4)) fun v5 => rz v5), (bd (al 0 a2 1) fun v6 => bd (al 0 a1 ((0 : Int32) + v6)) fun v7 => bd (al 0 a2 2) fun v8 => if (v7 = v8 : Prop) then (pu 0) else bd (al 0 a2 1) fun v9 => bd (al 0 a2 2) fun v10 => bd (as_ a1 ((0 : Int32) + v9) v10) fun _ => pu 1), (bd (al 0 a2 3) fun v11 => bd (f_X12_burns a1 v11) fun v12 => rz v12)] (bd (al 0 a1 27) fun v13 => if (v13 < 200 : Prop) then (bd (f_X12_yearEnds a1) fun _ => pu 1) else pu 0)
set_option maxRecDepth 20000 in
theorem h_X12_does (g : GW) (a0 : Nat) (a1 : Nat) (a2 : Nat) : V g mX12_does 13 rtI 0 [(0, rf g a0), (1, rf g a1), (2, rf g a2)] [] (f_X12_does a0 a1 a2) := by
  unfold f_X12_does
  refine v_aload_n (pc' := 1) 2 dX12_does_0 rfl rfl rfl ?_
  refine v_iconst (v := 0) (pc' := 2) dX12_does_1 rfl rfl ?_
  refine v_iald (pc' := 3) dX12_does_2 rfl fun v1 => ?_
  refine v_table (td := 78) dX12_does_3 rfl (by decide) ⟨⟨28, by decide, ?_⟩, ⟨43, by decide, ?_⟩, ⟨70, by decide, ?_⟩, trivial⟩ ?_
  · refine v_aload_n (pc' := 29) 0 dX12_does_28 rfl rfl rfl ?_
    refine v_aload_n (pc' := 30) 1 dX12_does_29 rfl rfl rfl ?_
    refine v_aload_n (pc' := 31) 2 dX12_does_30 rfl rfl rfl ?_
    refine v_iconst (v := 1) (pc' := 32) dX12_does_31 rfl rfl ?_
    refine v_iald (pc' := 33) dX12_does_32 rfl fun v2 => ?_
    refine v_aload_n (pc' := 34) 2 dX12_does_33 rfl rfl rfl ?_
    refine v_iconst (v := 2) (pc' := 35) dX12_does_34 rfl rfl ?_
    refine v_iald (pc' := 36) dX12_does_35 rfl fun v3 => ?_
    refine v_aload_n (pc' := 37) 2 dX12_does_36 rfl rfl rfl ?_
    refine v_iconst (v := 3) (pc' := 38) dX12_does_37 rfl rfl ?_
    refine v_iald (pc' := 39) dX12_does_38 rfl fun v4 => ?_
    refine v_callV (vs := [rf g a1, .int v2, .int v3, .int v4]) (pc' := 42) (h_X12_takesOne g a0 a1 v2 v3 v4) mv_X12_takesOne wl_X12_267 rfl (Nat.le_of_ble_eq_true rfl) (by omega) (by decide) (Nat.le_of_ble_eq_true rfl) rfl dX12_does_39 rfl fun v5 => ?_
    exact v_zretV rfl dX12_does_42
  · refine v_aload_n (pc' := 44) 1 dX12_does_43 rfl rfl rfl ?_
    refine v_iconst (v := 0) (pc' := 45) dX12_does_44 rfl rfl ?_
    refine v_aload_n (pc' := 46) 2 dX12_does_45 rfl rfl rfl ?_
    refine v_iconst (v := 1) (pc' := 47) dX12_does_46 rfl rfl ?_
    refine v_iald (pc' := 48) dX12_does_47 rfl fun v6 => ?_
    refine v_iadd (pc' := 49) dX12_does_48 rfl ?_
    refine v_iald (pc' := 50) dX12_does_49 rfl fun v7 => ?_
    refine v_aload_n (pc' := 51) 2 dX12_does_50 rfl rfl rfl ?_
    refine v_iconst (v := 2) (pc' := 52) dX12_does_51 rfl rfl ?_
    refine v_iald (pc' := 53) dX12_does_52 rfl fun v8 => ?_
    refine v_icmpne (t := 58) (pc' := 56) dX12_does_53 (by decide) rfl ?_ ?_
    · refine v_aload_n (pc' := 59) 1 dX12_does_58 rfl rfl rfl ?_
      refine v_iconst (v := 0) (pc' := 60) dX12_does_59 rfl rfl ?_
      refine v_aload_n (pc' := 61) 2 dX12_does_60 rfl rfl rfl ?_
      refine v_iconst (v := 1) (pc' := 62) dX12_does_61 rfl rfl ?_
      refine v_iald (pc' := 63) dX12_does_62 rfl fun v9 => ?_
      refine v_iadd (pc' := 64) dX12_does_63 rfl ?_
      refine v_aload_n (pc' := 65) 2 dX12_does_64 rfl rfl rfl ?_
      refine v_iconst (v := 2) (pc' := 66) dX12_does_65 rfl rfl ?_
      refine v_iald (pc' := 67) dX12_does_66 rfl fun v10 => ?_
      refine v_iast (pc' := 68) dX12_does_67 rfl ?_
      refine v_iconst (v := 1) (pc' := 69) dX12_does_68 rfl rfl ?_
      exact v_zret rfl rfl dX12_does_69
    · refine v_iconst (v := 0) (pc' := 57) dX12_does_56 rfl rfl ?_
      exact v_zret rfl rfl dX12_does_57
  · refine v_aload_n (pc' := 71) 1 dX12_does_70 rfl rfl rfl ?_
    refine v_aload_n (pc' := 72) 2 dX12_does_71 rfl rfl rfl ?_
    refine v_iconst (v := 3) (pc' := 73) dX12_does_72 rfl rfl ?_
    refine v_iald (pc' := 74) dX12_does_73 rfl fun v11 => ?_
    refine v_callS (vs := [rf g a1, .int v11]) (pc' := 77) (h_X12_burns g a1 v11) ms_X12_burns wl_X12_271 (Nat.le_of_ble_eq_true rfl) (by omega) (by decide) (Nat.le_of_ble_eq_true rfl) rfl dX12_does_74 rfl fun v12 => ?_
    exact v_zretV rfl dX12_does_77
  · refine v_aload_n (pc' := 79) 1 dX12_does_78 rfl rfl rfl ?_
    refine v_bipush (v := 27) (pc' := 81) dX12_does_79 rfl rfl ?_
    refine v_iald (pc' := 82) dX12_does_81 rfl fun v13 => ?_
    refine v_sipush (v := 200) (pc' := 85) dX12_does_82 rfl rfl ?_
    refine v_icmplt (t := 90) (pc' := 88) dX12_does_85 (by decide) rfl ?_ ?_
    · refine v_aload_n (pc' := 91) 1 dX12_does_90 rfl rfl rfl ?_
      refine v_callS (vs := [rf g a1]) (pc' := 94) (h_X12_yearEnds g a1) ms_X12_yearEnds wl_X12_275 (Nat.le_of_ble_eq_true rfl) (by omega) (by decide) (Nat.le_of_ble_eq_true rfl) rfl dX12_does_91 rfl fun _ => ?_
      refine v_iconst (v := 1) (pc' := 95) dX12_does_94 rfl rfl ?_
      exact v_zret rfl rfl dX12_does_95
    · refine v_iconst (v := 0) (pc' := 89) dX12_does_88 rfl rfl ?_
      exact v_zret rfl rfl dX12_does_89
-- goes
def f_X12_goes_b143 (rec : Nat → Int32 → Int32 → Mo Unit) (k2 : Nat → Int32 → Int32 → Mo Unit) (a0 : Nat) (x2 : Int32) (x3 : Int32) : Mo Unit := bd (gR 12 25 a0) fun r1 => bd (aR 3 r1 x3) fun r2 => bd (al 0 r2 4) fun v3 => k2 a0 x2 v3
def f_X12_goes_b139 (rec : Nat → Int32 → Int32 → Mo Unit) (k2 : Nat → Int32 → Int32 → Mo Unit) (a0 : Nat) (x2 : Int32) (x3 : Int32) (xs0 : Int32) (xs1 : Int32) (as2 : Nat) : Mo Unit := bd (pf 12 33 as2 (.int (xs1 + xs0))) fun _ => f_X12_goes_b143 rec k2 a0 x2 x3
def f_X12_goes_b120 (rec : Nat → Int32 → Int32 → Mo Unit) (k2 : Nat → Int32 → Int32 → Mo Unit) (a0 : Nat) (x2 : Int32) (x3 : Int32) (x4 : Int32) (xs0 : Int32) (xs1 : Int32) (as2 : Nat) : Mo Unit := bd (pf 12 37 as2 (.int (xs1 + xs0))) fun _ => bd (gI 12 33 a0) fun v4 => if (x4 = 0 : Prop) then (f_X12_goes_b139 rec k2 a0 x2 x3 1 v4 a0) else f_X12_goes_b139 rec k2 a0 x2 x3 0 v4 a0
def f_X12_goes_b86 (rec : Nat → Int32 → Int32 → Mo Unit) (k2 : Nat → Int32 → Int32 → Mo Unit) (a0 : Nat) (x2 : Int32) (x3 : Int32) : Mo Unit := f_X12_goes_b143 rec k2 a0 x2 x3
def f_X12_goes_b42 (rec : Nat → Int32 → Int32 → Mo Unit) (k2 : Nat → Int32 → Int32 → Mo Unit) : Nat → Nat → Int32 → Int32 → Int32 → Mo Unit
  | 0, _, _, _, _ => fl
  | n + 1, a0, x2, x3, x4 => bd (gR 12 25 a0) fun r5 => bd (aR 3 r5 x3) fun r6 => bd (al 0 r6 1) fun v7 => if (v7 ≤ x4 : Prop) then (f_X12_goes_b86 rec k2 a0 x2 x3) else bd (gI 12 36 a0) fun v8 => if (200 ≤ v8 : Prop) then (f_X12_goes_b86 rec k2 a0 x2 x3) else bd (gR 12 25 a0) fun r9 => bd (aR 3 r9 x3) fun r10 => bd (al 0 r10 4) fun v11 => bd (cv 12 a0 (rec a0 (x3 + (1 : Int32)) v11)) fun _ => (f_X12_goes_b42 rec k2 n) a0 x2 x3 (x4 + 1)
def f_X12_goes_b2 (rec : Nat → Int32 → Int32 → Mo Unit) : Nat → Nat → Int32 → Int32 → Mo Unit
  | 0, _, _, _ => fl
  | n + 1, a0, x2, x3 => if (x2 ≤ x3 : Prop) then (pu ()) else bd (gI 12 36 a0) fun v12 => if (200 ≤ v12 : Prop) then (pu ()) else bd (gI 12 36 a0) fun v13 => bd (pf 12 36 a0 (.int (v13 + (1 : Int32)))) fun _ => bd (gR 12 25 a0) fun r14 => bd (aR 3 r14 x3) fun r15 => bd (al 0 r15 0) fun v16 => if (v16 = 4 : Prop) then (f_X12_goes_b42 rec (f_X12_goes_b2 rec n) NF a0 x2 x3 0) else bd (gR 12 27 a0) fun r17 => bd (gR 12 25 a0) fun r18 => bd (aR 3 r18 x3) fun r19 => bd (cv 12 a0 (f_X12_does a0 r17 r19)) fun v20 => bd (gI 12 37 a0) fun v21 => if (v20 = 0 : Prop) then (f_X12_goes_b120 rec (f_X12_goes_b2 rec n) a0 x2 x3 v20 0 v21 a0) else f_X12_goes_b120 rec (f_X12_goes_b2 rec n) a0 x2 x3 v20 1 v21 a0
def f_X12_goes (rec : Nat → Int32 → Int32 → Mo Unit) (a0 : Nat) (x1 : Int32) (x2 : Int32) : Mo Unit := f_X12_goes_b2 rec NF a0 x2 x1
def F_X12_goes : Nat → Nat → Int32 → Int32 → Mo Unit
  | 0, _, _, _ => fl
  | D + 1, a0, x1, x2 => f_X12_goes (F_X12_goes D) a0 x1 x2
set_option maxRecDepth 20000 in
theorem h_X12_goes_b143 (g : GW) (rec : Nat → Int32 → Int32 → Mo Unit) (e : Nat) (he : 13 ≤ e) (hrec : ∀ a0 x1 x2, V g mX12_goes e rtU 0 [(0, rf g a0), (1, .int x1), (2, .int x2)] [] (rec a0 x1 x2)) (k2 : Nat → Int32 → Int32 → Mo Unit) (hk2 : ∀ a0 x2 x3, V g mX12_goes (e + 1) rtU 2 [(0, rf g a0), (2, .int x2), (3, .int x3)] [] (k2 a0 x2 x3)) (a0 : Nat) (x2 : Int32) (x3 : Int32) : V g mX12_goes (e + 1) rtU 143 [(0, rf g a0), (2, .int x2), (3, .int x3)] [] (f_X12_goes_b143 rec k2 a0 x2 x3) := by
  unfold f_X12_goes_b143
  refine v_aload_n (pc' := 144) 0 dX12_goes_143 rfl rfl rfl ?_
  refine v_getR (pc' := 147) fl_X12_58 dX12_goes_144 rfl fun r1 => ?_
  refine v_iload_n (pc' := 148) 2 dX12_goes_147 rfl rfl rfl ?_
  refine v_aaldR (pc' := 149) dX12_goes_148 rfl fun r2 => ?_
  refine v_iconst (v := 4) (pc' := 150) dX12_goes_149 rfl rfl ?_
  refine v_iald (pc' := 151) dX12_goes_150 rfl fun v3 => ?_
  refine v_istore_n (lv' := [(3, .int v3), (0, rf g a0), (2, .int x2)]) (pc' := 152) dX12_goes_151 rfl (by decide) rfl rfl ?_
  refine v_goto (t := 2) dX12_goes_152 (by decide) ?_
  refine V.sub [1, 2, 0] rfl ?_
  exact hk2 a0 x2 v3
set_option maxRecDepth 20000 in
theorem h_X12_goes_b139 (g : GW) (rec : Nat → Int32 → Int32 → Mo Unit) (e : Nat) (he : 13 ≤ e) (hrec : ∀ a0 x1 x2, V g mX12_goes e rtU 0 [(0, rf g a0), (1, .int x1), (2, .int x2)] [] (rec a0 x1 x2)) (k2 : Nat → Int32 → Int32 → Mo Unit) (hk2 : ∀ a0 x2 x3, V g mX12_goes (e + 1) rtU 2 [(0, rf g a0), (2, .int x2), (3, .int x3)] [] (k2 a0 x2 x3)) (a0 : Nat) (x2 : Int32) (x3 : Int32) (xs0 : Int32) (xs1 : Int32) (as2 : Nat) : V g mX12_goes (e + 1) rtU 139 [(0, rf g a0), (2, .int x2), (3, .int x3)] [.int xs0, .int xs1, rf g as2] (f_X12_goes_b139 rec k2 a0 x2 x3 xs0 xs1 as2) := by
  unfold f_X12_goes_b139
  refine v_iadd (pc' := 140) dX12_goes_139 rfl ?_
  refine v_put (v := (.int (xs1 + xs0))) (v' := .int (xs1 + xs0)) (pc' := 143) fw_X12_193 rfl rfl rfl (fun h => nomatch h) dX12_goes_140 rfl ?_
  refine V.sub [0, 1, 2] rfl ?_
  exact h_X12_goes_b143 g rec e he hrec k2 hk2 a0 x2 x3
set_option maxRecDepth 20000 in
theorem h_X12_goes_b120 (g : GW) (rec : Nat → Int32 → Int32 → Mo Unit) (e : Nat) (he : 13 ≤ e) (hrec : ∀ a0 x1 x2, V g mX12_goes e rtU 0 [(0, rf g a0), (1, .int x1), (2, .int x2)] [] (rec a0 x1 x2)) (k2 : Nat → Int32 → Int32 → Mo Unit) (hk2 : ∀ a0 x2 x3, V g mX12_goes (e + 1) rtU 2 [(0, rf g a0), (2, .int x2), (3, .int x3)] [] (k2 a0 x2 x3)) (a0 : Nat) (x2 : Int32) (x3 : Int32) (x4 : Int32) (xs0 : Int32) (xs1 : Int32) (as2 : Nat) : V g mX12_goes (e + 1) rtU 120 [(0, rf g a0), (2, .int x2), (3, .int x3), (4, .int x4)] [.int xs0, .int xs1, rf g as2] (f_X12_goes_b120 rec k2 a0 x2 x3 x4 xs0 xs1 as2) := by
  unfold f_X12_goes_b120
  refine v_iadd (pc' := 121) dX12_goes_120 rfl ?_
  refine v_put (v := (.int (xs1 + xs0))) (v' := .int (xs1 + xs0)) (pc' := 124) fw_X12_289 rfl rfl rfl (fun h => nomatch h) dX12_goes_121 rfl ?_
  refine v_aload_n (pc' := 125) 0 dX12_goes_124 rfl rfl rfl ?_
  refine v_dup (pc' := 126) dX12_goes_125 rfl rfl ?_
  refine v_getI (pc' := 129) fl_X12_193 dX12_goes_126 rfl fun v4 => ?_
  refine v_iload (pc' := 131) 3 dX12_goes_129 rfl rfl ?_
  refine v_ifeq (t := 138) (pc' := 134) dX12_goes_131 (by decide) rfl ?_ ?_
  · refine v_iconst (v := 1) (pc' := 139) dX12_goes_138 rfl rfl ?_
    refine V.sub [0, 1, 2] rfl ?_
    exact h_X12_goes_b139 g rec e he hrec k2 hk2 a0 x2 x3 1 v4 a0
  · refine v_iconst (v := 0) (pc' := 135) dX12_goes_134 rfl rfl ?_
    refine v_goto (t := 139) dX12_goes_135 (by decide) ?_
    refine V.sub [0, 1, 2] rfl ?_
    exact h_X12_goes_b139 g rec e he hrec k2 hk2 a0 x2 x3 0 v4 a0
set_option maxRecDepth 20000 in
theorem h_X12_goes_b86 (g : GW) (rec : Nat → Int32 → Int32 → Mo Unit) (e : Nat) (he : 13 ≤ e) (hrec : ∀ a0 x1 x2, V g mX12_goes e rtU 0 [(0, rf g a0), (1, .int x1), (2, .int x2)] [] (rec a0 x1 x2)) (k2 : Nat → Int32 → Int32 → Mo Unit) (hk2 : ∀ a0 x2 x3, V g mX12_goes (e + 1) rtU 2 [(0, rf g a0), (2, .int x2), (3, .int x3)] [] (k2 a0 x2 x3)) (a0 : Nat) (x2 : Int32) (x3 : Int32) : V g mX12_goes (e + 1) rtU 86 [(0, rf g a0), (2, .int x2), (3, .int x3)] [] (f_X12_goes_b86 rec k2 a0 x2 x3) := by
  unfold f_X12_goes_b86
  refine v_goto (t := 143) dX12_goes_86 (by decide) ?_
  refine V.sub [0, 1, 2] rfl ?_
  exact h_X12_goes_b143 g rec e he hrec k2 hk2 a0 x2 x3
set_option maxRecDepth 20000 in
theorem h_X12_goes_b42 (g : GW) (rec : Nat → Int32 → Int32 → Mo Unit) (e : Nat) (he : 13 ≤ e) (hrec : ∀ a0 x1 x2, V g mX12_goes e rtU 0 [(0, rf g a0), (1, .int x1), (2, .int x2)] [] (rec a0 x1 x2)) (k2 : Nat → Int32 → Int32 → Mo Unit) (hk2 : ∀ a0 x2 x3, V g mX12_goes (e + 1) rtU 2 [(0, rf g a0), (2, .int x2), (3, .int x3)] [] (k2 a0 x2 x3)) : ∀ n : Nat, ∀ a0 x2 x3 x4, V g mX12_goes (e + 1) rtU 42 [(0, rf g a0), (2, .int x2), (3, .int x3), (4, .int x4)] [] (f_X12_goes_b42 rec k2 n a0 x2 x3 x4) := by
  intro n
  induction n with
  | zero => intro a0 x2 x3 x4; exact V.vain
  | succ n ih =>
    intro a0 x2 x3 x4
    unfold f_X12_goes_b42
    refine v_iload (pc' := 44) 3 dX12_goes_42 rfl rfl ?_
    refine v_aload_n (pc' := 45) 0 dX12_goes_44 rfl rfl rfl ?_
    refine v_getR (pc' := 48) fl_X12_58 dX12_goes_45 rfl fun r5 => ?_
    refine v_iload_n (pc' := 49) 2 dX12_goes_48 rfl rfl rfl ?_
    refine v_aaldR (pc' := 50) dX12_goes_49 rfl fun r6 => ?_
    refine v_iconst (v := 1) (pc' := 51) dX12_goes_50 rfl rfl ?_
    refine v_iald (pc' := 52) dX12_goes_51 rfl fun v7 => ?_
    refine v_icmpge (t := 86) (pc' := 55) dX12_goes_52 (by decide) rfl ?_ ?_
    · refine V.sub [0, 1, 2] rfl ?_
      exact h_X12_goes_b86 g rec e he hrec k2 hk2 a0 x2 x3
    · refine v_aload_n (pc' := 56) 0 dX12_goes_55 rfl rfl rfl ?_
      refine v_getI (pc' := 59) fl_X12_279 dX12_goes_56 rfl fun v8 => ?_
      refine v_sipush (v := 200) (pc' := 62) dX12_goes_59 rfl rfl ?_
      refine v_icmpge (t := 86) (pc' := 65) dX12_goes_62 (by decide) rfl ?_ ?_
      · refine V.sub [0, 1, 2] rfl ?_
        exact h_X12_goes_b86 g rec e he hrec k2 hk2 a0 x2 x3
      · refine v_aload_n (pc' := 66) 0 dX12_goes_65 rfl rfl rfl ?_
        refine v_iload_n (pc' := 67) 2 dX12_goes_66 rfl rfl rfl ?_
        refine v_iconst (v := 1) (pc' := 68) dX12_goes_67 rfl rfl ?_
        refine v_iadd (pc' := 69) dX12_goes_68 rfl ?_
        refine v_aload_n (pc' := 70) 0 dX12_goes_69 rfl rfl rfl ?_
        refine v_getR (pc' := 73) fl_X12_58 dX12_goes_70 rfl fun r9 => ?_
        refine v_iload_n (pc' := 74) 2 dX12_goes_73 rfl rfl rfl ?_
        refine v_aaldR (pc' := 75) dX12_goes_74 rfl fun r10 => ?_
        refine v_iconst (v := 4) (pc' := 76) dX12_goes_75 rfl rfl ?_
        refine v_iald (pc' := 77) dX12_goes_76 rfl fun v11 => ?_
        refine v_callV (vs := [.int (x3 + (1 : Int32)), .int v11]) (pc' := 80) (hrec a0 (x3 + (1 : Int32)) v11) mv_X12_goes wl_X12_282 rfl (Nat.le_of_ble_eq_true rfl) (by omega) (by decide) (Nat.le_of_ble_eq_true rfl) rfl dX12_goes_77 rfl fun _ => ?_
        refine v_iinc (v := x4 + 1) (lv' := [(4, .int (x4 + 1)), (0, rf g a0), (2, .int x2), (3, .int x3)]) (pc' := 83) 3 dX12_goes_80 rfl rfl (by decide) rfl rfl ?_
        refine v_goto (t := 42) dX12_goes_83 (by decide) ?_
        refine V.sub [1, 2, 3, 0] rfl ?_
        exact ih a0 x2 x3 (x4 + 1)
set_option maxRecDepth 20000 in
theorem h_X12_goes_b2 (g : GW) (rec : Nat → Int32 → Int32 → Mo Unit) (e : Nat) (he : 13 ≤ e) (hrec : ∀ a0 x1 x2, V g mX12_goes e rtU 0 [(0, rf g a0), (1, .int x1), (2, .int x2)] [] (rec a0 x1 x2)) : ∀ n : Nat, ∀ a0 x2 x3, V g mX12_goes (e + 1) rtU 2 [(0, rf g a0), (2, .int x2), (3, .int x3)] [] (f_X12_goes_b2 rec n a0 x2 x3) := by
  intro n
  induction n with
  | zero => intro a0 x2 x3; exact V.vain
  | succ n ih =>
    intro a0 x2 x3
    unfold f_X12_goes_b2
    refine v_iload_n (pc' := 3) 2 dX12_goes_2 rfl rfl rfl ?_
    refine v_iload_n (pc' := 4) 1 dX12_goes_3 rfl rfl rfl ?_
    refine v_icmpge (t := 155) (pc' := 7) dX12_goes_4 (by decide) rfl ?_ ?_
    · exact v_return rfl dX12_goes_155
    · refine v_aload_n (pc' := 8) 0 dX12_goes_7 rfl rfl rfl ?_
      refine v_getI (pc' := 11) fl_X12_279 dX12_goes_8 rfl fun v12 => ?_
      refine v_sipush (v := 200) (pc' := 14) dX12_goes_11 rfl rfl ?_
      refine v_icmpge (t := 155) (pc' := 17) dX12_goes_14 (by decide) rfl ?_ ?_
      · exact v_return rfl dX12_goes_155
      · refine v_aload_n (pc' := 18) 0 dX12_goes_17 rfl rfl rfl ?_
        refine v_dup (pc' := 19) dX12_goes_18 rfl rfl ?_
        refine v_getI (pc' := 22) fl_X12_279 dX12_goes_19 rfl fun v13 => ?_
        refine v_iconst (v := 1) (pc' := 23) dX12_goes_22 rfl rfl ?_
        refine v_iadd (pc' := 24) dX12_goes_23 rfl ?_
        refine v_put (v := (.int (v13 + (1 : Int32)))) (v' := .int (v13 + (1 : Int32))) (pc' := 27) fw_X12_279 rfl rfl rfl (fun h => nomatch h) dX12_goes_24 rfl ?_
        refine v_aload_n (pc' := 28) 0 dX12_goes_27 rfl rfl rfl ?_
        refine v_getR (pc' := 31) fl_X12_58 dX12_goes_28 rfl fun r14 => ?_
        refine v_iload_n (pc' := 32) 2 dX12_goes_31 rfl rfl rfl ?_
        refine v_aaldR (pc' := 33) dX12_goes_32 rfl fun r15 => ?_
        refine v_iconst (v := 0) (pc' := 34) dX12_goes_33 rfl rfl ?_
        refine v_iald (pc' := 35) dX12_goes_34 rfl fun v16 => ?_
        refine v_iconst (v := 4) (pc' := 36) dX12_goes_35 rfl rfl ?_
        refine v_icmpne (t := 89) (pc' := 39) dX12_goes_36 (by decide) rfl ?_ ?_
        · refine v_aload_n (pc' := 90) 0 dX12_goes_89 rfl rfl rfl ?_
          refine v_aload_n (pc' := 91) 0 dX12_goes_90 rfl rfl rfl ?_
          refine v_getR (pc' := 94) fl_X12_61 dX12_goes_91 rfl fun r17 => ?_
          refine v_aload_n (pc' := 95) 0 dX12_goes_94 rfl rfl rfl ?_
          refine v_getR (pc' := 98) fl_X12_58 dX12_goes_95 rfl fun r18 => ?_
          refine v_iload_n (pc' := 99) 2 dX12_goes_98 rfl rfl rfl ?_
          refine v_aaldR (pc' := 100) dX12_goes_99 rfl fun r19 => ?_
          refine v_callV (vs := [rf g r17, rf g r19]) (pc' := 103) (h_X12_does g a0 r17 r19) mv_X12_does wl_X12_285 rfl (Nat.le_of_ble_eq_true rfl) (by omega) (by decide) (Nat.le_of_ble_eq_true rfl) rfl dX12_goes_100 rfl fun v20 => ?_
          refine v_istore (lv' := [(4, .int v20), (0, rf g a0), (2, .int x2), (3, .int x3)]) (pc' := 105) dX12_goes_103 (by decide) rfl rfl ?_
          refine v_aload_n (pc' := 106) 1 dX12_goes_105 rfl rfl rfl ?_
          refine v_dup (pc' := 107) dX12_goes_106 rfl rfl ?_
          refine v_getI (pc' := 110) fl_X12_289 dX12_goes_107 rfl fun v21 => ?_
          refine v_iload (pc' := 112) 0 dX12_goes_110 rfl rfl ?_
          refine v_ifeq (t := 119) (pc' := 115) dX12_goes_112 (by decide) rfl ?_ ?_
          · refine v_iconst (v := 0) (pc' := 120) dX12_goes_119 rfl rfl ?_
            refine V.sub [1, 2, 3, 0] rfl ?_
            exact h_X12_goes_b120 g rec e he hrec (f_X12_goes_b2 rec n) ih a0 x2 x3 v20 0 v21 a0
          · refine v_iconst (v := 1) (pc' := 116) dX12_goes_115 rfl rfl ?_
            refine v_goto (t := 120) dX12_goes_116 (by decide) ?_
            refine V.sub [1, 2, 3, 0] rfl ?_
            exact h_X12_goes_b120 g rec e he hrec (f_X12_goes_b2 rec n) ih a0 x2 x3 v20 1 v21 a0
        · refine v_iconst (v := 0) (pc' := 40) dX12_goes_39 rfl rfl ?_
          refine v_istore (lv' := [(4, .int 0), (0, rf g a0), (2, .int x2), (3, .int x3)]) (pc' := 42) dX12_goes_40 (by decide) rfl rfl ?_
          refine V.sub [1, 2, 3, 0] rfl ?_
          exact h_X12_goes_b42 g rec e he hrec (f_X12_goes_b2 rec n) ih NF a0 x2 x3 0
set_option maxRecDepth 20000 in
theorem h_X12_goes (g : GW) (rec : Nat → Int32 → Int32 → Mo Unit) (e : Nat) (he : 13 ≤ e) (hrec : ∀ a0 x1 x2, V g mX12_goes e rtU 0 [(0, rf g a0), (1, .int x1), (2, .int x2)] [] (rec a0 x1 x2)) (a0 : Nat) (x1 : Int32) (x2 : Int32) : V g mX12_goes (e + 1) rtU 0 [(0, rf g a0), (1, .int x1), (2, .int x2)] [] (f_X12_goes rec a0 x1 x2) := by
  unfold f_X12_goes
  refine v_iload_n (pc' := 1) 1 dX12_goes_0 rfl rfl rfl ?_
  refine v_istore_n (lv' := [(3, .int x1), (0, rf g a0), (1, .int x1), (2, .int x2)]) (pc' := 2) dX12_goes_1 rfl (by decide) rfl rfl ?_
  refine V.sub [1, 3, 0] rfl ?_
  exact h_X12_goes_b2 g rec e he hrec NF a0 x2 x1
theorem H_X12_goes (g : GW) : ∀ (D : Nat) a0 x1 x2, V g mX12_goes (13 + D * 1) rtU 0 [(0, rf g a0), (1, .int x1), (2, .int x2)] [] (F_X12_goes D a0 x1 x2)
  | 0, _, _, _ => V.vain
  | D + 1, a0, x1, x2 => by
    have h := h_X12_goes g (F_X12_goes D) (13 + D * 1) (Nat.le_add_right _ _) (fun a0 x1 x2 => H_X12_goes g D a0 x1 x2) a0 x1 x2
    rw [show 13 + (D + 1) * 1 = 13 + D * 1 + 1 by omega]
    exact h
-- work
def f_X12_work_b101 (a0 : Nat) : Mo Int32 := bd (gI 12 5 a0) fun v1 => if (v1 = 0 : Prop) then (bd (pf 12 3 a0 (.int (-1))) fun _ => bd (gR 12 27 a0) fun r2 => bd (gR 12 29 a0) fun r3 => bd (gI 12 32 a0) fun v4 => bd (aR 3 r3 v4) fun r5 => bd (f_X12_copies r2 r5) fun _ => bd (gI 12 32 a0) fun v6 => bd (pf 12 32 a0 (.int (v6 + (1 : Int32)))) fun _ => bd (pf 12 36 a0 (.int 0)) fun _ => bd (pf 12 37 a0 (.int 0)) fun _ => bd (pf 12 33 a0 (.int 0)) fun _ => bd (gI 12 26 a0) fun v7 => bd (cv 12 a0 (F_X12_goes 12 a0 0 v7)) fun _ => bd (gI 12 37 a0) fun v8 => pu v8) else bd (cv 12 a0 (f_X12_ends a0)) fun v9 => pu v9
def f_X12_work_b72 : Nat → Nat → Mo Int32
  | 0, _ => fl
  | n + 1, a0 => bd (gI 12 5 a0) fun v10 => if (v10 = 0 : Prop) then (bd (gI 12 4 a0) fun v11 => bd (gI 12 2 a0) fun v12 => if (v12 ≤ v11 : Prop) then (f_X12_work_b101 a0) else bd (cv 12 a0 (F_X12_readsStep 12 a0)) fun _ => bd (cv 12 a0 (f_X12_blanks a0)) fun _ => (f_X12_work_b72 n) a0) else f_X12_work_b101 a0
def f_X12_work_b30 (a0 : Nat) (x1 : Int32) (xs0 : Int32) (as1 : Nat) : Mo Int32 := bd (cv 12 as1 (f_X12_bad as1 xs0 1 1)) fun v13 => if (v13 = 0 : Prop) then (bd (gI 12 32 a0) fun v14 => if (v14 = 16 : Prop) then (bd (pf 12 1 a0 (.int 0)) fun _ => bd (pf 12 3 a0 (.int (-1))) fun _ => pu (-20)) else bd (cv 12 a0 (f_X12_starts a0 x1)) fun _ => bd (pf 12 26 a0 (.int 0)) fun _ => f_X12_work_b72 NF a0) else pu 0
def f_X12_work_b25 (a0 : Nat) (x1 : Int32) (as0 : Nat) : Mo Int32 := f_X12_work_b30 a0 x1 1 as0
def f_X12_work (a0 : Nat) (x1 : Int32) : Mo Int32 := bd (pf 12 0 a0 (.int 0)) fun _ => bd (gI 12 1 a0) fun v15 => bd (f_X12_in x1 0 v15) fun v16 => if (v16 = 0 : Prop) then (f_X12_work_b25 a0 x1 a0) else if (x1 ≤ 150 : Prop) then (f_X12_work_b30 a0 x1 0 a0) else f_X12_work_b25 a0 x1 a0
set_option maxRecDepth 20000 in
theorem h_X12_work_b101 (g : GW) (a0 : Nat) : V g mX12_work 26 rtI 101 [(0, rf g a0)] [] (f_X12_work_b101 a0) := by
  unfold f_X12_work_b101
  refine v_aload_n (pc' := 102) 0 dX12_work_101 rfl rfl rfl ?_
  refine v_getI (pc' := 105) fl_X12_110 dX12_work_102 rfl fun v1 => ?_
  refine v_ifeq (t := 113) (pc' := 108) dX12_work_105 (by decide) rfl ?_ ?_
  · refine v_aload_n (pc' := 114) 0 dX12_work_113 rfl rfl rfl ?_
    refine v_iconst (v := -1) (pc' := 115) dX12_work_114 rfl rfl ?_
    refine v_put (v := (.int (-1))) (v' := .int (-1)) (pc' := 118) fw_X12_9 rfl rfl rfl (fun h => nomatch h) dX12_work_115 rfl ?_
    refine v_aload_n (pc' := 119) 0 dX12_work_118 rfl rfl rfl ?_
    refine v_getR (pc' := 122) fl_X12_61 dX12_work_119 rfl fun r2 => ?_
    refine v_aload_n (pc' := 123) 0 dX12_work_122 rfl rfl rfl ?_
    refine v_getR (pc' := 126) fl_X12_67 dX12_work_123 rfl fun r3 => ?_
    refine v_aload_n (pc' := 127) 0 dX12_work_126 rfl rfl rfl ?_
    refine v_getI (pc' := 130) fl_X12_190 dX12_work_127 rfl fun v4 => ?_
    refine v_aaldR (pc' := 131) dX12_work_130 rfl fun r5 => ?_
    refine v_callS (vs := [rf g r2, rf g r5]) (pc' := 134) (h_X12_copies g r2 r5) ms_X12_copies wl_X12_292 (Nat.le_of_ble_eq_true rfl) (by omega) (by decide) (Nat.le_of_ble_eq_true rfl) rfl dX12_work_131 rfl fun _ => ?_
    refine v_aload_n (pc' := 135) 0 dX12_work_134 rfl rfl rfl ?_
    refine v_dup (pc' := 136) dX12_work_135 rfl rfl ?_
    refine v_getI (pc' := 139) fl_X12_190 dX12_work_136 rfl fun v6 => ?_
    refine v_iconst (v := 1) (pc' := 140) dX12_work_139 rfl rfl ?_
    refine v_iadd (pc' := 141) dX12_work_140 rfl ?_
    refine v_put (v := (.int (v6 + (1 : Int32)))) (v' := .int (v6 + (1 : Int32))) (pc' := 144) fw_X12_190 rfl rfl rfl (fun h => nomatch h) dX12_work_141 rfl ?_
    refine v_aload_n (pc' := 145) 0 dX12_work_144 rfl rfl rfl ?_
    refine v_iconst (v := 0) (pc' := 146) dX12_work_145 rfl rfl ?_
    refine v_put (v := (.int 0)) (v' := .int 0) (pc' := 149) fw_X12_279 rfl rfl rfl (fun h => nomatch h) dX12_work_146 rfl ?_
    refine v_aload_n (pc' := 150) 0 dX12_work_149 rfl rfl rfl ?_
    refine v_iconst (v := 0) (pc' := 151) dX12_work_150 rfl rfl ?_
    refine v_put (v := (.int 0)) (v' := .int 0) (pc' := 154) fw_X12_289 rfl rfl rfl (fun h => nomatch h) dX12_work_151 rfl ?_
    refine v_aload_n (pc' := 155) 0 dX12_work_154 rfl rfl rfl ?_
    refine v_iconst (v := 0) (pc' := 156) dX12_work_155 rfl rfl ?_
    refine v_put (v := (.int 0)) (v' := .int 0) (pc' := 159) fw_X12_193 rfl rfl rfl (fun h => nomatch h) dX12_work_156 rfl ?_
    refine v_aload_n (pc' := 160) 0 dX12_work_159 rfl rfl rfl ?_
    refine v_iconst (v := 0) (pc' := 161) dX12_work_160 rfl rfl ?_
    refine v_aload_n (pc' := 162) 0 dX12_work_161 rfl rfl rfl ?_
    refine v_getI (pc' := 165) fl_X12_240 dX12_work_162 rfl fun v7 => ?_
    refine v_callV (vs := [.int 0, .int v7]) (pc' := 168) (H_X12_goes g 12 a0 0 v7) mv_X12_goes wl_X12_282 rfl (Nat.le_of_ble_eq_true rfl) (by omega) (by decide) (Nat.le_of_ble_eq_true rfl) rfl dX12_work_165 rfl fun _ => ?_
    refine v_aload_n (pc' := 169) 0 dX12_work_168 rfl rfl rfl ?_
    refine v_getI (pc' := 172) fl_X12_289 dX12_work_169 rfl fun v8 => ?_
    exact v_ireturn rfl dX12_work_172
  · refine v_aload_n (pc' := 109) 0 dX12_work_108 rfl rfl rfl ?_
    refine v_callV (vs := []) (pc' := 112) (h_X12_ends g a0) mv_X12_ends wl_X12_177 rfl (Nat.le_of_ble_eq_true rfl) (by omega) (by decide) (Nat.le_of_ble_eq_true rfl) rfl dX12_work_109 rfl fun v9 => ?_
    exact v_ireturn rfl dX12_work_112
set_option maxRecDepth 20000 in
theorem h_X12_work_b72 (g : GW) : ∀ n : Nat, ∀ a0, V g mX12_work 26 rtI 72 [(0, rf g a0)] [] (f_X12_work_b72 n a0) := by
  intro n
  induction n with
  | zero => intro a0; exact V.vain
  | succ n ih =>
    intro a0
    unfold f_X12_work_b72
    refine v_aload_n (pc' := 73) 0 dX12_work_72 rfl rfl rfl ?_
    refine v_getI (pc' := 76) fl_X12_110 dX12_work_73 rfl fun v10 => ?_
    refine v_ifne (t := 101) (pc' := 79) dX12_work_76 (by decide) rfl ?_ ?_
    · refine V.sub [0] rfl ?_
      exact h_X12_work_b101 g a0
    · refine v_aload_n (pc' := 80) 0 dX12_work_79 rfl rfl rfl ?_
      refine v_getI (pc' := 83) fl_X12_103 dX12_work_80 rfl fun v11 => ?_
      refine v_aload_n (pc' := 84) 0 dX12_work_83 rfl rfl rfl ?_
      refine v_getI (pc' := 87) fl_X12_100 dX12_work_84 rfl fun v12 => ?_
      refine v_icmpge (t := 101) (pc' := 90) dX12_work_87 (by decide) rfl ?_ ?_
      · refine V.sub [0] rfl ?_
        exact h_X12_work_b101 g a0
      · refine v_aload_n (pc' := 91) 0 dX12_work_90 rfl rfl rfl ?_
        refine v_callV (vs := []) (pc' := 94) (H_X12_readsStep g 12 a0) mv_X12_readsStep wl_X12_243 rfl (Nat.le_of_ble_eq_true rfl) (by omega) (by decide) (Nat.le_of_ble_eq_true rfl) rfl dX12_work_91 rfl fun _ => ?_
        refine v_aload_n (pc' := 95) 0 dX12_work_94 rfl rfl rfl ?_
        refine v_callV (vs := []) (pc' := 98) (h_X12_blanks g a0) mv_X12_blanks wl_X12_116 rfl (Nat.le_of_ble_eq_true rfl) (by omega) (by decide) (Nat.le_of_ble_eq_true rfl) rfl dX12_work_95 rfl fun _ => ?_
        refine v_goto (t := 72) dX12_work_98 (by decide) ?_
        refine V.sub [0] rfl ?_
        exact ih a0
set_option maxRecDepth 20000 in
theorem h_X12_work_b30 (g : GW) (a0 : Nat) (x1 : Int32) (xs0 : Int32) (as1 : Nat) : V g mX12_work 26 rtI 30 [(0, rf g a0), (1, .int x1)] [.int xs0, rf g as1] (f_X12_work_b30 a0 x1 xs0 as1) := by
  unfold f_X12_work_b30
  refine v_iconst (v := 1) (pc' := 31) dX12_work_30 rfl rfl ?_
  refine v_iconst (v := 1) (pc' := 32) dX12_work_31 rfl rfl ?_
  refine v_callV (vs := [.int xs0, .int 1, .int 1]) (pc' := 35) (h_X12_bad g as1 xs0 1 1) mv_X12_bad wl_X12_167 rfl (Nat.le_of_ble_eq_true rfl) (by omega) (by decide) (Nat.le_of_ble_eq_true rfl) rfl dX12_work_32 rfl fun v13 => ?_
  refine v_ifeq (t := 40) (pc' := 38) dX12_work_35 (by decide) rfl ?_ ?_
  · refine v_aload_n (pc' := 41) 0 dX12_work_40 rfl rfl rfl ?_
    refine v_getI (pc' := 44) fl_X12_190 dX12_work_41 rfl fun v14 => ?_
    refine v_bipush (v := 16) (pc' := 46) dX12_work_44 rfl rfl ?_
    refine v_icmpne (t := 62) (pc' := 49) dX12_work_46 (by decide) rfl ?_ ?_
    · refine v_aload_n (pc' := 63) 0 dX12_work_62 rfl rfl rfl ?_
      refine v_iload_n (pc' := 64) 1 dX12_work_63 rfl rfl rfl ?_
      refine v_callV (vs := [.int x1]) (pc' := 67) (h_X12_starts g a0 x1) mv_X12_starts wl_X12_171 rfl (Nat.le_of_ble_eq_true rfl) (by omega) (by decide) (Nat.le_of_ble_eq_true rfl) rfl dX12_work_64 rfl fun _ => ?_
      refine v_aload_n (pc' := 68) 0 dX12_work_67 rfl rfl rfl ?_
      refine v_iconst (v := 0) (pc' := 69) dX12_work_68 rfl rfl ?_
      refine v_put (v := (.int 0)) (v' := .int 0) (pc' := 72) fw_X12_240 rfl rfl rfl (fun h => nomatch h) dX12_work_69 rfl ?_
      refine V.sub [0] rfl ?_
      exact h_X12_work_b72 g NF a0
    · refine v_aload_n (pc' := 50) 0 dX12_work_49 rfl rfl rfl ?_
      refine v_iconst (v := 0) (pc' := 51) dX12_work_50 rfl rfl ?_
      refine v_put (v := (.int 0)) (v' := .int 0) (pc' := 54) fw_X12_97 rfl rfl rfl (fun h => nomatch h) dX12_work_51 rfl ?_
      refine v_aload_n (pc' := 55) 0 dX12_work_54 rfl rfl rfl ?_
      refine v_iconst (v := -1) (pc' := 56) dX12_work_55 rfl rfl ?_
      refine v_put (v := (.int (-1))) (v' := .int (-1)) (pc' := 59) fw_X12_9 rfl rfl rfl (fun h => nomatch h) dX12_work_56 rfl ?_
      refine v_bipush (v := -20) (pc' := 61) dX12_work_59 rfl rfl ?_
      exact v_ireturn rfl dX12_work_61
  · refine v_iconst (v := 0) (pc' := 39) dX12_work_38 rfl rfl ?_
    exact v_ireturn rfl dX12_work_39
set_option maxRecDepth 20000 in
theorem h_X12_work_b25 (g : GW) (a0 : Nat) (x1 : Int32) (as0 : Nat) : V g mX12_work 26 rtI 25 [(0, rf g a0), (1, .int x1)] [rf g as0] (f_X12_work_b25 a0 x1 as0) := by
  unfold f_X12_work_b25
  refine v_iconst (v := 1) (pc' := 26) dX12_work_25 rfl rfl ?_
  refine v_goto (t := 30) dX12_work_26 (by decide) ?_
  refine V.sub [0, 1] rfl ?_
  exact h_X12_work_b30 g a0 x1 1 as0
set_option maxRecDepth 20000 in
theorem h_X12_work (g : GW) (a0 : Nat) (x1 : Int32) : V g mX12_work 26 rtI 0 [(0, rf g a0), (1, .int x1)] [] (f_X12_work a0 x1) := by
  unfold f_X12_work
  refine v_aload_n (pc' := 1) 0 dX12_work_0 rfl rfl rfl ?_
  refine v_iconst (v := 0) (pc' := 2) dX12_work_1 rfl rfl ?_
  refine v_put (v := (.int 0)) (v' := .int 0) (pc' := 5) fw_X12_94 rfl rfl rfl (fun h => nomatch h) dX12_work_2 rfl ?_
  refine v_aload_n (pc' := 6) 0 dX12_work_5 rfl rfl rfl ?_
  refine v_iload_n (pc' := 7) 1 dX12_work_6 rfl rfl rfl ?_
  refine v_iconst (v := 0) (pc' := 8) dX12_work_7 rfl rfl ?_
  refine v_aload_n (pc' := 9) 0 dX12_work_8 rfl rfl rfl ?_
  refine v_getI (pc' := 12) fl_X12_97 dX12_work_9 rfl fun v15 => ?_
  refine v_callS (vs := [.int x1, .int 0, .int v15]) (pc' := 15) (h_X12_in g x1 0 v15) ms_X12_in wl_X12_128 (Nat.le_of_ble_eq_true rfl) (by omega) (by decide) (Nat.le_of_ble_eq_true rfl) rfl dX12_work_12 rfl fun v16 => ?_
  refine v_ifeq (t := 25) (pc' := 18) dX12_work_15 (by decide) rfl ?_ ?_
  · refine V.sub [0, 1] rfl ?_
    exact h_X12_work_b25 g a0 x1 a0
  · refine v_iload_n (pc' := 19) 1 dX12_work_18 rfl rfl rfl ?_
    refine v_sipush (v := 150) (pc' := 22) dX12_work_19 rfl rfl ?_
    refine v_icmple (t := 29) (pc' := 25) dX12_work_22 (by decide) rfl ?_ ?_
    · refine v_iconst (v := 0) (pc' := 30) dX12_work_29 rfl rfl ?_
      refine V.sub [0, 1] rfl ?_
      exact h_X12_work_b30 g a0 x1 0 a0
    · refine V.sub [0, 1] rfl ?_
      exact h_X12_work_b25 g a0 x1 a0
-- undo
def f_X12_undo (a0 : Nat) : Mo Int32 := bd (pf 12 0 a0 (.int 0)) fun _ => bd (gI 12 32 a0) fun v1 => if (v1 = 0 : Prop) then (pu (-1)) else bd (gI 12 32 a0) fun v2 => bd (pf 12 32 a0 (.int (v2 - (1 : Int32)))) fun _ => bd (gR 12 29 a0) fun r3 => bd (gI 12 32 a0) fun v4 => bd (aR 3 r3 v4) fun r5 => bd (gR 12 27 a0) fun r6 => bd (f_X12_copies r5 r6) fun _ => bd (pf 12 33 a0 (.int 0)) fun _ => bd (gI 12 32 a0) fun v7 => pu v7
set_option maxRecDepth 20000 in
theorem h_X12_undo (g : GW) (a0 : Nat) : V g mX12_undo 9 rtI 0 [(0, rf g a0)] [] (f_X12_undo a0) := by
  unfold f_X12_undo
  refine v_aload_n (pc' := 1) 0 dX12_undo_0 rfl rfl rfl ?_
  refine v_iconst (v := 0) (pc' := 2) dX12_undo_1 rfl rfl ?_
  refine v_put (v := (.int 0)) (v' := .int 0) (pc' := 5) fw_X12_94 rfl rfl rfl (fun h => nomatch h) dX12_undo_2 rfl ?_
  refine v_aload_n (pc' := 6) 0 dX12_undo_5 rfl rfl rfl ?_
  refine v_getI (pc' := 9) fl_X12_190 dX12_undo_6 rfl fun v1 => ?_
  refine v_ifne (t := 14) (pc' := 12) dX12_undo_9 (by decide) rfl ?_ ?_
  · refine v_aload_n (pc' := 15) 0 dX12_undo_14 rfl rfl rfl ?_
    refine v_dup (pc' := 16) dX12_undo_15 rfl rfl ?_
    refine v_getI (pc' := 19) fl_X12_190 dX12_undo_16 rfl fun v2 => ?_
    refine v_iconst (v := 1) (pc' := 20) dX12_undo_19 rfl rfl ?_
    refine v_isub (pc' := 21) dX12_undo_20 rfl ?_
    refine v_put (v := (.int (v2 - (1 : Int32)))) (v' := .int (v2 - (1 : Int32))) (pc' := 24) fw_X12_190 rfl rfl rfl (fun h => nomatch h) dX12_undo_21 rfl ?_
    refine v_aload_n (pc' := 25) 0 dX12_undo_24 rfl rfl rfl ?_
    refine v_getR (pc' := 28) fl_X12_67 dX12_undo_25 rfl fun r3 => ?_
    refine v_aload_n (pc' := 29) 0 dX12_undo_28 rfl rfl rfl ?_
    refine v_getI (pc' := 32) fl_X12_190 dX12_undo_29 rfl fun v4 => ?_
    refine v_aaldR (pc' := 33) dX12_undo_32 rfl fun r5 => ?_
    refine v_aload_n (pc' := 34) 0 dX12_undo_33 rfl rfl rfl ?_
    refine v_getR (pc' := 37) fl_X12_61 dX12_undo_34 rfl fun r6 => ?_
    refine v_callS (vs := [rf g r5, rf g r6]) (pc' := 40) (h_X12_copies g r5 r6) ms_X12_copies wl_X12_292 (Nat.le_of_ble_eq_true rfl) (by omega) (by decide) (Nat.le_of_ble_eq_true rfl) rfl dX12_undo_37 rfl fun _ => ?_
    refine v_aload_n (pc' := 41) 0 dX12_undo_40 rfl rfl rfl ?_
    refine v_iconst (v := 0) (pc' := 42) dX12_undo_41 rfl rfl ?_
    refine v_put (v := (.int 0)) (v' := .int 0) (pc' := 45) fw_X12_193 rfl rfl rfl (fun h => nomatch h) dX12_undo_42 rfl ?_
    refine v_aload_n (pc' := 46) 0 dX12_undo_45 rfl rfl rfl ?_
    refine v_getI (pc' := 49) fl_X12_190 dX12_undo_46 rfl fun v7 => ?_
    exact v_ireturn rfl dX12_undo_49
  · refine v_iconst (v := -1) (pc' := 13) dX12_undo_12 rfl rfl ?_
    exact v_ireturn rfl dX12_undo_13
-- told
def f_X12_told_b140 : Nat → Nat → Int32 → Int32 → Mo Int32
  | 0, _, _, _ => fl
  | n + 1, a0, x2, x3 => bd (gR 12 12 a0) fun r1 => bd (al 0 r1 0) fun v2 => if (v2 ≤ x3 : Prop) then (pu x2) else bd (gR 12 14 a0) fun r3 => bd (al 0 r3 x3) fun v4 => bd (f_X12_ones v4) fun v5 => (f_X12_told_b140 n) a0 (x2 + v5) (x3 + 1)
def f_X12_told_b21 (a0 : Nat) (x1 : Int32) (xs0 : Int32) (as1 : Nat) : Mo Int32 := bd (cv 12 as1 (f_X12_bad as1 xs0 1 1)) fun v6 => if (v6 = 0 : Prop) then (sw x1 0 [(bd (gR 12 12 a0) fun r7 => bd (al 0 r7 0) fun v8 => pu v8), (bd (gR 12 27 a0) fun r9 => bd (al 0 r9 24) fun v10 => pu v10), (bd (gR 12 27 a0) fun r11 => bd (al 0 r11 27) fun v12 => pu v12), (bd (gR 12 12 a0) fun r13 => bd (al 0 r13 1) fun v14 => pu v14), (bd (gI 12 31 a0) fun v15 => pu v15), (bd (gI 12 33 a0) fun v16 => pu v16), (bd (gR 12 27 a0) fun r17 => bd (al 0 r17 25) fun v18 => pu v18), (bd (gR 12 27 a0) fun r19 => bd (al 0 r19 26) fun v20 => pu v20)] (f_X12_told_b140 NF a0 0 0)) else pu 0
def f_X12_told (a0 : Nat) (x1 : Int32) : Mo Int32 := bd (pf 12 0 a0 (.int 0)) fun _ => bd (f_X12_in x1 0 8) fun v21 => if (v21 = 0 : Prop) then (f_X12_told_b21 a0 x1 1 a0) else f_X12_told_b21 a0 x1 0 a0
set_option maxRecDepth 20000 in
theorem h_X12_told_b140 (g : GW) : ∀ n : Nat, ∀ a0 x2 x3, V g mX12_told 9 rtI 140 [(0, rf g a0), (2, .int x2), (3, .int x3)] [] (f_X12_told_b140 n a0 x2 x3) := by
  intro n
  induction n with
  | zero => intro a0 x2 x3; exact V.vain
  | succ n ih =>
    intro a0 x2 x3
    unfold f_X12_told_b140
    refine v_iload_n (pc' := 141) 2 dX12_told_140 rfl rfl rfl ?_
    refine v_aload_n (pc' := 142) 0 dX12_told_141 rfl rfl rfl ?_
    refine v_getR (pc' := 145) fl_X12_23 dX12_told_142 rfl fun r1 => ?_
    refine v_iconst (v := 0) (pc' := 146) dX12_told_145 rfl rfl ?_
    refine v_iald (pc' := 147) dX12_told_146 rfl fun v2 => ?_
    refine v_icmpge (t := 168) (pc' := 150) dX12_told_147 (by decide) rfl ?_ ?_
    · refine v_iload_n (pc' := 169) 1 dX12_told_168 rfl rfl rfl ?_
      exact v_ireturn rfl dX12_told_169
    · refine v_iload_n (pc' := 151) 1 dX12_told_150 rfl rfl rfl ?_
      refine v_aload_n (pc' := 152) 0 dX12_told_151 rfl rfl rfl ?_
      refine v_getR (pc' := 155) fl_X12_29 dX12_told_152 rfl fun r3 => ?_
      refine v_iload_n (pc' := 156) 2 dX12_told_155 rfl rfl rfl ?_
      refine v_iald (pc' := 157) dX12_told_156 rfl fun v4 => ?_
      refine v_callS (vs := [.int v4]) (pc' := 160) (h_X12_ones g v4) ms_X12_ones wl_X12_250 (Nat.le_of_ble_eq_true rfl) (by omega) (by decide) (Nat.le_of_ble_eq_true rfl) rfl dX12_told_157 rfl fun v5 => ?_
      refine v_iadd (pc' := 161) dX12_told_160 rfl ?_
      refine v_istore_n (lv' := [(2, .int (x2 + v5)), (0, rf g a0), (3, .int x3)]) (pc' := 162) dX12_told_161 rfl (by decide) rfl rfl ?_
      refine v_iinc (v := x3 + 1) (lv' := [(3, .int (x3 + 1)), (2, .int (x2 + v5)), (0, rf g a0)]) (pc' := 165) 2 dX12_told_162 rfl rfl (by decide) rfl rfl ?_
      refine v_goto (t := 140) dX12_told_165 (by decide) ?_
      refine V.sub [2, 1, 0] rfl ?_
      exact ih a0 (x2 + v5) (x3 + 1)
set_option maxRecDepth 20000 in
theorem h_X12_told_b21 (g : GW) (a0 : Nat) (x1 : Int32) (xs0 : Int32) (as1 : Nat) : V g mX12_told 9 rtI 21 [(0, rf g a0), (1, .int x1)] [.int xs0, rf g as1] (f_X12_told_b21 a0 x1 xs0 as1) := by
  unfold f_X12_told_b21
  refine v_iconst (v := 1) (pc' := 22) dX12_told_21 rfl rfl ?_
  refine v_iconst (v := 1) (pc' := 23) dX12_told_22 rfl rfl ?_
  refine v_callV (vs := [.int xs0, .int 1, .int 1]) (pc' := 26) (h_X12_bad g as1 xs0 1 1) mv_X12_bad wl_X12_167 rfl (Nat.le_of_ble_eq_true rfl) (by omega) (by decide) (Nat.le_of_ble_eq_true rfl) rfl dX12_told_23 rfl fun v6 => ?_
  refine v_ifeq (t := 31) (pc' := 29) dX12_told_26 (by decide) rfl ?_ ?_
  · refine v_iload_n (pc' := 32) 1 dX12_told_31 rfl rfl rfl ?_
    refine v_table (td := 136) dX12_told_32 rfl (by decide) ⟨⟨80, by decide, ?_⟩, ⟨87, by decide, ?_⟩, ⟨95, by decide, ?_⟩, ⟨103, by decide, ?_⟩, ⟨110, by decide, ?_⟩, ⟨115, by decide, ?_⟩, ⟨120, by decide, ?_⟩, ⟨128, by decide, ?_⟩, trivial⟩ ?_
    · refine v_aload_n (pc' := 81) 0 dX12_told_80 rfl rfl rfl ?_
      refine v_getR (pc' := 84) fl_X12_23 dX12_told_81 rfl fun r7 => ?_
      refine v_iconst (v := 0) (pc' := 85) dX12_told_84 rfl rfl ?_
      refine v_iald (pc' := 86) dX12_told_85 rfl fun v8 => ?_
      exact v_ireturn rfl dX12_told_86
    · refine v_aload_n (pc' := 88) 0 dX12_told_87 rfl rfl rfl ?_
      refine v_getR (pc' := 91) fl_X12_61 dX12_told_88 rfl fun r9 => ?_
      refine v_bipush (v := 24) (pc' := 93) dX12_told_91 rfl rfl ?_
      refine v_iald (pc' := 94) dX12_told_93 rfl fun v10 => ?_
      exact v_ireturn rfl dX12_told_94
    · refine v_aload_n (pc' := 96) 0 dX12_told_95 rfl rfl rfl ?_
      refine v_getR (pc' := 99) fl_X12_61 dX12_told_96 rfl fun r11 => ?_
      refine v_bipush (v := 27) (pc' := 101) dX12_told_99 rfl rfl ?_
      refine v_iald (pc' := 102) dX12_told_101 rfl fun v12 => ?_
      exact v_ireturn rfl dX12_told_102
    · refine v_aload_n (pc' := 104) 0 dX12_told_103 rfl rfl rfl ?_
      refine v_getR (pc' := 107) fl_X12_23 dX12_told_104 rfl fun r13 => ?_
      refine v_iconst (v := 1) (pc' := 108) dX12_told_107 rfl rfl ?_
      refine v_iald (pc' := 109) dX12_told_108 rfl fun v14 => ?_
      exact v_ireturn rfl dX12_told_109
    · refine v_aload_n (pc' := 111) 0 dX12_told_110 rfl rfl rfl ?_
      refine v_getI (pc' := 114) fl_X12_187 dX12_told_111 rfl fun v15 => ?_
      exact v_ireturn rfl dX12_told_114
    · refine v_aload_n (pc' := 116) 0 dX12_told_115 rfl rfl rfl ?_
      refine v_getI (pc' := 119) fl_X12_193 dX12_told_116 rfl fun v16 => ?_
      exact v_ireturn rfl dX12_told_119
    · refine v_aload_n (pc' := 121) 0 dX12_told_120 rfl rfl rfl ?_
      refine v_getR (pc' := 124) fl_X12_61 dX12_told_121 rfl fun r17 => ?_
      refine v_bipush (v := 25) (pc' := 126) dX12_told_124 rfl rfl ?_
      refine v_iald (pc' := 127) dX12_told_126 rfl fun v18 => ?_
      exact v_ireturn rfl dX12_told_127
    · refine v_aload_n (pc' := 129) 0 dX12_told_128 rfl rfl rfl ?_
      refine v_getR (pc' := 132) fl_X12_61 dX12_told_129 rfl fun r19 => ?_
      refine v_bipush (v := 26) (pc' := 134) dX12_told_132 rfl rfl ?_
      refine v_iald (pc' := 135) dX12_told_134 rfl fun v20 => ?_
      exact v_ireturn rfl dX12_told_135
    · refine v_iconst (v := 0) (pc' := 137) dX12_told_136 rfl rfl ?_
      refine v_istore_n (lv' := [(2, .int 0), (0, rf g a0), (1, .int x1)]) (pc' := 138) dX12_told_137 rfl (by decide) rfl rfl ?_
      refine v_iconst (v := 0) (pc' := 139) dX12_told_138 rfl rfl ?_
      refine v_istore_n (lv' := [(3, .int 0), (2, .int 0), (0, rf g a0), (1, .int x1)]) (pc' := 140) dX12_told_139 rfl (by decide) rfl rfl ?_
      refine V.sub [2, 1, 0] rfl ?_
      exact h_X12_told_b140 g NF a0 0 0
  · refine v_iconst (v := 0) (pc' := 30) dX12_told_29 rfl rfl ?_
    exact v_ireturn rfl dX12_told_30
set_option maxRecDepth 20000 in
theorem h_X12_told (g : GW) (a0 : Nat) (x1 : Int32) : V g mX12_told 9 rtI 0 [(0, rf g a0), (1, .int x1)] [] (f_X12_told a0 x1) := by
  unfold f_X12_told
  refine v_aload_n (pc' := 1) 0 dX12_told_0 rfl rfl rfl ?_
  refine v_iconst (v := 0) (pc' := 2) dX12_told_1 rfl rfl ?_
  refine v_put (v := (.int 0)) (v' := .int 0) (pc' := 5) fw_X12_94 rfl rfl rfl (fun h => nomatch h) dX12_told_2 rfl ?_
  refine v_aload_n (pc' := 6) 0 dX12_told_5 rfl rfl rfl ?_
  refine v_iload_n (pc' := 7) 1 dX12_told_6 rfl rfl rfl ?_
  refine v_iconst (v := 0) (pc' := 8) dX12_told_7 rfl rfl ?_
  refine v_bipush (v := 8) (pc' := 10) dX12_told_8 rfl rfl ?_
  refine v_callS (vs := [.int x1, .int 0, .int 8]) (pc' := 13) (h_X12_in g x1 0 8) ms_X12_in wl_X12_128 (Nat.le_of_ble_eq_true rfl) (by omega) (by decide) (Nat.le_of_ble_eq_true rfl) rfl dX12_told_10 rfl fun v21 => ?_
  refine v_ifne (t := 20) (pc' := 16) dX12_told_13 (by decide) rfl ?_ ?_
  · refine v_iconst (v := 0) (pc' := 21) dX12_told_20 rfl rfl ?_
    refine V.sub [0, 1] rfl ?_
    exact h_X12_told_b21 g a0 x1 0 a0
  · refine v_iconst (v := 1) (pc' := 17) dX12_told_16 rfl rfl ?_
    refine v_goto (t := 21) dX12_told_17 (by decide) ?_
    refine V.sub [0, 1] rfl ?_
    exact h_X12_told_b21 g a0 x1 1 a0
-- isPerson
def f_X12_isPerson (a0 : Nat) (x1 : Int32) : Mo Int32 := bd (gR 12 12 a0) fun r1 => bd (al 0 r1 0) fun v2 => bd (f_X12_in x1 0 (v2 - (1 : Int32))) fun v3 => rz v3
set_option maxRecDepth 20000 in
theorem h_X12_isPerson (g : GW) (a0 : Nat) (x1 : Int32) : V g mX12_isPerson 9 rtI 0 [(0, rf g a0), (1, .int x1)] [] (f_X12_isPerson a0 x1) := by
  unfold f_X12_isPerson
  refine v_iload_n (pc' := 1) 1 dX12_isPerson_0 rfl rfl rfl ?_
  refine v_iconst (v := 0) (pc' := 2) dX12_isPerson_1 rfl rfl ?_
  refine v_aload_n (pc' := 3) 0 dX12_isPerson_2 rfl rfl rfl ?_
  refine v_getR (pc' := 6) fl_X12_23 dX12_isPerson_3 rfl fun r1 => ?_
  refine v_iconst (v := 0) (pc' := 7) dX12_isPerson_6 rfl rfl ?_
  refine v_iald (pc' := 8) dX12_isPerson_7 rfl fun v2 => ?_
  refine v_iconst (v := 1) (pc' := 9) dX12_isPerson_8 rfl rfl ?_
  refine v_isub (pc' := 10) dX12_isPerson_9 rfl ?_
  refine v_callS (vs := [.int x1, .int 0, .int (v2 - (1 : Int32))]) (pc' := 13) (h_X12_in g x1 0 (v2 - (1 : Int32))) ms_X12_in wl_X12_128 (Nat.le_of_ble_eq_true rfl) (by omega) (by decide) (Nat.le_of_ble_eq_true rfl) rfl dX12_isPerson_10 rfl fun v3 => ?_
  exact v_zretV rfl dX12_isPerson_13
-- isHall
def f_X12_isHall (x0 : Int32) : Mo Int32 := bd (f_X12_in x0 0 5) fun v1 => rz v1
set_option maxRecDepth 20000 in
theorem h_X12_isHall (g : GW) (x0 : Int32) : V g mX12_isHall 9 rtI 0 [(0, .int x0)] [] (f_X12_isHall x0) := by
  unfold f_X12_isHall
  refine v_iload_n (pc' := 1) 0 dX12_isHall_0 rfl rfl rfl ?_
  refine v_iconst (v := 0) (pc' := 2) dX12_isHall_1 rfl rfl ?_
  refine v_iconst (v := 5) (pc' := 3) dX12_isHall_2 rfl rfl ?_
  refine v_callS (vs := [.int x0, .int 0, .int 5]) (pc' := 6) (h_X12_in g x0 0 5) ms_X12_in wl_X12_128 (Nat.le_of_ble_eq_true rfl) (by omega) (by decide) (Nat.le_of_ble_eq_true rfl) rfl dX12_isHall_3 rfl fun v1 => ?_
  exact v_zretV rfl dX12_isHall_6
-- isPlate
def f_X12_isPlate (a0 : Nat) (x1 : Int32) : Mo Int32 := bd (gR 12 27 a0) fun r1 => bd (al 0 r1 24) fun v2 => bd (f_X12_in x1 0 (v2 - (1 : Int32))) fun v3 => rz v3
set_option maxRecDepth 20000 in
theorem h_X12_isPlate (g : GW) (a0 : Nat) (x1 : Int32) : V g mX12_isPlate 9 rtI 0 [(0, rf g a0), (1, .int x1)] [] (f_X12_isPlate a0 x1) := by
  unfold f_X12_isPlate
  refine v_iload_n (pc' := 1) 1 dX12_isPlate_0 rfl rfl rfl ?_
  refine v_iconst (v := 0) (pc' := 2) dX12_isPlate_1 rfl rfl ?_
  refine v_aload_n (pc' := 3) 0 dX12_isPlate_2 rfl rfl rfl ?_
  refine v_getR (pc' := 6) fl_X12_61 dX12_isPlate_3 rfl fun r1 => ?_
  refine v_bipush (v := 24) (pc' := 8) dX12_isPlate_6 rfl rfl ?_
  refine v_iald (pc' := 9) dX12_isPlate_8 rfl fun v2 => ?_
  refine v_iconst (v := 1) (pc' := 10) dX12_isPlate_9 rfl rfl ?_
  refine v_isub (pc' := 11) dX12_isPlate_10 rfl ?_
  refine v_callS (vs := [.int x1, .int 0, .int (v2 - (1 : Int32))]) (pc' := 14) (h_X12_in g x1 0 (v2 - (1 : Int32))) ms_X12_in wl_X12_128 (Nat.le_of_ble_eq_true rfl) (by omega) (by decide) (Nat.le_of_ble_eq_true rfl) rfl dX12_isPlate_11 rfl fun v3 => ?_
  exact v_zretV rfl dX12_isPlate_14
-- isFace
def f_X12_isFace (x0 : Int32) : Mo Int32 := bd (f_X12_in x0 0 63) fun v1 => rz v1
set_option maxRecDepth 20000 in
theorem h_X12_isFace (g : GW) (x0 : Int32) : V g mX12_isFace 9 rtI 0 [(0, .int x0)] [] (f_X12_isFace x0) := by
  unfold f_X12_isFace
  refine v_iload_n (pc' := 1) 0 dX12_isFace_0 rfl rfl rfl ?_
  refine v_iconst (v := 0) (pc' := 2) dX12_isFace_1 rfl rfl ?_
  refine v_bipush (v := 63) (pc' := 4) dX12_isFace_2 rfl rfl ?_
  refine v_callS (vs := [.int x0, .int 0, .int 63]) (pc' := 7) (h_X12_in g x0 0 63) ms_X12_in wl_X12_128 (Nat.le_of_ble_eq_true rfl) (by omega) (by decide) (Nat.le_of_ble_eq_true rfl) rfl dX12_isFace_4 rfl fun v1 => ?_
  exact v_zretV rfl dX12_isFace_7
-- arePersons
def f_X12_arePersons (a0 : Nat) (x1 : Int32) : Mo Int32 := bd (gR 12 12 a0) fun r1 => bd (al 0 r1 0) fun v2 => bd (f_X12_in x1 0 (((1 : Int32) <<< (v2 &&& 31)) - (1 : Int32))) fun v3 => rz v3
set_option maxRecDepth 20000 in
theorem h_X12_arePersons (g : GW) (a0 : Nat) (x1 : Int32) : V g mX12_arePersons 9 rtI 0 [(0, rf g a0), (1, .int x1)] [] (f_X12_arePersons a0 x1) := by
  unfold f_X12_arePersons
  refine v_iload_n (pc' := 1) 1 dX12_arePersons_0 rfl rfl rfl ?_
  refine v_iconst (v := 0) (pc' := 2) dX12_arePersons_1 rfl rfl ?_
  refine v_iconst (v := 1) (pc' := 3) dX12_arePersons_2 rfl rfl ?_
  refine v_aload_n (pc' := 4) 0 dX12_arePersons_3 rfl rfl rfl ?_
  refine v_getR (pc' := 7) fl_X12_23 dX12_arePersons_4 rfl fun r1 => ?_
  refine v_iconst (v := 0) (pc' := 8) dX12_arePersons_7 rfl rfl ?_
  refine v_iald (pc' := 9) dX12_arePersons_8 rfl fun v2 => ?_
  refine v_ishl (pc' := 10) dX12_arePersons_9 rfl ?_
  refine v_iconst (v := 1) (pc' := 11) dX12_arePersons_10 rfl rfl ?_
  refine v_isub (pc' := 12) dX12_arePersons_11 rfl ?_
  refine v_callS (vs := [.int x1, .int 0, .int (((1 : Int32) <<< (v2 &&& 31)) - (1 : Int32))]) (pc' := 15) (h_X12_in g x1 0 (((1 : Int32) <<< (v2 &&& 31)) - (1 : Int32))) ms_X12_in wl_X12_128 (Nat.le_of_ble_eq_true rfl) (by omega) (by decide) (Nat.le_of_ble_eq_true rfl) rfl dX12_arePersons_12 rfl fun v3 => ?_
  exact v_zretV rfl dX12_arePersons_15
-- person
def f_X12_person_b43 (a0 : Nat) (x1 : Int32) (x2 : Int32) (xs0 : Int32) (as1 : Nat) : Mo Int32 := bd (cv 12 as1 (f_X12_bad as1 xs0 2 1)) fun v1 => if (v1 = 0 : Prop) then (sw x2 3 [(bd (gR 12 27 a0) fun r2 => bd (al 0 r2 ((0 : Int32) + x1)) fun v3 => pu v3), (bd (gR 12 27 a0) fun r4 => bd (al 0 r4 ((8 : Int32) + x1)) fun v5 => pu v5), (bd (gR 12 27 a0) fun r6 => bd (al 0 r6 ((16 : Int32) + x1)) fun v7 => pu v7), (bd (gR 12 14 a0) fun r8 => bd (al 0 r8 x1) fun v9 => pu v9)] (bd (gR 12 16 a0) fun r10 => bd (aR 3 r10 x1) fun r11 => bd (al 0 r11 x2) fun v12 => pu v12)) else pu 0
def f_X12_person_b19 (a0 : Nat) (x1 : Int32) (x2 : Int32) (xs0 : Int32) (as1 : Nat) : Mo Int32 := bd (cv 12 as1 (f_X12_bad as1 xs0 1 0)) fun v13 => if (v13 = 0 : Prop) then (bd (f_X12_in x2 0 6) fun v14 => if (v14 = 0 : Prop) then (f_X12_person_b43 a0 x1 x2 1 a0) else f_X12_person_b43 a0 x1 x2 0 a0) else pu 0
def f_X12_person (a0 : Nat) (x1 : Int32) (x2 : Int32) : Mo Int32 := bd (pf 12 0 a0 (.int 0)) fun _ => bd (cv 12 a0 (f_X12_isPerson a0 x1)) fun v15 => if (v15 = 0 : Prop) then (f_X12_person_b19 a0 x1 x2 1 a0) else f_X12_person_b19 a0 x1 x2 0 a0
set_option maxRecDepth 20000 in
theorem h_X12_person_b43 (g : GW) (a0 : Nat) (x1 : Int32) (x2 : Int32) (xs0 : Int32) (as1 : Nat) : V g mX12_person 10 rtI 43 [(0, rf g a0), (1, .int x1), (2, .int x2)] [.int xs0, rf g as1] (f_X12_person_b43 a0 x1 x2 xs0 as1) := by
  unfold f_X12_person_b43
  refine v_iconst (v := 2) (pc' := 44) dX12_person_43 rfl rfl ?_
  refine v_iconst (v := 1) (pc' := 45) dX12_person_44 rfl rfl ?_
  refine v_callV (vs := [.int xs0, .int 2, .int 1]) (pc' := 48) (h_X12_bad g as1 xs0 2 1) mv_X12_bad wl_X12_167 rfl (Nat.le_of_ble_eq_true rfl) (by omega) (by decide) (Nat.le_of_ble_eq_true rfl) rfl dX12_person_45 rfl fun v1 => ?_
  refine v_ifeq (t := 53) (pc' := 51) dX12_person_48 (by decide) rfl ?_ ?_
  · refine v_iload_n (pc' := 54) 2 dX12_person_53 rfl rfl rfl ?_
    refine v_table (td := 120) dX12_person_54 rfl (by decide) ⟨⟨84, by decide, ?_⟩, ⟨93, by decide, ?_⟩, ⟨103, by decide, ?_⟩, ⟨113, by decide, ?_⟩, trivial⟩ ?_
    · refine v_aload_n (pc' := 85) 0 dX12_person_84 rfl rfl rfl ?_
      refine v_getR (pc' := 88) fl_X12_61 dX12_person_85 rfl fun r2 => ?_
      refine v_iconst (v := 0) (pc' := 89) dX12_person_88 rfl rfl ?_
      refine v_iload_n (pc' := 90) 1 dX12_person_89 rfl rfl rfl ?_
      refine v_iadd (pc' := 91) dX12_person_90 rfl ?_
      refine v_iald (pc' := 92) dX12_person_91 rfl fun v3 => ?_
      exact v_ireturn rfl dX12_person_92
    · refine v_aload_n (pc' := 94) 0 dX12_person_93 rfl rfl rfl ?_
      refine v_getR (pc' := 97) fl_X12_61 dX12_person_94 rfl fun r4 => ?_
      refine v_bipush (v := 8) (pc' := 99) dX12_person_97 rfl rfl ?_
      refine v_iload_n (pc' := 100) 1 dX12_person_99 rfl rfl rfl ?_
      refine v_iadd (pc' := 101) dX12_person_100 rfl ?_
      refine v_iald (pc' := 102) dX12_person_101 rfl fun v5 => ?_
      exact v_ireturn rfl dX12_person_102
    · refine v_aload_n (pc' := 104) 0 dX12_person_103 rfl rfl rfl ?_
      refine v_getR (pc' := 107) fl_X12_61 dX12_person_104 rfl fun r6 => ?_
      refine v_bipush (v := 16) (pc' := 109) dX12_person_107 rfl rfl ?_
      refine v_iload_n (pc' := 110) 1 dX12_person_109 rfl rfl rfl ?_
      refine v_iadd (pc' := 111) dX12_person_110 rfl ?_
      refine v_iald (pc' := 112) dX12_person_111 rfl fun v7 => ?_
      exact v_ireturn rfl dX12_person_112
    · refine v_aload_n (pc' := 114) 0 dX12_person_113 rfl rfl rfl ?_
      refine v_getR (pc' := 117) fl_X12_29 dX12_person_114 rfl fun r8 => ?_
      refine v_iload_n (pc' := 118) 1 dX12_person_117 rfl rfl rfl ?_
      refine v_iald (pc' := 119) dX12_person_118 rfl fun v9 => ?_
      exact v_ireturn rfl dX12_person_119
    · refine v_aload_n (pc' := 121) 0 dX12_person_120 rfl rfl rfl ?_
      refine v_getR (pc' := 124) fl_X12_37 dX12_person_121 rfl fun r10 => ?_
      refine v_iload_n (pc' := 125) 1 dX12_person_124 rfl rfl rfl ?_
      refine v_aaldR (pc' := 126) dX12_person_125 rfl fun r11 => ?_
      refine v_iload_n (pc' := 127) 2 dX12_person_126 rfl rfl rfl ?_
      refine v_iald (pc' := 128) dX12_person_127 rfl fun v12 => ?_
      exact v_ireturn rfl dX12_person_128
  · refine v_iconst (v := 0) (pc' := 52) dX12_person_51 rfl rfl ?_
    exact v_ireturn rfl dX12_person_52
set_option maxRecDepth 20000 in
theorem h_X12_person_b19 (g : GW) (a0 : Nat) (x1 : Int32) (x2 : Int32) (xs0 : Int32) (as1 : Nat) : V g mX12_person 10 rtI 19 [(0, rf g a0), (1, .int x1), (2, .int x2)] [.int xs0, rf g as1] (f_X12_person_b19 a0 x1 x2 xs0 as1) := by
  unfold f_X12_person_b19
  refine v_iconst (v := 1) (pc' := 20) dX12_person_19 rfl rfl ?_
  refine v_iconst (v := 0) (pc' := 21) dX12_person_20 rfl rfl ?_
  refine v_callV (vs := [.int xs0, .int 1, .int 0]) (pc' := 24) (h_X12_bad g as1 xs0 1 0) mv_X12_bad wl_X12_167 rfl (Nat.le_of_ble_eq_true rfl) (by omega) (by decide) (Nat.le_of_ble_eq_true rfl) rfl dX12_person_21 rfl fun v13 => ?_
  refine v_ifne (t := 51) (pc' := 27) dX12_person_24 (by decide) rfl ?_ ?_
  · refine v_iconst (v := 0) (pc' := 52) dX12_person_51 rfl rfl ?_
    exact v_ireturn rfl dX12_person_52
  · refine v_aload_n (pc' := 28) 0 dX12_person_27 rfl rfl rfl ?_
    refine v_iload_n (pc' := 29) 2 dX12_person_28 rfl rfl rfl ?_
    refine v_iconst (v := 0) (pc' := 30) dX12_person_29 rfl rfl ?_
    refine v_bipush (v := 6) (pc' := 32) dX12_person_30 rfl rfl ?_
    refine v_callS (vs := [.int x2, .int 0, .int 6]) (pc' := 35) (h_X12_in g x2 0 6) ms_X12_in wl_X12_128 (Nat.le_of_ble_eq_true rfl) (by omega) (by decide) (Nat.le_of_ble_eq_true rfl) rfl dX12_person_32 rfl fun v14 => ?_
    refine v_ifne (t := 42) (pc' := 38) dX12_person_35 (by decide) rfl ?_ ?_
    · refine v_iconst (v := 0) (pc' := 43) dX12_person_42 rfl rfl ?_
      refine V.sub [0, 1, 2] rfl ?_
      exact h_X12_person_b43 g a0 x1 x2 0 a0
    · refine v_iconst (v := 1) (pc' := 39) dX12_person_38 rfl rfl ?_
      refine v_goto (t := 43) dX12_person_39 (by decide) ?_
      refine V.sub [0, 1, 2] rfl ?_
      exact h_X12_person_b43 g a0 x1 x2 1 a0
set_option maxRecDepth 20000 in
theorem h_X12_person (g : GW) (a0 : Nat) (x1 : Int32) (x2 : Int32) : V g mX12_person 10 rtI 0 [(0, rf g a0), (1, .int x1), (2, .int x2)] [] (f_X12_person a0 x1 x2) := by
  unfold f_X12_person
  refine v_aload_n (pc' := 1) 0 dX12_person_0 rfl rfl rfl ?_
  refine v_iconst (v := 0) (pc' := 2) dX12_person_1 rfl rfl ?_
  refine v_put (v := (.int 0)) (v' := .int 0) (pc' := 5) fw_X12_94 rfl rfl rfl (fun h => nomatch h) dX12_person_2 rfl ?_
  refine v_aload_n (pc' := 6) 0 dX12_person_5 rfl rfl rfl ?_
  refine v_aload_n (pc' := 7) 0 dX12_person_6 rfl rfl rfl ?_
  refine v_iload_n (pc' := 8) 1 dX12_person_7 rfl rfl rfl ?_
  refine v_callV (vs := [.int x1]) (pc' := 11) (h_X12_isPerson g a0 x1) mv_X12_isPerson wl_X12_296 rfl (Nat.le_of_ble_eq_true rfl) (by omega) (by decide) (Nat.le_of_ble_eq_true rfl) rfl dX12_person_8 rfl fun v15 => ?_
  refine v_ifne (t := 18) (pc' := 14) dX12_person_11 (by decide) rfl ?_ ?_
  · refine v_iconst (v := 0) (pc' := 19) dX12_person_18 rfl rfl ?_
    refine V.sub [0, 1, 2] rfl ?_
    exact h_X12_person_b19 g a0 x1 x2 0 a0
  · refine v_iconst (v := 1) (pc' := 15) dX12_person_14 rfl rfl ?_
    refine v_goto (t := 19) dX12_person_15 (by decide) ?_
    refine V.sub [0, 1, 2] rfl ?_
    exact h_X12_person_b19 g a0 x1 x2 1 a0
-- looksOf
def f_X12_looksOf_b42 (k4 : Nat → Int32 → Int32 → Int32 → Mo Int32) (a0 : Nat) (x1 : Int32) (x3 : Int32) (xs0 : Int32) : Mo Int32 := k4 a0 x1 xs0 (x3 + 1)
def f_X12_looksOf_b4 : Nat → Nat → Int32 → Int32 → Int32 → Mo Int32
  | 0, _, _, _, _ => fl
  | n + 1, a0, x1, x2, x3 => bd (gR 12 12 a0) fun r1 => bd (al 0 r1 0) fun v2 => if (v2 ≤ x3 : Prop) then (pu x2) else bd (cv 12 a0 (f_X12_faceOf a0 x3)) fun v3 => bd (f_X12_ones (x1 ^^^ v3)) fun v4 => bd (cv 12 a0 (f_X12_faceOf a0 x2)) fun v5 => bd (f_X12_ones (x1 ^^^ v5)) fun v6 => if (v6 ≤ v4 : Prop) then (f_X12_looksOf_b42 (f_X12_looksOf_b4 n) a0 x1 x3 x2) else f_X12_looksOf_b42 (f_X12_looksOf_b4 n) a0 x1 x3 x3
def f_X12_looksOf (a0 : Nat) (x1 : Int32) : Mo Int32 := f_X12_looksOf_b4 NF a0 x1 0 1
set_option maxRecDepth 20000 in
theorem h_X12_looksOf_b42 (g : GW) (k4 : Nat → Int32 → Int32 → Int32 → Mo Int32) (hk4 : ∀ a0 x1 x2 x3, V g mX12_looksOf 9 rtI 4 [(0, rf g a0), (1, .int x1), (2, .int x2), (3, .int x3)] [] (k4 a0 x1 x2 x3)) (a0 : Nat) (x1 : Int32) (x3 : Int32) (xs0 : Int32) : V g mX12_looksOf 9 rtI 42 [(0, rf g a0), (1, .int x1), (3, .int x3)] [.int xs0] (f_X12_looksOf_b42 k4 a0 x1 x3 xs0) := by
  unfold f_X12_looksOf_b42
  refine v_istore_n (lv' := [(2, .int xs0), (0, rf g a0), (1, .int x1), (3, .int x3)]) (pc' := 43) dX12_looksOf_42 rfl (by decide) rfl rfl ?_
  refine v_iinc (v := x3 + 1) (lv' := [(3, .int (x3 + 1)), (2, .int xs0), (0, rf g a0), (1, .int x1)]) (pc' := 46) 3 dX12_looksOf_43 rfl rfl (by decide) rfl rfl ?_
  refine v_goto (t := 4) dX12_looksOf_46 (by decide) ?_
  refine V.sub [2, 3, 1, 0] rfl ?_
  exact hk4 a0 x1 xs0 (x3 + 1)
set_option maxRecDepth 20000 in
theorem h_X12_looksOf_b4 (g : GW) : ∀ n : Nat, ∀ a0 x1 x2 x3, V g mX12_looksOf 9 rtI 4 [(0, rf g a0), (1, .int x1), (2, .int x2), (3, .int x3)] [] (f_X12_looksOf_b4 n a0 x1 x2 x3) := by
  intro n
  induction n with
  | zero => intro a0 x1 x2 x3; exact V.vain
  | succ n ih =>
    intro a0 x1 x2 x3
    unfold f_X12_looksOf_b4
    refine v_iload_n (pc' := 5) 3 dX12_looksOf_4 rfl rfl rfl ?_
    refine v_aload_n (pc' := 6) 0 dX12_looksOf_5 rfl rfl rfl ?_
    refine v_getR (pc' := 9) fl_X12_23 dX12_looksOf_6 rfl fun r1 => ?_
    refine v_iconst (v := 0) (pc' := 10) dX12_looksOf_9 rfl rfl ?_
    refine v_iald (pc' := 11) dX12_looksOf_10 rfl fun v2 => ?_
    refine v_icmpge (t := 49) (pc' := 14) dX12_looksOf_11 (by decide) rfl ?_ ?_
    · refine v_iload_n (pc' := 50) 2 dX12_looksOf_49 rfl rfl rfl ?_
      exact v_ireturn rfl dX12_looksOf_50
    · refine v_iload_n (pc' := 15) 1 dX12_looksOf_14 rfl rfl rfl ?_
      refine v_aload_n (pc' := 16) 0 dX12_looksOf_15 rfl rfl rfl ?_
      refine v_iload_n (pc' := 17) 3 dX12_looksOf_16 rfl rfl rfl ?_
      refine v_callV (vs := [.int x3]) (pc' := 20) (h_X12_faceOf g a0 x3) mv_X12_faceOf wl_X12_253 rfl (Nat.le_of_ble_eq_true rfl) (by omega) (by decide) (Nat.le_of_ble_eq_true rfl) rfl dX12_looksOf_17 rfl fun v3 => ?_
      refine v_ixor (pc' := 21) dX12_looksOf_20 rfl ?_
      refine v_callS (vs := [.int (x1 ^^^ v3)]) (pc' := 24) (h_X12_ones g (x1 ^^^ v3)) ms_X12_ones wl_X12_250 (Nat.le_of_ble_eq_true rfl) (by omega) (by decide) (Nat.le_of_ble_eq_true rfl) rfl dX12_looksOf_21 rfl fun v4 => ?_
      refine v_iload_n (pc' := 25) 1 dX12_looksOf_24 rfl rfl rfl ?_
      refine v_aload_n (pc' := 26) 0 dX12_looksOf_25 rfl rfl rfl ?_
      refine v_iload_n (pc' := 27) 2 dX12_looksOf_26 rfl rfl rfl ?_
      refine v_callV (vs := [.int x2]) (pc' := 30) (h_X12_faceOf g a0 x2) mv_X12_faceOf wl_X12_253 rfl (Nat.le_of_ble_eq_true rfl) (by omega) (by decide) (Nat.le_of_ble_eq_true rfl) rfl dX12_looksOf_27 rfl fun v5 => ?_
      refine v_ixor (pc' := 31) dX12_looksOf_30 rfl ?_
      refine v_callS (vs := [.int (x1 ^^^ v5)]) (pc' := 34) (h_X12_ones g (x1 ^^^ v5)) ms_X12_ones wl_X12_250 (Nat.le_of_ble_eq_true rfl) (by omega) (by decide) (Nat.le_of_ble_eq_true rfl) rfl dX12_looksOf_31 rfl fun v6 => ?_
      refine v_icmpge (t := 41) (pc' := 37) dX12_looksOf_34 (by decide) rfl ?_ ?_
      · refine v_iload_n (pc' := 42) 2 dX12_looksOf_41 rfl rfl rfl ?_
        refine V.sub [0, 1, 3] rfl ?_
        exact h_X12_looksOf_b42 g (f_X12_looksOf_b4 n) ih a0 x1 x3 x2
      · refine v_iload_n (pc' := 38) 3 dX12_looksOf_37 rfl rfl rfl ?_
        refine v_goto (t := 42) dX12_looksOf_38 (by decide) ?_
        refine V.sub [0, 1, 3] rfl ?_
        exact h_X12_looksOf_b42 g (f_X12_looksOf_b4 n) ih a0 x1 x3 x3
set_option maxRecDepth 20000 in
theorem h_X12_looksOf (g : GW) (a0 : Nat) (x1 : Int32) : V g mX12_looksOf 9 rtI 0 [(0, rf g a0), (1, .int x1)] [] (f_X12_looksOf a0 x1) := by
  unfold f_X12_looksOf
  refine v_iconst (v := 0) (pc' := 1) dX12_looksOf_0 rfl rfl ?_
  refine v_istore_n (lv' := [(2, .int 0), (0, rf g a0), (1, .int x1)]) (pc' := 2) dX12_looksOf_1 rfl (by decide) rfl rfl ?_
  refine v_iconst (v := 1) (pc' := 3) dX12_looksOf_2 rfl rfl ?_
  refine v_istore_n (lv' := [(3, .int 1), (2, .int 0), (0, rf g a0), (1, .int x1)]) (pc' := 4) dX12_looksOf_3 rfl (by decide) rfl rfl ?_
  refine V.sub [2, 3, 1, 0] rfl ?_
  exact h_X12_looksOf_b4 g NF a0 x1 0 1
-- plate
def f_X12_plate_b42 (a0 : Nat) (x1 : Int32) (x2 : Int32) (xs0 : Int32) (as1 : Nat) : Mo Int32 := bd (cv 12 as1 (f_X12_bad as1 xs0 2 1)) fun v1 => if (v1 = 0 : Prop) then (if (5 ≤ x2 : Prop) then (bd (gR 12 27 a0) fun r2 => bd (f_X12_plateOf r2 x1 3) fun v3 => bd (cv 12 a0 (f_X12_looksOf a0 v3)) fun v4 => pu v4) else bd (gR 12 27 a0) fun r5 => bd (f_X12_plateOf r5 x1 x2) fun v6 => pu v6) else pu 0
def f_X12_plate_b19 (a0 : Nat) (x1 : Int32) (x2 : Int32) (xs0 : Int32) (as1 : Nat) : Mo Int32 := bd (cv 12 as1 (f_X12_bad as1 xs0 1 0)) fun v7 => if (v7 = 0 : Prop) then (bd (f_X12_in x2 0 5) fun v8 => if (v8 = 0 : Prop) then (f_X12_plate_b42 a0 x1 x2 1 a0) else f_X12_plate_b42 a0 x1 x2 0 a0) else pu 0
def f_X12_plate (a0 : Nat) (x1 : Int32) (x2 : Int32) : Mo Int32 := bd (pf 12 0 a0 (.int 0)) fun _ => bd (cv 12 a0 (f_X12_isPlate a0 x1)) fun v9 => if (v9 = 0 : Prop) then (f_X12_plate_b19 a0 x1 x2 1 a0) else f_X12_plate_b19 a0 x1 x2 0 a0
set_option maxRecDepth 20000 in
theorem h_X12_plate_b42 (g : GW) (a0 : Nat) (x1 : Int32) (x2 : Int32) (xs0 : Int32) (as1 : Nat) : V g mX12_plate 10 rtI 42 [(0, rf g a0), (1, .int x1), (2, .int x2)] [.int xs0, rf g as1] (f_X12_plate_b42 a0 x1 x2 xs0 as1) := by
  unfold f_X12_plate_b42
  refine v_iconst (v := 2) (pc' := 43) dX12_plate_42 rfl rfl ?_
  refine v_iconst (v := 1) (pc' := 44) dX12_plate_43 rfl rfl ?_
  refine v_callV (vs := [.int xs0, .int 2, .int 1]) (pc' := 47) (h_X12_bad g as1 xs0 2 1) mv_X12_bad wl_X12_167 rfl (Nat.le_of_ble_eq_true rfl) (by omega) (by decide) (Nat.le_of_ble_eq_true rfl) rfl dX12_plate_44 rfl fun v1 => ?_
  refine v_ifeq (t := 52) (pc' := 50) dX12_plate_47 (by decide) rfl ?_ ?_
  · refine v_iload_n (pc' := 53) 2 dX12_plate_52 rfl rfl rfl ?_
    refine v_iconst (v := 5) (pc' := 54) dX12_plate_53 rfl rfl ?_
    refine v_icmpge (t := 69) (pc' := 57) dX12_plate_54 (by decide) rfl ?_ ?_
    · refine v_aload_n (pc' := 70) 0 dX12_plate_69 rfl rfl rfl ?_
      refine v_aload_n (pc' := 71) 0 dX12_plate_70 rfl rfl rfl ?_
      refine v_getR (pc' := 74) fl_X12_61 dX12_plate_71 rfl fun r2 => ?_
      refine v_iload_n (pc' := 75) 1 dX12_plate_74 rfl rfl rfl ?_
      refine v_iconst (v := 3) (pc' := 76) dX12_plate_75 rfl rfl ?_
      refine v_callS (vs := [rf g r2, .int x1, .int 3]) (pc' := 79) (h_X12_plateOf g r2 x1 3) ms_X12_plateOf wl_X12_263 (Nat.le_of_ble_eq_true rfl) (by omega) (by decide) (Nat.le_of_ble_eq_true rfl) rfl dX12_plate_76 rfl fun v3 => ?_
      refine v_callV (vs := [.int v3]) (pc' := 82) (h_X12_looksOf g a0 v3) mv_X12_looksOf wl_X12_302 rfl (Nat.le_of_ble_eq_true rfl) (by omega) (by decide) (Nat.le_of_ble_eq_true rfl) rfl dX12_plate_79 rfl fun v4 => ?_
      exact v_ireturn rfl dX12_plate_82
    · refine v_aload_n (pc' := 58) 0 dX12_plate_57 rfl rfl rfl ?_
      refine v_getR (pc' := 61) fl_X12_61 dX12_plate_58 rfl fun r5 => ?_
      refine v_iload_n (pc' := 62) 1 dX12_plate_61 rfl rfl rfl ?_
      refine v_iload_n (pc' := 63) 2 dX12_plate_62 rfl rfl rfl ?_
      refine v_callS (vs := [rf g r5, .int x1, .int x2]) (pc' := 66) (h_X12_plateOf g r5 x1 x2) ms_X12_plateOf wl_X12_263 (Nat.le_of_ble_eq_true rfl) (by omega) (by decide) (Nat.le_of_ble_eq_true rfl) rfl dX12_plate_63 rfl fun v6 => ?_
      refine v_goto (t := 82) dX12_plate_66 (by decide) ?_
      exact v_ireturn rfl dX12_plate_82
  · refine v_iconst (v := 0) (pc' := 51) dX12_plate_50 rfl rfl ?_
    exact v_ireturn rfl dX12_plate_51
set_option maxRecDepth 20000 in
theorem h_X12_plate_b19 (g : GW) (a0 : Nat) (x1 : Int32) (x2 : Int32) (xs0 : Int32) (as1 : Nat) : V g mX12_plate 10 rtI 19 [(0, rf g a0), (1, .int x1), (2, .int x2)] [.int xs0, rf g as1] (f_X12_plate_b19 a0 x1 x2 xs0 as1) := by
  unfold f_X12_plate_b19
  refine v_iconst (v := 1) (pc' := 20) dX12_plate_19 rfl rfl ?_
  refine v_iconst (v := 0) (pc' := 21) dX12_plate_20 rfl rfl ?_
  refine v_callV (vs := [.int xs0, .int 1, .int 0]) (pc' := 24) (h_X12_bad g as1 xs0 1 0) mv_X12_bad wl_X12_167 rfl (Nat.le_of_ble_eq_true rfl) (by omega) (by decide) (Nat.le_of_ble_eq_true rfl) rfl dX12_plate_21 rfl fun v7 => ?_
  refine v_ifne (t := 50) (pc' := 27) dX12_plate_24 (by decide) rfl ?_ ?_
  · refine v_iconst (v := 0) (pc' := 51) dX12_plate_50 rfl rfl ?_
    exact v_ireturn rfl dX12_plate_51
  · refine v_aload_n (pc' := 28) 0 dX12_plate_27 rfl rfl rfl ?_
    refine v_iload_n (pc' := 29) 2 dX12_plate_28 rfl rfl rfl ?_
    refine v_iconst (v := 0) (pc' := 30) dX12_plate_29 rfl rfl ?_
    refine v_iconst (v := 5) (pc' := 31) dX12_plate_30 rfl rfl ?_
    refine v_callS (vs := [.int x2, .int 0, .int 5]) (pc' := 34) (h_X12_in g x2 0 5) ms_X12_in wl_X12_128 (Nat.le_of_ble_eq_true rfl) (by omega) (by decide) (Nat.le_of_ble_eq_true rfl) rfl dX12_plate_31 rfl fun v8 => ?_
    refine v_ifne (t := 41) (pc' := 37) dX12_plate_34 (by decide) rfl ?_ ?_
    · refine v_iconst (v := 0) (pc' := 42) dX12_plate_41 rfl rfl ?_
      refine V.sub [0, 1, 2] rfl ?_
      exact h_X12_plate_b42 g a0 x1 x2 0 a0
    · refine v_iconst (v := 1) (pc' := 38) dX12_plate_37 rfl rfl ?_
      refine v_goto (t := 42) dX12_plate_38 (by decide) ?_
      refine V.sub [0, 1, 2] rfl ?_
      exact h_X12_plate_b42 g a0 x1 x2 1 a0
set_option maxRecDepth 20000 in
theorem h_X12_plate (g : GW) (a0 : Nat) (x1 : Int32) (x2 : Int32) : V g mX12_plate 10 rtI 0 [(0, rf g a0), (1, .int x1), (2, .int x2)] [] (f_X12_plate a0 x1 x2) := by
  unfold f_X12_plate
  refine v_aload_n (pc' := 1) 0 dX12_plate_0 rfl rfl rfl ?_
  refine v_iconst (v := 0) (pc' := 2) dX12_plate_1 rfl rfl ?_
  refine v_put (v := (.int 0)) (v' := .int 0) (pc' := 5) fw_X12_94 rfl rfl rfl (fun h => nomatch h) dX12_plate_2 rfl ?_
  refine v_aload_n (pc' := 6) 0 dX12_plate_5 rfl rfl rfl ?_
  refine v_aload_n (pc' := 7) 0 dX12_plate_6 rfl rfl rfl ?_
  refine v_iload_n (pc' := 8) 1 dX12_plate_7 rfl rfl rfl ?_
  refine v_callV (vs := [.int x1]) (pc' := 11) (h_X12_isPlate g a0 x1) mv_X12_isPlate wl_X12_299 rfl (Nat.le_of_ble_eq_true rfl) (by omega) (by decide) (Nat.le_of_ble_eq_true rfl) rfl dX12_plate_8 rfl fun v9 => ?_
  refine v_ifne (t := 18) (pc' := 14) dX12_plate_11 (by decide) rfl ?_ ?_
  · refine v_iconst (v := 0) (pc' := 19) dX12_plate_18 rfl rfl ?_
    refine V.sub [0, 1, 2] rfl ?_
    exact h_X12_plate_b19 g a0 x1 x2 0 a0
  · refine v_iconst (v := 1) (pc' := 15) dX12_plate_14 rfl rfl ?_
    refine v_goto (t := 19) dX12_plate_15 (by decide) ?_
    refine V.sub [0, 1, 2] rfl ?_
    exact h_X12_plate_b19 g a0 x1 x2 1 a0
-- hall
def f_X12_hall_b152 (k65 : Nat → Int32 → Int32 → Int32 → Int32 → Int32 → Int32 → Int32 → Mo Int32) (a0 : Nat) (x1 : Int32) (x2 : Int32) (x3 : Int32) (x4 : Int32) (x5 : Int32) (x6 : Int32) (x7 : Int32) : Mo Int32 := k65 a0 x1 x2 x3 x4 x5 x6 (x7 + 1)
def f_X12_hall_b65 : Nat → Nat → Int32 → Int32 → Int32 → Int32 → Int32 → Int32 → Int32 → Mo Int32
  | 0, _, _, _, _, _, _, _, _ => fl
  | n + 1, a0, x1, x2, x3, x4, x5, x6, x7 => bd (gR 12 27 a0) fun r1 => bd (al 0 r1 24) fun v2 => if (v2 ≤ x7 : Prop) then (if (x2 = 0 : Prop) then (pu x3) else if (x2 = 1 : Prop) then (pu x4) else if (x2 = 2 : Prop) then (pu x5) else pu x6) else bd (gR 12 27 a0) fun r3 => bd (f_X12_plateOf r3 x7 2) fun v4 => if (v4 = x1 : Prop) then (bd (gR 12 27 a0) fun r5 => bd (f_X12_plateOf r5 x7 0) fun v6 => bd (gR 12 27 a0) fun r7 => bd (f_X12_plateOf r7 x7 1) fun v8 => bd (gR 12 27 a0) fun r9 => bd (f_X12_plateOf r9 x7 3) fun v10 => bd (cv 12 a0 (f_X12_looksOf a0 v10)) fun v11 => f_X12_hall_b152 (f_X12_hall_b65 n) a0 x1 x2 (x3 + 1) (x4 ||| ((1 : Int32) <<< (v6 &&& 31))) (x5 ||| ((1 : Int32) <<< (v8 &&& 31))) (x6 ||| ((1 : Int32) <<< (v11 &&& 31))) x7) else f_X12_hall_b152 (f_X12_hall_b65 n) a0 x1 x2 x3 x4 x5 x6 x7
def f_X12_hall_b41 (a0 : Nat) (x1 : Int32) (x2 : Int32) (xs0 : Int32) (as1 : Nat) : Mo Int32 := bd (cv 12 as1 (f_X12_bad as1 xs0 2 1)) fun v12 => if (v12 = 0 : Prop) then (f_X12_hall_b65 NF a0 x1 x2 0 0 0 0 0) else pu 0
def f_X12_hall_b18 (a0 : Nat) (x1 : Int32) (x2 : Int32) (xs0 : Int32) (as1 : Nat) : Mo Int32 := bd (cv 12 as1 (f_X12_bad as1 xs0 1 0)) fun v13 => if (v13 = 0 : Prop) then (bd (f_X12_in x2 0 3) fun v14 => if (v14 = 0 : Prop) then (f_X12_hall_b41 a0 x1 x2 1 a0) else f_X12_hall_b41 a0 x1 x2 0 a0) else pu 0
def f_X12_hall (a0 : Nat) (x1 : Int32) (x2 : Int32) : Mo Int32 := bd (pf 12 0 a0 (.int 0)) fun _ => bd (f_X12_isHall x1) fun v15 => if (v15 = 0 : Prop) then (f_X12_hall_b18 a0 x1 x2 1 a0) else f_X12_hall_b18 a0 x1 x2 0 a0
set_option maxRecDepth 20000 in
theorem h_X12_hall_b152 (g : GW) (k65 : Nat → Int32 → Int32 → Int32 → Int32 → Int32 → Int32 → Int32 → Mo Int32) (hk65 : ∀ a0 x1 x2 x3 x4 x5 x6 x7, V g mX12_hall 10 rtI 65 [(0, rf g a0), (1, .int x1), (2, .int x2), (3, .int x3), (4, .int x4), (5, .int x5), (6, .int x6), (7, .int x7)] [] (k65 a0 x1 x2 x3 x4 x5 x6 x7)) (a0 : Nat) (x1 : Int32) (x2 : Int32) (x3 : Int32) (x4 : Int32) (x5 : Int32) (x6 : Int32) (x7 : Int32) : V g mX12_hall 10 rtI 152 [(0, rf g a0), (1, .int x1), (2, .int x2), (3, .int x3), (4, .int x4), (5, .int x5), (6, .int x6), (7, .int x7)] [] (f_X12_hall_b152 k65 a0 x1 x2 x3 x4 x5 x6 x7) := by
  unfold f_X12_hall_b152
  refine v_iinc (v := x7 + 1) (lv' := [(7, .int (x7 + 1)), (0, rf g a0), (1, .int x1), (2, .int x2), (3, .int x3), (4, .int x4), (5, .int x5), (6, .int x6)]) (pc' := 155) 7 dX12_hall_152 rfl rfl (by decide) rfl rfl ?_
  refine v_goto (t := 65) dX12_hall_155 (by decide) ?_
  refine V.sub [1, 2, 3, 4, 5, 6, 7, 0] rfl ?_
  exact hk65 a0 x1 x2 x3 x4 x5 x6 (x7 + 1)
set_option maxRecDepth 20000 in
theorem h_X12_hall_b65 (g : GW) : ∀ n : Nat, ∀ a0 x1 x2 x3 x4 x5 x6 x7, V g mX12_hall 10 rtI 65 [(0, rf g a0), (1, .int x1), (2, .int x2), (3, .int x3), (4, .int x4), (5, .int x5), (6, .int x6), (7, .int x7)] [] (f_X12_hall_b65 n a0 x1 x2 x3 x4 x5 x6 x7) := by
  intro n
  induction n with
  | zero => intro a0 x1 x2 x3 x4 x5 x6 x7; exact V.vain
  | succ n ih =>
    intro a0 x1 x2 x3 x4 x5 x6 x7
    unfold f_X12_hall_b65
    refine v_iload (pc' := 67) 7 dX12_hall_65 rfl rfl ?_
    refine v_aload_n (pc' := 68) 0 dX12_hall_67 rfl rfl rfl ?_
    refine v_getR (pc' := 71) fl_X12_61 dX12_hall_68 rfl fun r1 => ?_
    refine v_bipush (v := 24) (pc' := 73) dX12_hall_71 rfl rfl ?_
    refine v_iald (pc' := 74) dX12_hall_73 rfl fun v2 => ?_
    refine v_icmpge (t := 158) (pc' := 77) dX12_hall_74 (by decide) rfl ?_ ?_
    · refine v_iload_n (pc' := 159) 2 dX12_hall_158 rfl rfl rfl ?_
      refine v_ifne (t := 166) (pc' := 162) dX12_hall_159 (by decide) rfl ?_ ?_
      · refine v_iload_n (pc' := 167) 2 dX12_hall_166 rfl rfl rfl ?_
        refine v_iconst (v := 1) (pc' := 168) dX12_hall_167 rfl rfl ?_
        refine v_icmpne (t := 176) (pc' := 171) dX12_hall_168 (by decide) rfl ?_ ?_
        · refine v_iload_n (pc' := 177) 2 dX12_hall_176 rfl rfl rfl ?_
          refine v_iconst (v := 2) (pc' := 178) dX12_hall_177 rfl rfl ?_
          refine v_icmpne (t := 186) (pc' := 181) dX12_hall_178 (by decide) rfl ?_ ?_
          · refine v_iload (pc' := 188) 6 dX12_hall_186 rfl rfl ?_
            exact v_ireturn rfl dX12_hall_188
          · refine v_iload (pc' := 183) 5 dX12_hall_181 rfl rfl ?_
            refine v_goto (t := 188) dX12_hall_183 (by decide) ?_
            exact v_ireturn rfl dX12_hall_188
        · refine v_iload (pc' := 173) 4 dX12_hall_171 rfl rfl ?_
          refine v_goto (t := 188) dX12_hall_173 (by decide) ?_
          exact v_ireturn rfl dX12_hall_188
      · refine v_iload_n (pc' := 163) 3 dX12_hall_162 rfl rfl rfl ?_
        refine v_goto (t := 188) dX12_hall_163 (by decide) ?_
        exact v_ireturn rfl dX12_hall_188
    · refine v_aload_n (pc' := 78) 0 dX12_hall_77 rfl rfl rfl ?_
      refine v_getR (pc' := 81) fl_X12_61 dX12_hall_78 rfl fun r3 => ?_
      refine v_iload (pc' := 83) 7 dX12_hall_81 rfl rfl ?_
      refine v_iconst (v := 2) (pc' := 84) dX12_hall_83 rfl rfl ?_
      refine v_callS (vs := [rf g r3, .int x7, .int 2]) (pc' := 87) (h_X12_plateOf g r3 x7 2) ms_X12_plateOf wl_X12_263 (Nat.le_of_ble_eq_true rfl) (by omega) (by decide) (Nat.le_of_ble_eq_true rfl) rfl dX12_hall_84 rfl fun v4 => ?_
      refine v_iload_n (pc' := 88) 1 dX12_hall_87 rfl rfl rfl ?_
      refine v_icmpeq (t := 94) (pc' := 91) dX12_hall_88 (by decide) rfl ?_ ?_
      · refine v_iinc (v := x3 + 1) (lv' := [(3, .int (x3 + 1)), (0, rf g a0), (1, .int x1), (2, .int x2), (4, .int x4), (5, .int x5), (6, .int x6), (7, .int x7)]) (pc' := 97) 3 dX12_hall_94 rfl rfl (by decide) rfl rfl ?_
        refine v_iload (pc' := 99) 4 dX12_hall_97 rfl rfl ?_
        refine v_iconst (v := 1) (pc' := 100) dX12_hall_99 rfl rfl ?_
        refine v_aload_n (pc' := 101) 1 dX12_hall_100 rfl rfl rfl ?_
        refine v_getR (pc' := 104) fl_X12_61 dX12_hall_101 rfl fun r5 => ?_
        refine v_iload (pc' := 106) 7 dX12_hall_104 rfl rfl ?_
        refine v_iconst (v := 0) (pc' := 107) dX12_hall_106 rfl rfl ?_
        refine v_callS (vs := [rf g r5, .int x7, .int 0]) (pc' := 110) (h_X12_plateOf g r5 x7 0) ms_X12_plateOf wl_X12_263 (Nat.le_of_ble_eq_true rfl) (by omega) (by decide) (Nat.le_of_ble_eq_true rfl) rfl dX12_hall_107 rfl fun v6 => ?_
        refine v_ishl (pc' := 111) dX12_hall_110 rfl ?_
        refine v_ior (pc' := 112) dX12_hall_111 rfl ?_
        refine v_istore (lv' := [(4, .int (x4 ||| ((1 : Int32) <<< (v6 &&& 31)))), (3, .int (x3 + 1)), (0, rf g a0), (1, .int x1), (2, .int x2), (5, .int x5), (6, .int x6), (7, .int x7)]) (pc' := 114) dX12_hall_112 (by decide) rfl rfl ?_
        refine v_iload (pc' := 116) 5 dX12_hall_114 rfl rfl ?_
        refine v_iconst (v := 1) (pc' := 117) dX12_hall_116 rfl rfl ?_
        refine v_aload_n (pc' := 118) 2 dX12_hall_117 rfl rfl rfl ?_
        refine v_getR (pc' := 121) fl_X12_61 dX12_hall_118 rfl fun r7 => ?_
        refine v_iload (pc' := 123) 7 dX12_hall_121 rfl rfl ?_
        refine v_iconst (v := 1) (pc' := 124) dX12_hall_123 rfl rfl ?_
        refine v_callS (vs := [rf g r7, .int x7, .int 1]) (pc' := 127) (h_X12_plateOf g r7 x7 1) ms_X12_plateOf wl_X12_263 (Nat.le_of_ble_eq_true rfl) (by omega) (by decide) (Nat.le_of_ble_eq_true rfl) rfl dX12_hall_124 rfl fun v8 => ?_
        refine v_ishl (pc' := 128) dX12_hall_127 rfl ?_
        refine v_ior (pc' := 129) dX12_hall_128 rfl ?_
        refine v_istore (lv' := [(5, .int (x5 ||| ((1 : Int32) <<< (v8 &&& 31)))), (4, .int (x4 ||| ((1 : Int32) <<< (v6 &&& 31)))), (3, .int (x3 + 1)), (0, rf g a0), (1, .int x1), (2, .int x2), (6, .int x6), (7, .int x7)]) (pc' := 131) dX12_hall_129 (by decide) rfl rfl ?_
        refine v_iload (pc' := 133) 6 dX12_hall_131 rfl rfl ?_
        refine v_iconst (v := 1) (pc' := 134) dX12_hall_133 rfl rfl ?_
        refine v_aload_n (pc' := 135) 3 dX12_hall_134 rfl rfl rfl ?_
        refine v_aload_n (pc' := 136) 3 dX12_hall_135 rfl rfl rfl ?_
        refine v_getR (pc' := 139) fl_X12_61 dX12_hall_136 rfl fun r9 => ?_
        refine v_iload (pc' := 141) 7 dX12_hall_139 rfl rfl ?_
        refine v_iconst (v := 3) (pc' := 142) dX12_hall_141 rfl rfl ?_
        refine v_callS (vs := [rf g r9, .int x7, .int 3]) (pc' := 145) (h_X12_plateOf g r9 x7 3) ms_X12_plateOf wl_X12_263 (Nat.le_of_ble_eq_true rfl) (by omega) (by decide) (Nat.le_of_ble_eq_true rfl) rfl dX12_hall_142 rfl fun v10 => ?_
        refine v_callV (vs := [.int v10]) (pc' := 148) (h_X12_looksOf g a0 v10) mv_X12_looksOf wl_X12_302 rfl (Nat.le_of_ble_eq_true rfl) (by omega) (by decide) (Nat.le_of_ble_eq_true rfl) rfl dX12_hall_145 rfl fun v11 => ?_
        refine v_ishl (pc' := 149) dX12_hall_148 rfl ?_
        refine v_ior (pc' := 150) dX12_hall_149 rfl ?_
        refine v_istore (lv' := [(6, .int (x6 ||| ((1 : Int32) <<< (v11 &&& 31)))), (5, .int (x5 ||| ((1 : Int32) <<< (v8 &&& 31)))), (4, .int (x4 ||| ((1 : Int32) <<< (v6 &&& 31)))), (3, .int (x3 + 1)), (0, rf g a0), (1, .int x1), (2, .int x2), (7, .int x7)]) (pc' := 152) dX12_hall_150 (by decide) rfl rfl ?_
        refine V.sub [4, 5, 6, 3, 2, 1, 0, 7] rfl ?_
        exact h_X12_hall_b152 g (f_X12_hall_b65 n) ih a0 x1 x2 (x3 + 1) (x4 ||| ((1 : Int32) <<< (v6 &&& 31))) (x5 ||| ((1 : Int32) <<< (v8 &&& 31))) (x6 ||| ((1 : Int32) <<< (v11 &&& 31))) x7
      · refine v_goto (t := 152) dX12_hall_91 (by decide) ?_
        refine V.sub [0, 1, 2, 3, 4, 5, 6, 7] rfl ?_
        exact h_X12_hall_b152 g (f_X12_hall_b65 n) ih a0 x1 x2 x3 x4 x5 x6 x7
set_option maxRecDepth 20000 in
theorem h_X12_hall_b41 (g : GW) (a0 : Nat) (x1 : Int32) (x2 : Int32) (xs0 : Int32) (as1 : Nat) : V g mX12_hall 10 rtI 41 [(0, rf g a0), (1, .int x1), (2, .int x2)] [.int xs0, rf g as1] (f_X12_hall_b41 a0 x1 x2 xs0 as1) := by
  unfold f_X12_hall_b41
  refine v_iconst (v := 2) (pc' := 42) dX12_hall_41 rfl rfl ?_
  refine v_iconst (v := 1) (pc' := 43) dX12_hall_42 rfl rfl ?_
  refine v_callV (vs := [.int xs0, .int 2, .int 1]) (pc' := 46) (h_X12_bad g as1 xs0 2 1) mv_X12_bad wl_X12_167 rfl (Nat.le_of_ble_eq_true rfl) (by omega) (by decide) (Nat.le_of_ble_eq_true rfl) rfl dX12_hall_43 rfl fun v12 => ?_
  refine v_ifeq (t := 51) (pc' := 49) dX12_hall_46 (by decide) rfl ?_ ?_
  · refine v_iconst (v := 0) (pc' := 52) dX12_hall_51 rfl rfl ?_
    refine v_istore_n (lv' := [(3, .int 0), (0, rf g a0), (1, .int x1), (2, .int x2)]) (pc' := 53) dX12_hall_52 rfl (by decide) rfl rfl ?_
    refine v_iconst (v := 0) (pc' := 54) dX12_hall_53 rfl rfl ?_
    refine v_istore (lv' := [(4, .int 0), (3, .int 0), (0, rf g a0), (1, .int x1), (2, .int x2)]) (pc' := 56) dX12_hall_54 (by decide) rfl rfl ?_
    refine v_iconst (v := 0) (pc' := 57) dX12_hall_56 rfl rfl ?_
    refine v_istore (lv' := [(5, .int 0), (4, .int 0), (3, .int 0), (0, rf g a0), (1, .int x1), (2, .int x2)]) (pc' := 59) dX12_hall_57 (by decide) rfl rfl ?_
    refine v_iconst (v := 0) (pc' := 60) dX12_hall_59 rfl rfl ?_
    refine v_istore (lv' := [(6, .int 0), (5, .int 0), (4, .int 0), (3, .int 0), (0, rf g a0), (1, .int x1), (2, .int x2)]) (pc' := 62) dX12_hall_60 (by decide) rfl rfl ?_
    refine v_iconst (v := 0) (pc' := 63) dX12_hall_62 rfl rfl ?_
    refine v_istore (lv' := [(7, .int 0), (6, .int 0), (5, .int 0), (4, .int 0), (3, .int 0), (0, rf g a0), (1, .int x1), (2, .int x2)]) (pc' := 65) dX12_hall_63 (by decide) rfl rfl ?_
    refine V.sub [5, 6, 7, 4, 3, 2, 1, 0] rfl ?_
    exact h_X12_hall_b65 g NF a0 x1 x2 0 0 0 0 0
  · refine v_iconst (v := 0) (pc' := 50) dX12_hall_49 rfl rfl ?_
    exact v_ireturn rfl dX12_hall_50
set_option maxRecDepth 20000 in
theorem h_X12_hall_b18 (g : GW) (a0 : Nat) (x1 : Int32) (x2 : Int32) (xs0 : Int32) (as1 : Nat) : V g mX12_hall 10 rtI 18 [(0, rf g a0), (1, .int x1), (2, .int x2)] [.int xs0, rf g as1] (f_X12_hall_b18 a0 x1 x2 xs0 as1) := by
  unfold f_X12_hall_b18
  refine v_iconst (v := 1) (pc' := 19) dX12_hall_18 rfl rfl ?_
  refine v_iconst (v := 0) (pc' := 20) dX12_hall_19 rfl rfl ?_
  refine v_callV (vs := [.int xs0, .int 1, .int 0]) (pc' := 23) (h_X12_bad g as1 xs0 1 0) mv_X12_bad wl_X12_167 rfl (Nat.le_of_ble_eq_true rfl) (by omega) (by decide) (Nat.le_of_ble_eq_true rfl) rfl dX12_hall_20 rfl fun v13 => ?_
  refine v_ifne (t := 49) (pc' := 26) dX12_hall_23 (by decide) rfl ?_ ?_
  · refine v_iconst (v := 0) (pc' := 50) dX12_hall_49 rfl rfl ?_
    exact v_ireturn rfl dX12_hall_50
  · refine v_aload_n (pc' := 27) 0 dX12_hall_26 rfl rfl rfl ?_
    refine v_iload_n (pc' := 28) 2 dX12_hall_27 rfl rfl rfl ?_
    refine v_iconst (v := 0) (pc' := 29) dX12_hall_28 rfl rfl ?_
    refine v_iconst (v := 3) (pc' := 30) dX12_hall_29 rfl rfl ?_
    refine v_callS (vs := [.int x2, .int 0, .int 3]) (pc' := 33) (h_X12_in g x2 0 3) ms_X12_in wl_X12_128 (Nat.le_of_ble_eq_true rfl) (by omega) (by decide) (Nat.le_of_ble_eq_true rfl) rfl dX12_hall_30 rfl fun v14 => ?_
    refine v_ifne (t := 40) (pc' := 36) dX12_hall_33 (by decide) rfl ?_ ?_
    · refine v_iconst (v := 0) (pc' := 41) dX12_hall_40 rfl rfl ?_
      refine V.sub [0, 1, 2] rfl ?_
      exact h_X12_hall_b41 g a0 x1 x2 0 a0
    · refine v_iconst (v := 1) (pc' := 37) dX12_hall_36 rfl rfl ?_
      refine v_goto (t := 41) dX12_hall_37 (by decide) ?_
      refine V.sub [0, 1, 2] rfl ?_
      exact h_X12_hall_b41 g a0 x1 x2 1 a0
set_option maxRecDepth 20000 in
theorem h_X12_hall (g : GW) (a0 : Nat) (x1 : Int32) (x2 : Int32) : V g mX12_hall 10 rtI 0 [(0, rf g a0), (1, .int x1), (2, .int x2)] [] (f_X12_hall a0 x1 x2) := by
  unfold f_X12_hall
  refine v_aload_n (pc' := 1) 0 dX12_hall_0 rfl rfl rfl ?_
  refine v_iconst (v := 0) (pc' := 2) dX12_hall_1 rfl rfl ?_
  refine v_put (v := (.int 0)) (v' := .int 0) (pc' := 5) fw_X12_94 rfl rfl rfl (fun h => nomatch h) dX12_hall_2 rfl ?_
  refine v_aload_n (pc' := 6) 0 dX12_hall_5 rfl rfl rfl ?_
  refine v_iload_n (pc' := 7) 1 dX12_hall_6 rfl rfl rfl ?_
  refine v_callS (vs := [.int x1]) (pc' := 10) (h_X12_isHall g x1) ms_X12_isHall wl_X12_305 (Nat.le_of_ble_eq_true rfl) (by omega) (by decide) (Nat.le_of_ble_eq_true rfl) rfl dX12_hall_7 rfl fun v15 => ?_
  refine v_ifne (t := 17) (pc' := 13) dX12_hall_10 (by decide) rfl ?_ ?_
  · refine v_iconst (v := 0) (pc' := 18) dX12_hall_17 rfl rfl ?_
    refine V.sub [0, 1, 2] rfl ?_
    exact h_X12_hall_b18 g a0 x1 x2 0 a0
  · refine v_iconst (v := 1) (pc' := 14) dX12_hall_13 rfl rfl ?_
    refine v_goto (t := 18) dX12_hall_14 (by decide) ?_
    refine V.sub [0, 1, 2] rfl ?_
    exact h_X12_hall_b18 g a0 x1 x2 1 a0
-- shown
def f_X12_shown_b34 (a0 : Nat) (x1 : Int32) (x2 : Int32) (x3 : Int32) (xs0 : Int32) (as1 : Nat) : Mo Int32 := bd (cv 12 as1 (f_X12_bad as1 xs0 1 0)) fun v1 => if (v1 = 0 : Prop) then (bd (gR 12 27 a0) fun r2 => bd (cv 12 a0 (f_X12_shownBy a0 r2 x1 x2 x3)) fun v3 => pu v3) else pu 0
def f_X12_shown_b29 (a0 : Nat) (x1 : Int32) (x2 : Int32) (x3 : Int32) (as0 : Nat) : Mo Int32 := f_X12_shown_b34 a0 x1 x2 x3 1 as0
def f_X12_shown (a0 : Nat) (x1 : Int32) (x2 : Int32) (x3 : Int32) : Mo Int32 := bd (pf 12 0 a0 (.int 0)) fun _ => bd (cv 12 a0 (f_X12_isPerson a0 x1)) fun v4 => if (v4 = 0 : Prop) then (f_X12_shown_b29 a0 x1 x2 x3 a0) else bd (cv 12 a0 (f_X12_isPerson a0 x2)) fun v5 => if (v5 = 0 : Prop) then (f_X12_shown_b29 a0 x1 x2 x3 a0) else bd (f_X12_isHall x3) fun v6 => if (v6 = 0 : Prop) then (f_X12_shown_b29 a0 x1 x2 x3 a0) else f_X12_shown_b34 a0 x1 x2 x3 0 a0
set_option maxRecDepth 20000 in
theorem h_X12_shown_b34 (g : GW) (a0 : Nat) (x1 : Int32) (x2 : Int32) (x3 : Int32) (xs0 : Int32) (as1 : Nat) : V g mX12_shown 12 rtI 34 [(0, rf g a0), (1, .int x1), (2, .int x2), (3, .int x3)] [.int xs0, rf g as1] (f_X12_shown_b34 a0 x1 x2 x3 xs0 as1) := by
  unfold f_X12_shown_b34
  refine v_iconst (v := 1) (pc' := 35) dX12_shown_34 rfl rfl ?_
  refine v_iconst (v := 0) (pc' := 36) dX12_shown_35 rfl rfl ?_
  refine v_callV (vs := [.int xs0, .int 1, .int 0]) (pc' := 39) (h_X12_bad g as1 xs0 1 0) mv_X12_bad wl_X12_167 rfl (Nat.le_of_ble_eq_true rfl) (by omega) (by decide) (Nat.le_of_ble_eq_true rfl) rfl dX12_shown_36 rfl fun v1 => ?_
  refine v_ifeq (t := 44) (pc' := 42) dX12_shown_39 (by decide) rfl ?_ ?_
  · refine v_aload_n (pc' := 45) 0 dX12_shown_44 rfl rfl rfl ?_
    refine v_aload_n (pc' := 46) 0 dX12_shown_45 rfl rfl rfl ?_
    refine v_getR (pc' := 49) fl_X12_61 dX12_shown_46 rfl fun r2 => ?_
    refine v_iload_n (pc' := 50) 1 dX12_shown_49 rfl rfl rfl ?_
    refine v_iload_n (pc' := 51) 2 dX12_shown_50 rfl rfl rfl ?_
    refine v_iload_n (pc' := 52) 3 dX12_shown_51 rfl rfl rfl ?_
    refine v_callV (vs := [rf g r2, .int x1, .int x2, .int x3]) (pc' := 55) (h_X12_shownBy g a0 r2 x1 x2 x3) mv_X12_shownBy wl_X12_259 rfl (Nat.le_of_ble_eq_true rfl) (by omega) (by decide) (Nat.le_of_ble_eq_true rfl) rfl dX12_shown_52 rfl fun v3 => ?_
    exact v_ireturn rfl dX12_shown_55
  · refine v_iconst (v := 0) (pc' := 43) dX12_shown_42 rfl rfl ?_
    exact v_ireturn rfl dX12_shown_43
set_option maxRecDepth 20000 in
theorem h_X12_shown_b29 (g : GW) (a0 : Nat) (x1 : Int32) (x2 : Int32) (x3 : Int32) (as0 : Nat) : V g mX12_shown 12 rtI 29 [(0, rf g a0), (1, .int x1), (2, .int x2), (3, .int x3)] [rf g as0] (f_X12_shown_b29 a0 x1 x2 x3 as0) := by
  unfold f_X12_shown_b29
  refine v_iconst (v := 1) (pc' := 30) dX12_shown_29 rfl rfl ?_
  refine v_goto (t := 34) dX12_shown_30 (by decide) ?_
  refine V.sub [0, 1, 2, 3] rfl ?_
  exact h_X12_shown_b34 g a0 x1 x2 x3 1 as0
set_option maxRecDepth 20000 in
theorem h_X12_shown (g : GW) (a0 : Nat) (x1 : Int32) (x2 : Int32) (x3 : Int32) : V g mX12_shown 12 rtI 0 [(0, rf g a0), (1, .int x1), (2, .int x2), (3, .int x3)] [] (f_X12_shown a0 x1 x2 x3) := by
  unfold f_X12_shown
  refine v_aload_n (pc' := 1) 0 dX12_shown_0 rfl rfl rfl ?_
  refine v_iconst (v := 0) (pc' := 2) dX12_shown_1 rfl rfl ?_
  refine v_put (v := (.int 0)) (v' := .int 0) (pc' := 5) fw_X12_94 rfl rfl rfl (fun h => nomatch h) dX12_shown_2 rfl ?_
  refine v_aload_n (pc' := 6) 0 dX12_shown_5 rfl rfl rfl ?_
  refine v_aload_n (pc' := 7) 0 dX12_shown_6 rfl rfl rfl ?_
  refine v_iload_n (pc' := 8) 1 dX12_shown_7 rfl rfl rfl ?_
  refine v_callV (vs := [.int x1]) (pc' := 11) (h_X12_isPerson g a0 x1) mv_X12_isPerson wl_X12_296 rfl (Nat.le_of_ble_eq_true rfl) (by omega) (by decide) (Nat.le_of_ble_eq_true rfl) rfl dX12_shown_8 rfl fun v4 => ?_
  refine v_ifeq (t := 29) (pc' := 14) dX12_shown_11 (by decide) rfl ?_ ?_
  · refine V.sub [0, 1, 2, 3] rfl ?_
    exact h_X12_shown_b29 g a0 x1 x2 x3 a0
  · refine v_aload_n (pc' := 15) 0 dX12_shown_14 rfl rfl rfl ?_
    refine v_iload_n (pc' := 16) 2 dX12_shown_15 rfl rfl rfl ?_
    refine v_callV (vs := [.int x2]) (pc' := 19) (h_X12_isPerson g a0 x2) mv_X12_isPerson wl_X12_296 rfl (Nat.le_of_ble_eq_true rfl) (by omega) (by decide) (Nat.le_of_ble_eq_true rfl) rfl dX12_shown_16 rfl fun v5 => ?_
    refine v_ifeq (t := 29) (pc' := 22) dX12_shown_19 (by decide) rfl ?_ ?_
    · refine V.sub [0, 1, 2, 3] rfl ?_
      exact h_X12_shown_b29 g a0 x1 x2 x3 a0
    · refine v_iload_n (pc' := 23) 3 dX12_shown_22 rfl rfl rfl ?_
      refine v_callS (vs := [.int x3]) (pc' := 26) (h_X12_isHall g x3) ms_X12_isHall wl_X12_305 (Nat.le_of_ble_eq_true rfl) (by omega) (by decide) (Nat.le_of_ble_eq_true rfl) rfl dX12_shown_23 rfl fun v6 => ?_
      refine v_ifne (t := 33) (pc' := 29) dX12_shown_26 (by decide) rfl ?_ ?_
      · refine v_iconst (v := 0) (pc' := 34) dX12_shown_33 rfl rfl ?_
        refine V.sub [0, 1, 2, 3] rfl ?_
        exact h_X12_shown_b34 g a0 x1 x2 x3 0 a0
      · refine V.sub [0, 1, 2, 3] rfl ?_
        exact h_X12_shown_b29 g a0 x1 x2 x3 a0
