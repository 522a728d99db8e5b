-- <init>
def f_X9_init (a0 : Nat) : Mo Unit := bd (nA 0 30) fun r1 => bd (pf 9 0 a0 (.ref r1)) fun _ => bd (nA 0 30) fun r2 => bd (pf 9 1 a0 (.ref r2)) fun _ => bd (nA 0 30) fun r3 => bd (pf 9 2 a0 (.ref r3)) fun _ => bd (nA 0 30) fun r4 => bd (pf 9 3 a0 (.ref r4)) fun _ => pu ()
set_option maxRecDepth 20000 in
theorem h_X9_init (g : GW) (a0 : Nat) : V g mX9_init 8 rtU 0 [(0, rf g a0)] [] (f_X9_init a0) := by
  unfold f_X9_init
  refine v_aload_n (pc' := 1) 0 dX9_init_0 rfl rfl rfl ?_
  refine v_objInit (pc' := 4) (tg1 143 (by decide +kernel) (by decide +kernel)) wo_inst wo_code (by omega) (Nat.le_of_ble_eq_true rfl) dX9_init_1 rfl ?_
  refine v_aload_n (pc' := 5) 0 dX9_init_4 rfl rfl rfl ?_
  refine v_bipush (v := 30) (pc' := 7) dX9_init_5 rfl rfl ?_
  refine v_newI (pc' := 9) wa_int dX9_init_7 rfl fun r1 => ?_
  refine v_put (v := (.ref r1)) (v' := rf g r1) (pc' := 12) fw_X9_11 rfl rfl rfl (fun _ => rfl) dX9_init_9 rfl ?_
  refine v_aload_n (pc' := 13) 0 dX9_init_12 rfl rfl rfl ?_
  refine v_bipush (v := 30) (pc' := 15) dX9_init_13 rfl rfl ?_
  refine v_newI (pc' := 17) wa_int dX9_init_15 rfl fun r2 => ?_
  refine v_put (v := (.ref r2)) (v' := rf g r2) (pc' := 20) fw_X9_15 rfl rfl rfl (fun _ => rfl) dX9_init_17 rfl ?_
  refine v_aload_n (pc' := 21) 0 dX9_init_20 rfl rfl rfl ?_
  refine v_bipush (v := 30) (pc' := 23) dX9_init_21 rfl rfl ?_
  refine v_newI (pc' := 25) wa_int dX9_init_23 rfl fun r3 => ?_
  refine v_put (v := (.ref r3)) (v' := rf g r3) (pc' := 28) fw_X9_18 rfl rfl rfl (fun _ => rfl) dX9_init_25 rfl ?_
  refine v_aload_n (pc' := 29) 0 dX9_init_28 rfl rfl rfl ?_
  refine v_bipush (v := 30) (pc' := 31) dX9_init_29 rfl rfl ?_
  refine v_newI (pc' := 33) wa_int dX9_init_31 rfl fun r4 => ?_
  refine v_put (v := (.ref r4)) (v' := rf g r4) (pc' := 36) fw_X9_21 rfl rfl rfl (fun _ => rfl) dX9_init_33 rfl ?_
  exact v_return rfl dX9_init_36
-- readAgain
def f_X9_readAgain_b59 (rec : Nat → Nat → Int32 → Int32 → Mo Int32) (a0 : Nat) (x4 : Int32) (xs0 : Int32) : Mo Int32 := bd (gR 9 2 a0) fun r1 => bd (gI 9 4 a0) fun v2 => bd (as_ r1 x4 v2) fun _ => rz xs0
def f_X9_readAgain_b58 (rec : Nat → Nat → Int32 → Int32 → Mo Int32) (a0 : Nat) (x4 : Int32) : Mo Int32 := f_X9_readAgain_b59 rec a0 x4 0
def f_X9_readAgain (rec : Nat → Nat → Int32 → Int32 → Mo Int32) (a0 : Nat) (a1 : Nat) (x2 : Int32) (x3 : Int32) (x4 : Int32) : Mo Int32 := bd (gR 9 1 a0) fun r3 => bd (cv 8 a1 (f_X8_number a1 30)) fun v4 => bd (as_ r3 x4 v4) fun _ => bd (gR 9 1 a0) fun r5 => bd (al 0 r5 x4) fun v6 => if (v6 = (-1) : Prop) then (f_X9_readAgain_b58 rec a0 x4) else bd (cv 8 a1 (f_X8_need a1 91)) fun v7 => if (v7 = 0 : Prop) then (f_X9_readAgain_b58 rec a0 x4) else bd (cv 9 a0 (rec a0 a1 x2 (x3 + (1 : Int32)))) fun v8 => if (v8 = 0 : Prop) then (f_X9_readAgain_b58 rec a0 x4) else bd (cv 8 a1 (f_X8_need a1 93)) fun v9 => if (v9 = 0 : Prop) then (f_X9_readAgain_b58 rec a0 x4) else f_X9_readAgain_b59 rec a0 x4 1
set_option maxRecDepth 20000 in
theorem h_X9_readAgain_b59 (g : GW) (rec : Nat → Nat → Int32 → Int32 → Mo Int32) (e : Nat) (he : 10 ≤ e) (hrec : ∀ a0 a1 x2 x3, V g mX9_readSteps e rtI 0 [(0, rf g a0), (1, rf g a1), (2, .int x2), (3, .int x3)] [] (rec a0 a1 x2 x3)) (a0 : Nat) (x4 : Int32) (xs0 : Int32) : V g mX9_readAgain (e + 1) rtI 59 [(0, rf g a0), (4, .int x4)] [.int xs0] (f_X9_readAgain_b59 rec a0 x4 xs0) := by
  unfold f_X9_readAgain_b59
  refine v_istore (lv' := [(5, .int xs0), (0, rf g a0), (4, .int x4)]) (pc' := 61) dX9_readAgain_59 (by decide) rfl rfl ?_
  refine v_aload_n (pc' := 62) 1 dX9_readAgain_61 rfl rfl rfl ?_
  refine v_getR (pc' := 65) fl_X9_18 dX9_readAgain_62 rfl fun r1 => ?_
  refine v_iload (pc' := 67) 2 dX9_readAgain_65 rfl rfl ?_
  refine v_aload_n (pc' := 68) 1 dX9_readAgain_67 rfl rfl rfl ?_
  refine v_getI (pc' := 71) fl_X9_24 dX9_readAgain_68 rfl fun v2 => ?_
  refine v_iast (pc' := 72) dX9_readAgain_71 rfl ?_
  refine v_iload (pc' := 74) 0 dX9_readAgain_72 rfl rfl ?_
  exact v_zretV rfl dX9_readAgain_74
set_option maxRecDepth 20000 in
theorem h_X9_readAgain_b58 (g : GW) (rec : Nat → Nat → Int32 → Int32 → Mo Int32) (e : Nat) (he : 10 ≤ e) (hrec : ∀ a0 a1 x2 x3, V g mX9_readSteps e rtI 0 [(0, rf g a0), (1, rf g a1), (2, .int x2), (3, .int x3)] [] (rec a0 a1 x2 x3)) (a0 : Nat) (x4 : Int32) : V g mX9_readAgain (e + 1) rtI 58 [(0, rf g a0), (4, .int x4)] [] (f_X9_readAgain_b58 rec a0 x4) := by
  unfold f_X9_readAgain_b58
  refine v_iconst (v := 0) (pc' := 59) dX9_readAgain_58 rfl rfl ?_
  refine V.sub [0, 1] rfl ?_
  exact h_X9_readAgain_b59 g rec e he hrec a0 x4 0
set_option maxRecDepth 20000 in
theorem h_X9_readAgain (g : GW) (rec : Nat → Nat → Int32 → Int32 → Mo Int32) (e : Nat) (he : 10 ≤ e) (hrec : ∀ a0 a1 x2 x3, V g mX9_readSteps e rtI 0 [(0, rf g a0), (1, rf g a1), (2, .int x2), (3, .int x3)] [] (rec a0 a1 x2 x3)) (a0 : Nat) (a1 : Nat) (x2 : Int32) (x3 : Int32) (x4 : Int32) : V g mX9_readAgain (e + 1) rtI 0 [(0, rf g a0), (1, rf g a1), (2, .int x2), (3, .int x3), (4, .int x4)] [] (f_X9_readAgain rec a0 a1 x2 x3 x4) := by
  unfold f_X9_readAgain
  refine v_aload_n (pc' := 1) 0 dX9_readAgain_0 rfl rfl rfl ?_
  refine v_getR (pc' := 4) fl_X9_15 dX9_readAgain_1 rfl fun r3 => ?_
  refine v_iload (pc' := 6) 4 dX9_readAgain_4 rfl rfl ?_
  refine v_aload_n (pc' := 7) 1 dX9_readAgain_6 rfl rfl rfl ?_
  refine v_bipush (v := 30) (pc' := 9) dX9_readAgain_7 rfl rfl ?_
  refine v_callV (vs := [.int 30]) (pc' := 12) (h_X8_number g a1 30) mv_X8_number wl_X9_81 rfl (Nat.le_of_ble_eq_true rfl) (by omega) (by decide) (Nat.le_of_ble_eq_true rfl) rfl dX9_readAgain_9 rfl fun v4 => ?_
  refine v_iast (pc' := 13) dX9_readAgain_12 rfl ?_
  refine v_aload_n (pc' := 14) 0 dX9_readAgain_13 rfl rfl rfl ?_
  refine v_getR (pc' := 17) fl_X9_15 dX9_readAgain_14 rfl fun r5 => ?_
  refine v_iload (pc' := 19) 4 dX9_readAgain_17 rfl rfl ?_
  refine v_iald (pc' := 20) dX9_readAgain_19 rfl fun v6 => ?_
  refine v_iconst (v := -1) (pc' := 21) dX9_readAgain_20 rfl rfl ?_
  refine v_icmpeq (t := 58) (pc' := 24) dX9_readAgain_21 (by decide) rfl ?_ ?_
  · refine V.sub [0, 4] rfl ?_
    exact h_X9_readAgain_b58 g rec e he hrec a0 x4
  · refine v_aload_n (pc' := 25) 1 dX9_readAgain_24 rfl rfl rfl ?_
    refine v_bipush (v := 91) (pc' := 27) dX9_readAgain_25 rfl rfl ?_
    refine v_callV (vs := [.int 91]) (pc' := 30) (h_X8_need g a1 91) mv_X8_need wl_X9_78 rfl (Nat.le_of_ble_eq_true rfl) (by omega) (by decide) (Nat.le_of_ble_eq_true rfl) rfl dX9_readAgain_27 rfl fun v7 => ?_
    refine v_ifeq (t := 58) (pc' := 33) dX9_readAgain_30 (by decide) rfl ?_ ?_
    · refine V.sub [0, 4] rfl ?_
      exact h_X9_readAgain_b58 g rec e he hrec a0 x4
    · refine v_aload_n (pc' := 34) 0 dX9_readAgain_33 rfl rfl rfl ?_
      refine v_aload_n (pc' := 35) 1 dX9_readAgain_34 rfl rfl rfl ?_
      refine v_iload_n (pc' := 36) 2 dX9_readAgain_35 rfl rfl rfl ?_
      refine v_iload_n (pc' := 37) 3 dX9_readAgain_36 rfl rfl rfl ?_
      refine v_iconst (v := 1) (pc' := 38) dX9_readAgain_37 rfl rfl ?_
      refine v_iadd (pc' := 39) dX9_readAgain_38 rfl ?_
      refine v_callV (vs := [rf g a1, .int x2, .int (x3 + (1 : Int32))]) (pc' := 42) (hrec a0 a1 x2 (x3 + (1 : Int32))) mv_X9_readSteps wl_X9_37 rfl (Nat.le_of_ble_eq_true rfl) (by omega) (by decide) (Nat.le_of_ble_eq_true rfl) rfl dX9_readAgain_39 rfl fun v8 => ?_
      refine v_ifeq (t := 58) (pc' := 45) dX9_readAgain_42 (by decide) rfl ?_ ?_
      · refine V.sub [0, 4] rfl ?_
        exact h_X9_readAgain_b58 g rec e he hrec a0 x4
      · refine v_aload_n (pc' := 46) 1 dX9_readAgain_45 rfl rfl rfl ?_
        refine v_bipush (v := 93) (pc' := 48) dX9_readAgain_46 rfl rfl ?_
        refine v_callV (vs := [.int 93]) (pc' := 51) (h_X8_need g a1 93) mv_X8_need wl_X9_78 rfl (Nat.le_of_ble_eq_true rfl) (by omega) (by decide) (Nat.le_of_ble_eq_true rfl) rfl dX9_readAgain_48 rfl fun v9 => ?_
        refine v_ifeq (t := 58) (pc' := 54) dX9_readAgain_51 (by decide) rfl ?_ ?_
        · refine V.sub [0, 4] rfl ?_
          exact h_X9_readAgain_b58 g rec e he hrec a0 x4
        · refine v_iconst (v := 1) (pc' := 55) dX9_readAgain_54 rfl rfl ?_
          refine v_goto (t := 59) dX9_readAgain_55 (by decide) ?_
          refine V.sub [0, 4] rfl ?_
          exact h_X9_readAgain_b59 g rec e he hrec a0 x4 1
-- readNumbers
def f_X9_readNumbers_b96 (a0 : Nat) (x3 : Int32) (xs0 : Int32) (xs1 : Int32) (as2 : Nat) : Mo Int32 := bd (as_ as2 xs1 xs0) fun _ => bd (gR 9 3 a0) fun r1 => bd (al 0 r1 x3) fun v2 => if (v2 = (-1) : Prop) then (pu 0) else pu 1
def f_X9_readNumbers_b71 (a0 : Nat) (a1 : Nat) (x3 : Int32) (xs0 : Int32) (xs1 : Int32) (as2 : Nat) : Mo Int32 := bd (as_ as2 xs1 xs0) fun _ => bd (gR 9 3 a0) fun r3 => bd (gR 9 2 a0) fun r4 => bd (al 0 r4 x3) fun v5 => if (v5 = (-1) : Prop) then (f_X9_readNumbers_b96 a0 x3 (-1) x3 r3) else bd (cv 8 a1 (f_X8_number a1 5)) fun v6 => f_X9_readNumbers_b96 a0 x3 v6 x3 r3
def f_X9_readNumbers_b151 (a0 : Nat) (x3 : Int32) (xs0 : Int32) (xs1 : Int32) (as2 : Nat) : Mo Int32 := bd (as_ as2 xs1 xs0) fun _ => bd (gR 9 2 a0) fun r7 => bd (al 0 r7 x3) fun v8 => if (v8 = (-1) : Prop) then (pu 0) else pu 1
def f_X9_readNumbers (a0 : Nat) (a1 : Nat) (x2 : Int32) (x3 : Int32) : Mo Int32 := bd (gR 9 0 a0) fun r9 => bd (al 0 r9 x3) fun v10 => sw v10 0 [(bd (gR 9 1 a0) fun r11 => bd (cv 8 a1 (f_X8_number a1 (x2 - (1 : Int32)))) fun v12 => bd (as_ r11 x3 v12) fun _ => bd (gR 9 2 a0) fun r13 => bd (gR 9 1 a0) fun r14 => bd (al 0 r14 x3) fun v15 => if (v15 = (-1) : Prop) then (f_X9_readNumbers_b71 a0 a1 x3 (-1) x3 r13) else bd (cv 8 a1 (f_X8_number a1 (x2 - (1 : Int32)))) fun v16 => f_X9_readNumbers_b71 a0 a1 x3 v16 x3 r13), (bd (gR 9 1 a0) fun r17 => bd (cv 8 a1 (f_X8_number a1 (x2 - (1 : Int32)))) fun v18 => bd (as_ r17 x3 v18) fun _ => bd (gR 9 2 a0) fun r19 => bd (gR 9 1 a0) fun r20 => bd (al 0 r20 x3) fun v21 => if (v21 = (-1) : Prop) then (f_X9_readNumbers_b151 a0 x3 (-1) x3 r19) else bd (cv 8 a1 (f_X8_number a1 9)) fun v22 => f_X9_readNumbers_b151 a0 x3 v22 x3 r19), (bd (gR 9 1 a0) fun r23 => bd (cv 8 a1 (f_X8_number a1 5)) fun v24 => bd (as_ r23 x3 v24) fun _ => bd (gR 9 1 a0) fun r25 => bd (al 0 r25 x3) fun v26 => if (v26 = (-1) : Prop) then (pu 0) else pu 1)] (pu 1)
set_option maxRecDepth 20000 in
theorem h_X9_readNumbers_b96 (g : GW) (a0 : Nat) (x3 : Int32) (xs0 : Int32) (xs1 : Int32) (as2 : Nat) : V g mX9_readNumbers 10 rtI 96 [(0, rf g a0), (3, .int x3)] [.int xs0, .int xs1, rf g as2] (f_X9_readNumbers_b96 a0 x3 xs0 xs1 as2) := by
  unfold f_X9_readNumbers_b96
  refine v_iast (pc' := 97) dX9_readNumbers_96 rfl ?_
  refine v_aload_n (pc' := 98) 0 dX9_readNumbers_97 rfl rfl rfl ?_
  refine v_getR (pc' := 101) fl_X9_21 dX9_readNumbers_98 rfl fun r1 => ?_
  refine v_iload_n (pc' := 102) 1 dX9_readNumbers_101 rfl rfl rfl ?_
  refine v_iald (pc' := 103) dX9_readNumbers_102 rfl fun v2 => ?_
  refine v_iconst (v := -1) (pc' := 104) dX9_readNumbers_103 rfl rfl ?_
  refine v_icmpeq (t := 111) (pc' := 107) dX9_readNumbers_104 (by decide) rfl ?_ ?_
  · refine v_iconst (v := 0) (pc' := 112) dX9_readNumbers_111 rfl rfl ?_
    exact v_zret rfl rfl dX9_readNumbers_112
  · refine v_iconst (v := 1) (pc' := 108) dX9_readNumbers_107 rfl rfl ?_
    refine v_goto (t := 112) dX9_readNumbers_108 (by decide) ?_
    exact v_zret rfl rfl dX9_readNumbers_112
set_option maxRecDepth 20000 in
theorem h_X9_readNumbers_b71 (g : GW) (a0 : Nat) (a1 : Nat) (x3 : Int32) (xs0 : Int32) (xs1 : Int32) (as2 : Nat) : V g mX9_readNumbers 10 rtI 71 [(0, rf g a0), (1, rf g a1), (3, .int x3)] [.int xs0, .int xs1, rf g as2] (f_X9_readNumbers_b71 a0 a1 x3 xs0 xs1 as2) := by
  unfold f_X9_readNumbers_b71
  refine v_iast (pc' := 72) dX9_readNumbers_71 rfl ?_
  refine v_aload_n (pc' := 73) 0 dX9_readNumbers_72 rfl rfl rfl ?_
  refine v_getR (pc' := 76) fl_X9_21 dX9_readNumbers_73 rfl fun r3 => ?_
  refine v_iload_n (pc' := 77) 2 dX9_readNumbers_76 rfl rfl rfl ?_
  refine v_aload_n (pc' := 78) 0 dX9_readNumbers_77 rfl rfl rfl ?_
  refine v_getR (pc' := 81) fl_X9_18 dX9_readNumbers_78 rfl fun r4 => ?_
  refine v_iload_n (pc' := 82) 2 dX9_readNumbers_81 rfl rfl rfl ?_
  refine v_iald (pc' := 83) dX9_readNumbers_82 rfl fun v5 => ?_
  refine v_iconst (v := -1) (pc' := 84) dX9_readNumbers_83 rfl rfl ?_
  refine v_icmpne (t := 91) (pc' := 87) dX9_readNumbers_84 (by decide) rfl ?_ ?_
  · refine v_aload_n (pc' := 92) 1 dX9_readNumbers_91 rfl rfl rfl ?_
    refine v_iconst (v := 5) (pc' := 93) dX9_readNumbers_92 rfl rfl ?_
    refine v_callV (vs := [.int 5]) (pc' := 96) (h_X8_number g a1 5) mv_X8_number wl_X9_81 rfl (Nat.le_of_ble_eq_true rfl) (by omega) (by decide) (Nat.le_of_ble_eq_true rfl) rfl dX9_readNumbers_93 rfl fun v6 => ?_
    refine V.sub [0, 2] rfl ?_
    exact h_X9_readNumbers_b96 g a0 x3 v6 x3 r3
  · refine v_iconst (v := -1) (pc' := 88) dX9_readNumbers_87 rfl rfl ?_
    refine v_goto (t := 96) dX9_readNumbers_88 (by decide) ?_
    refine V.sub [0, 2] rfl ?_
    exact h_X9_readNumbers_b96 g a0 x3 (-1) x3 r3
set_option maxRecDepth 20000 in
theorem h_X9_readNumbers_b151 (g : GW) (a0 : Nat) (x3 : Int32) (xs0 : Int32) (xs1 : Int32) (as2 : Nat) : V g mX9_readNumbers 10 rtI 151 [(0, rf g a0), (3, .int x3)] [.int xs0, .int xs1, rf g as2] (f_X9_readNumbers_b151 a0 x3 xs0 xs1 as2) := by
  unfold f_X9_readNumbers_b151
  refine v_iast (pc' := 152) dX9_readNumbers_151 rfl ?_
  refine v_aload_n (pc' := 153) 0 dX9_readNumbers_152 rfl rfl rfl ?_
  refine v_getR (pc' := 156) fl_X9_18 dX9_readNumbers_153 rfl fun r7 => ?_
  refine v_iload_n (pc' := 157) 1 dX9_readNumbers_156 rfl rfl rfl ?_
  refine v_iald (pc' := 158) dX9_readNumbers_157 rfl fun v8 => ?_
  refine v_iconst (v := -1) (pc' := 159) dX9_readNumbers_158 rfl rfl ?_
  refine v_icmpeq (t := 166) (pc' := 162) dX9_readNumbers_159 (by decide) rfl ?_ ?_
  · refine v_iconst (v := 0) (pc' := 167) dX9_readNumbers_166 rfl rfl ?_
    exact v_zret rfl rfl dX9_readNumbers_167
  · refine v_iconst (v := 1) (pc' := 163) dX9_readNumbers_162 rfl rfl ?_
    refine v_goto (t := 167) dX9_readNumbers_163 (by decide) ?_
    exact v_zret rfl rfl dX9_readNumbers_167
set_option maxRecDepth 20000 in
theorem h_X9_readNumbers (g : GW) (a0 : Nat) (a1 : Nat) (x2 : Int32) (x3 : Int32) : V g mX9_readNumbers 10 rtI 0 [(0, rf g a0), (1, rf g a1), (2, .int x2), (3, .int x3)] [] (f_X9_readNumbers a0 a1 x2 x3) := by
  unfold f_X9_readNumbers
  refine v_aload_n (pc' := 1) 0 dX9_readNumbers_0 rfl rfl rfl ?_
  refine v_getR (pc' := 4) fl_X9_11 dX9_readNumbers_1 rfl fun r9 => ?_
  refine v_iload_n (pc' := 5) 3 dX9_readNumbers_4 rfl rfl rfl ?_
  refine v_iald (pc' := 6) dX9_readNumbers_5 rfl fun v10 => ?_
  refine v_table (td := 195) dX9_readNumbers_6 rfl (by decide) ⟨⟨32, by decide, ?_⟩, ⟨113, by decide, ?_⟩, ⟨168, by decide, ?_⟩, trivial⟩ ?_
  · refine v_aload_n (pc' := 33) 0 dX9_readNumbers_32 rfl rfl rfl ?_
    refine v_getR (pc' := 36) fl_X9_15 dX9_readNumbers_33 rfl fun r11 => ?_
    refine v_iload_n (pc' := 37) 3 dX9_readNumbers_36 rfl rfl rfl ?_
    refine v_aload_n (pc' := 38) 1 dX9_readNumbers_37 rfl rfl rfl ?_
    refine v_iload_n (pc' := 39) 2 dX9_readNumbers_38 rfl rfl rfl ?_
    refine v_iconst (v := 1) (pc' := 40) dX9_readNumbers_39 rfl rfl ?_
    refine v_isub (pc' := 41) dX9_readNumbers_40 rfl ?_
    refine v_callV (vs := [.int (x2 - (1 : Int32))]) (pc' := 44) (h_X8_number g a1 (x2 - (1 : Int32))) mv_X8_number wl_X9_81 rfl (Nat.le_of_ble_eq_true rfl) (by omega) (by decide) (Nat.le_of_ble_eq_true rfl) rfl dX9_readNumbers_41 rfl fun v12 => ?_
    refine v_iast (pc' := 45) dX9_readNumbers_44 rfl ?_
    refine v_aload_n (pc' := 46) 0 dX9_readNumbers_45 rfl rfl rfl ?_
    refine v_getR (pc' := 49) fl_X9_18 dX9_readNumbers_46 rfl fun r13 => ?_
    refine v_iload_n (pc' := 50) 3 dX9_readNumbers_49 rfl rfl rfl ?_
    refine v_aload_n (pc' := 51) 0 dX9_readNumbers_50 rfl rfl rfl ?_
    refine v_getR (pc' := 54) fl_X9_15 dX9_readNumbers_51 rfl fun r14 => ?_
    refine v_iload_n (pc' := 55) 3 dX9_readNumbers_54 rfl rfl rfl ?_
    refine v_iald (pc' := 56) dX9_readNumbers_55 rfl fun v15 => ?_
    refine v_iconst (v := -1) (pc' := 57) dX9_readNumbers_56 rfl rfl ?_
    refine v_icmpne (t := 64) (pc' := 60) dX9_readNumbers_57 (by decide) rfl ?_ ?_
    · refine v_aload_n (pc' := 65) 1 dX9_readNumbers_64 rfl rfl rfl ?_
      refine v_iload_n (pc' := 66) 2 dX9_readNumbers_65 rfl rfl rfl ?_
      refine v_iconst (v := 1) (pc' := 67) dX9_readNumbers_66 rfl rfl ?_
      refine v_isub (pc' := 68) dX9_readNumbers_67 rfl ?_
      refine v_callV (vs := [.int (x2 - (1 : Int32))]) (pc' := 71) (h_X8_number g a1 (x2 - (1 : Int32))) mv_X8_number wl_X9_81 rfl (Nat.le_of_ble_eq_true rfl) (by omega) (by decide) (Nat.le_of_ble_eq_true rfl) rfl dX9_readNumbers_68 rfl fun v16 => ?_
      refine V.sub [0, 1, 3] rfl ?_
      exact h_X9_readNumbers_b71 g a0 a1 x3 v16 x3 r13
    · refine v_iconst (v := -1) (pc' := 61) dX9_readNumbers_60 rfl rfl ?_
      refine v_goto (t := 71) dX9_readNumbers_61 (by decide) ?_
      refine V.sub [0, 1, 3] rfl ?_
      exact h_X9_readNumbers_b71 g a0 a1 x3 (-1) x3 r13
  · refine v_aload_n (pc' := 114) 0 dX9_readNumbers_113 rfl rfl rfl ?_
    refine v_getR (pc' := 117) fl_X9_15 dX9_readNumbers_114 rfl fun r17 => ?_
    refine v_iload_n (pc' := 118) 3 dX9_readNumbers_117 rfl rfl rfl ?_
    refine v_aload_n (pc' := 119) 1 dX9_readNumbers_118 rfl rfl rfl ?_
    refine v_iload_n (pc' := 120) 2 dX9_readNumbers_119 rfl rfl rfl ?_
    refine v_iconst (v := 1) (pc' := 121) dX9_readNumbers_120 rfl rfl ?_
    refine v_isub (pc' := 122) dX9_readNumbers_121 rfl ?_
    refine v_callV (vs := [.int (x2 - (1 : Int32))]) (pc' := 125) (h_X8_number g a1 (x2 - (1 : Int32))) mv_X8_number wl_X9_81 rfl (Nat.le_of_ble_eq_true rfl) (by omega) (by decide) (Nat.le_of_ble_eq_true rfl) rfl dX9_readNumbers_122 rfl fun v18 => ?_
    refine v_iast (pc' := 126) dX9_readNumbers_125 rfl ?_
    refine v_aload_n (pc' := 127) 0 dX9_readNumbers_126 rfl rfl rfl ?_
    refine v_getR (pc' := 130) fl_X9_18 dX9_readNumbers_127 rfl fun r19 => ?_
    refine v_iload_n (pc' := 131) 3 dX9_readNumbers_130 rfl rfl rfl ?_
    refine v_aload_n (pc' := 132) 0 dX9_readNumbers_131 rfl rfl rfl ?_
    refine v_getR (pc' := 135) fl_X9_15 dX9_readNumbers_132 rfl fun r20 => ?_
    refine v_iload_n (pc' := 136) 3 dX9_readNumbers_135 rfl rfl rfl ?_
    refine v_iald (pc' := 137) dX9_readNumbers_136 rfl fun v21 => ?_
    refine v_iconst (v := -1) (pc' := 138) dX9_readNumbers_137 rfl rfl ?_
    refine v_icmpne (t := 145) (pc' := 141) dX9_readNumbers_138 (by decide) rfl ?_ ?_
    · refine v_aload_n (pc' := 146) 1 dX9_readNumbers_145 rfl rfl rfl ?_
      refine v_bipush (v := 9) (pc' := 148) dX9_readNumbers_146 rfl rfl ?_
      refine v_callV (vs := [.int 9]) (pc' := 151) (h_X8_number g a1 9) mv_X8_number wl_X9_81 rfl (Nat.le_of_ble_eq_true rfl) (by omega) (by decide) (Nat.le_of_ble_eq_true rfl) rfl dX9_readNumbers_148 rfl fun v22 => ?_
      refine V.sub [0, 3] rfl ?_
      exact h_X9_readNumbers_b151 g a0 x3 v22 x3 r19
    · refine v_iconst (v := -1) (pc' := 142) dX9_readNumbers_141 rfl rfl ?_
      refine v_goto (t := 151) dX9_readNumbers_142 (by decide) ?_
      refine V.sub [0, 3] rfl ?_
      exact h_X9_readNumbers_b151 g a0 x3 (-1) x3 r19
  · refine v_aload_n (pc' := 169) 0 dX9_readNumbers_168 rfl rfl rfl ?_
    refine v_getR (pc' := 172) fl_X9_15 dX9_readNumbers_169 rfl fun r23 => ?_
    refine v_iload_n (pc' := 173) 3 dX9_readNumbers_172 rfl rfl rfl ?_
    refine v_aload_n (pc' := 174) 1 dX9_readNumbers_173 rfl rfl rfl ?_
    refine v_iconst (v := 5) (pc' := 175) dX9_readNumbers_174 rfl rfl ?_
    refine v_callV (vs := [.int 5]) (pc' := 178) (h_X8_number g a1 5) mv_X8_number wl_X9_81 rfl (Nat.le_of_ble_eq_true rfl) (by omega) (by decide) (Nat.le_of_ble_eq_true rfl) rfl dX9_readNumbers_175 rfl fun v24 => ?_
    refine v_iast (pc' := 179) dX9_readNumbers_178 rfl ?_
    refine v_aload_n (pc' := 180) 0 dX9_readNumbers_179 rfl rfl rfl ?_
    refine v_getR (pc' := 183) fl_X9_15 dX9_readNumbers_180 rfl fun r25 => ?_
    refine v_iload_n (pc' := 184) 3 dX9_readNumbers_183 rfl rfl rfl ?_
    refine v_iald (pc' := 185) dX9_readNumbers_184 rfl fun v26 => ?_
    refine v_iconst (v := -1) (pc' := 186) dX9_readNumbers_185 rfl rfl ?_
    refine v_icmpeq (t := 193) (pc' := 189) dX9_readNumbers_186 (by decide) rfl ?_ ?_
    · refine v_iconst (v := 0) (pc' := 194) dX9_readNumbers_193 rfl rfl ?_
      exact v_zret rfl rfl dX9_readNumbers_194
    · refine v_iconst (v := 1) (pc' := 190) dX9_readNumbers_189 rfl rfl ?_
      refine v_goto (t := 194) dX9_readNumbers_190 (by decide) ?_
      exact v_zret rfl rfl dX9_readNumbers_194
  · refine v_iconst (v := 1) (pc' := 196) dX9_readNumbers_195 rfl rfl ?_
    exact v_zret rfl rfl dX9_readNumbers_196
-- readStep
def f_X9_readStep_b108 (rec : Nat → Nat → Int32 → Int32 → Mo Int32) (a1 : Nat) (xs0 : Int32) : Mo Int32 := if (xs0 = 0 : Prop) then (pu 0) else bd (cv 8 a1 (f_X8_need a1 59)) fun v1 => if (v1 = 0 : Prop) then (pu 0) else pu 1
def f_X9_readStep_b38 (rec : Nat → Nat → Int32 → Int32 → Mo Int32) (a0 : Nat) (a1 : Nat) (x2 : Int32) (x3 : Int32) (x4 : Int32) : Mo Int32 := bd (gI 9 4 a0) fun v2 => if (v2 < 30 : Prop) then (bd (gI 9 4 a0) fun v3 => bd (gR 9 0 a0) fun r4 => bd (as_ r4 v3 x4) fun _ => bd (gI 9 4 a0) fun v5 => bd (pf 9 4 a0 (.int (v5 + (1 : Int32)))) fun _ => if (x4 = 4 : Prop) then (bd (cv 9 a0 (f_X9_readAgain rec a0 a1 x2 x3 v3)) fun v7 => f_X9_readStep_b108 rec a1 v7) else bd (cv 9 a0 (f_X9_readNumbers a0 a1 x2 v3)) fun v6 => f_X9_readStep_b108 rec a1 v6) else bd (gI 8 2 a1) fun v8 => bd (cv 8 a1 (f_X8_fail a1 1 v8)) fun v9 => rz v9
def f_X9_readStep (rec : Nat → Nat → Int32 → Int32 → Mo Int32) (a0 : Nat) (a1 : Nat) (x2 : Int32) (x3 : Int32) : Mo Int32 := bd (cv 8 a1 (f_X8_word a1 2)) fun v10 => if (v10 = (-1) : Prop) then (pu 0) else if (v10 = 4 : Prop) then (if (x3 < 6 : Prop) then (f_X9_readStep_b38 rec a0 a1 x2 x3 v10) else bd (gI 8 4 a1) fun v11 => bd (cv 8 a1 (f_X8_fail a1 3 v11)) fun v12 => rz v12) else f_X9_readStep_b38 rec a0 a1 x2 x3 v10
set_option maxRecDepth 20000 in
theorem h_X9_readStep_b108 (g : GW) (rec : Nat → Nat → Int32 → Int32 → Mo Int32) (e : Nat) (he : 10 ≤ e) (hrec : ∀ a0 a1 x2 x3, V g mX9_readSteps e rtI 0 [(0, rf g a0), (1, rf g a1), (2, .int x2), (3, .int x3)] [] (rec a0 a1 x2 x3)) (a1 : Nat) (xs0 : Int32) : V g mX9_readStep (e + 2) rtI 108 [(1, rf g a1)] [.int xs0] (f_X9_readStep_b108 rec a1 xs0) := by
  unfold f_X9_readStep_b108
  refine v_istore (lv' := [(6, .int xs0), (1, rf g a1)]) (pc' := 110) dX9_readStep_108 (by decide) rfl rfl ?_
  refine v_iload (pc' := 112) 0 dX9_readStep_110 rfl rfl ?_
  refine v_ifeq (t := 128) (pc' := 115) dX9_readStep_112 (by decide) rfl ?_ ?_
  · refine v_iconst (v := 0) (pc' := 129) dX9_readStep_128 rfl rfl ?_
    exact v_zret rfl rfl dX9_readStep_129
  · refine v_aload_n (pc' := 116) 1 dX9_readStep_115 rfl rfl rfl ?_
    refine v_bipush (v := 59) (pc' := 118) dX9_readStep_116 rfl rfl ?_
    refine v_callV (vs := [.int 59]) (pc' := 121) (h_X8_need g a1 59) mv_X8_need wl_X9_78 rfl (Nat.le_of_ble_eq_true rfl) (by omega) (by decide) (Nat.le_of_ble_eq_true rfl) rfl dX9_readStep_118 rfl fun v1 => ?_
    refine v_ifeq (t := 128) (pc' := 124) dX9_readStep_121 (by decide) rfl ?_ ?_
    · refine v_iconst (v := 0) (pc' := 129) dX9_readStep_128 rfl rfl ?_
      exact v_zret rfl rfl dX9_readStep_129
    · refine v_iconst (v := 1) (pc' := 125) dX9_readStep_124 rfl rfl ?_
      refine v_goto (t := 129) dX9_readStep_125 (by decide) ?_
      exact v_zret rfl rfl dX9_readStep_129
set_option maxRecDepth 20000 in
theorem h_X9_readStep_b38 (g : GW) (rec : Nat → Nat → Int32 → Int32 → Mo Int32) (e : Nat) (he : 10 ≤ e) (hrec : ∀ a0 a1 x2 x3, V g mX9_readSteps e rtI 0 [(0, rf g a0), (1, rf g a1), (2, .int x2), (3, .int x3)] [] (rec a0 a1 x2 x3)) (a0 : Nat) (a1 : Nat) (x2 : Int32) (x3 : Int32) (x4 : Int32) : V g mX9_readStep (e + 2) rtI 38 [(0, rf g a0), (1, rf g a1), (2, .int x2), (3, .int x3), (4, .int x4)] [] (f_X9_readStep_b38 rec a0 a1 x2 x3 x4) := by
  unfold f_X9_readStep_b38
  refine v_aload_n (pc' := 39) 0 dX9_readStep_38 rfl rfl rfl ?_
  refine v_getI (pc' := 42) fl_X9_24 dX9_readStep_39 rfl fun v2 => ?_
  refine v_bipush (v := 30) (pc' := 44) dX9_readStep_42 rfl rfl ?_
  refine v_icmplt (t := 57) (pc' := 47) dX9_readStep_44 (by decide) rfl ?_ ?_
  · refine v_aload_n (pc' := 58) 0 dX9_readStep_57 rfl rfl rfl ?_
    refine v_getI (pc' := 61) fl_X9_24 dX9_readStep_58 rfl fun v3 => ?_
    refine v_istore (lv' := [(5, .int v3), (0, rf g a0), (1, rf g a1), (2, .int x2), (3, .int x3), (4, .int x4)]) (pc' := 63) dX9_readStep_61 (by decide) rfl rfl ?_
    refine v_aload_n (pc' := 64) 1 dX9_readStep_63 rfl rfl rfl ?_
    refine v_getR (pc' := 67) fl_X9_11 dX9_readStep_64 rfl fun r4 => ?_
    refine v_iload (pc' := 69) 0 dX9_readStep_67 rfl rfl ?_
    refine v_iload (pc' := 71) 5 dX9_readStep_69 rfl rfl ?_
    refine v_iast (pc' := 72) dX9_readStep_71 rfl ?_
    refine v_aload_n (pc' := 73) 1 dX9_readStep_72 rfl rfl rfl ?_
    refine v_dup (pc' := 74) dX9_readStep_73 rfl rfl ?_
    refine v_getI (pc' := 77) fl_X9_24 dX9_readStep_74 rfl fun v5 => ?_
    refine v_iconst (v := 1) (pc' := 78) dX9_readStep_77 rfl rfl ?_
    refine v_iadd (pc' := 79) dX9_readStep_78 rfl ?_
    refine v_put (v := (.int (v5 + (1 : Int32)))) (v' := .int (v5 + (1 : Int32))) (pc' := 82) fw_X9_24 rfl rfl rfl (fun h => nomatch h) dX9_readStep_79 rfl ?_
    refine v_iload (pc' := 84) 5 dX9_readStep_82 rfl rfl ?_
    refine v_iconst (v := 4) (pc' := 85) dX9_readStep_84 rfl rfl ?_
    refine v_icmpne (t := 100) (pc' := 88) dX9_readStep_85 (by decide) rfl ?_ ?_
    · refine v_aload_n (pc' := 101) 1 dX9_readStep_100 rfl rfl rfl ?_
      refine v_aload_n (pc' := 102) 2 dX9_readStep_101 rfl rfl rfl ?_
      refine v_iload_n (pc' := 103) 3 dX9_readStep_102 rfl rfl rfl ?_
      refine v_iload (pc' := 105) 0 dX9_readStep_103 rfl rfl ?_
      refine v_callV (vs := [rf g a1, .int x2, .int v3]) (pc' := 108) (h_X9_readNumbers g a0 a1 x2 v3) mv_X9_readNumbers wl_X9_75 rfl (Nat.le_of_ble_eq_true rfl) (by omega) (by decide) (Nat.le_of_ble_eq_true rfl) rfl dX9_readStep_105 rfl fun v6 => ?_
      refine V.sub [2] rfl ?_
      exact h_X9_readStep_b108 g rec e he hrec a1 v6
    · refine v_aload_n (pc' := 89) 1 dX9_readStep_88 rfl rfl rfl ?_
      refine v_aload_n (pc' := 90) 2 dX9_readStep_89 rfl rfl rfl ?_
      refine v_iload_n (pc' := 91) 3 dX9_readStep_90 rfl rfl rfl ?_
      refine v_iload_n (pc' := 92) 4 dX9_readStep_91 rfl rfl rfl ?_
      refine v_iload (pc' := 94) 0 dX9_readStep_92 rfl rfl ?_
      refine v_callV (vs := [rf g a1, .int x2, .int x3, .int v3]) (pc' := 97) (h_X9_readAgain g rec e he hrec a0 a1 x2 x3 v3) mv_X9_readAgain wl_X9_71 rfl (Nat.le_of_ble_eq_true rfl) (by omega) (by decide) (Nat.le_of_ble_eq_true rfl) rfl dX9_readStep_94 rfl fun v7 => ?_
      refine v_goto (t := 108) dX9_readStep_97 (by decide) ?_
      refine V.sub [2] rfl ?_
      exact h_X9_readStep_b108 g rec e he hrec a1 v7
  · refine v_aload_n (pc' := 48) 1 dX9_readStep_47 rfl rfl rfl ?_
    refine v_iconst (v := 1) (pc' := 49) dX9_readStep_48 rfl rfl ?_
    refine v_aload_n (pc' := 50) 1 dX9_readStep_49 rfl rfl rfl ?_
    refine v_getI (pc' := 53) fl_X9_70 dX9_readStep_50 rfl fun v8 => ?_
    refine v_callV (vs := [.int 1, .int v8]) (pc' := 56) (h_X8_fail g a1 1 v8) mv_X8_fail wl_X9_57 rfl (Nat.le_of_ble_eq_true rfl) (by omega) (by decide) (Nat.le_of_ble_eq_true rfl) rfl dX9_readStep_53 rfl fun v9 => ?_
    exact v_zretV rfl dX9_readStep_56
set_option maxRecDepth 20000 in
theorem h_X9_readStep (g : GW) (rec : Nat → Nat → Int32 → Int32 → Mo Int32) (e : Nat) (he : 10 ≤ e) (hrec : ∀ a0 a1 x2 x3, V g mX9_readSteps e rtI 0 [(0, rf g a0), (1, rf g a1), (2, .int x2), (3, .int x3)] [] (rec a0 a1 x2 x3)) (a0 : Nat) (a1 : Nat) (x2 : Int32) (x3 : Int32) : V g mX9_readStep (e + 2) rtI 0 [(0, rf g a0), (1, rf g a1), (2, .int x2), (3, .int x3)] [] (f_X9_readStep rec a0 a1 x2 x3) := by
  unfold f_X9_readStep
  refine v_aload_n (pc' := 1) 1 dX9_readStep_0 rfl rfl rfl ?_
  refine v_ldcS (pc' := 3) 2 (fun _ _ h => h.2.2.2.2.1.2.2.1) dX9_readStep_1 rfl ?_
  refine v_callV (vs := [.ref (gK g 2)]) (pc' := 6) (h_X8_word g a1 2) mv_X8_word wl_X9_63 rfl (Nat.le_of_ble_eq_true rfl) (by omega) (by decide) (Nat.le_of_ble_eq_true rfl) rfl dX9_readStep_3 rfl fun v10 => ?_
  refine v_istore (lv' := [(4, .int v10), (0, rf g a0), (1, rf g a1), (2, .int x2), (3, .int x3)]) (pc' := 8) dX9_readStep_6 (by decide) rfl rfl ?_
  refine v_iload (pc' := 10) 0 dX9_readStep_8 rfl rfl ?_
  refine v_iconst (v := -1) (pc' := 11) dX9_readStep_10 rfl rfl ?_
  refine v_icmpne (t := 16) (pc' := 14) dX9_readStep_11 (by decide) rfl ?_ ?_
  · refine v_iload (pc' := 18) 0 dX9_readStep_16 rfl rfl ?_
    refine v_iconst (v := 4) (pc' := 19) dX9_readStep_18 rfl rfl ?_
    refine v_icmpne (t := 38) (pc' := 22) dX9_readStep_19 (by decide) rfl ?_ ?_
    · refine V.sub [1, 2, 3, 4, 0] rfl ?_
      exact h_X9_readStep_b38 g rec e he hrec a0 a1 x2 x3 v10
    · refine v_iload_n (pc' := 23) 4 dX9_readStep_22 rfl rfl rfl ?_
      refine v_bipush (v := 6) (pc' := 25) dX9_readStep_23 rfl rfl ?_
      refine v_icmplt (t := 38) (pc' := 28) dX9_readStep_25 (by decide) rfl ?_ ?_
      · refine V.sub [1, 2, 3, 4, 0] rfl ?_
        exact h_X9_readStep_b38 g rec e he hrec a0 a1 x2 x3 v10
      · refine v_aload_n (pc' := 29) 2 dX9_readStep_28 rfl rfl rfl ?_
        refine v_iconst (v := 3) (pc' := 30) dX9_readStep_29 rfl rfl ?_
        refine v_aload_n (pc' := 31) 2 dX9_readStep_30 rfl rfl rfl ?_
        refine v_getI (pc' := 34) fl_X9_67 dX9_readStep_31 rfl fun v11 => ?_
        refine v_callV (vs := [.int 3, .int v11]) (pc' := 37) (h_X8_fail g a1 3 v11) mv_X8_fail wl_X9_57 rfl (Nat.le_of_ble_eq_true rfl) (by omega) (by decide) (Nat.le_of_ble_eq_true rfl) rfl dX9_readStep_34 rfl fun v12 => ?_
        exact v_zretV rfl dX9_readStep_37
  · refine v_iconst (v := 0) (pc' := 15) dX9_readStep_14 rfl rfl ?_
    exact v_zret rfl rfl dX9_readStep_15
-- readSteps
def f_X9_readSteps_b35 (rec : Nat → Nat → Int32 → Int32 → Mo Int32) (k3 : Nat → Nat → Int32 → Int32 → Int32 → Mo Int32) (a0 : Nat) (a1 : Nat) (x2 : Int32) (x3 : Int32) (x4 : Int32) : Mo Int32 := bd (cv 9 a0 (f_X9_readStep rec a0 a1 x2 x3)) fun v1 => if (v1 = 0 : Prop) then (pu 0) else k3 a0 a1 x2 x3 (x4 + 1)
def f_X9_readSteps_b3 (rec : Nat → Nat → Int32 → Int32 → Mo Int32) : Nat → Nat → Nat → Int32 → Int32 → Int32 → Mo Int32
  | 0, _, _, _, _, _ => fl
  | n + 1, a0, a1, x2, x3, x4 => if (30 < x4 : Prop) then (bd (gI 8 3 a1) fun v2 => bd (cv 8 a1 (f_X8_fail a1 1 v2)) fun v3 => rz v3) else if (x3 ≤ 0 : Prop) then (bd (cv 8 a1 (f_X8_atEnd a1)) fun v4 => if (v4 = 0 : Prop) then (f_X9_readSteps_b35 rec (f_X9_readSteps_b3 rec n) a0 a1 x2 x3 x4) else pu 1) else bd (cv 8 a1 (f_X8_nextIs a1 93)) fun v5 => if (v5 = 0 : Prop) then (f_X9_readSteps_b35 rec (f_X9_readSteps_b3 rec n) a0 a1 x2 x3 x4) else pu 1
def f_X9_readSteps (rec : Nat → Nat → Int32 → Int32 → Mo Int32) (a0 : Nat) (a1 : Nat) (x2 : Int32) (x3 : Int32) : Mo Int32 := f_X9_readSteps_b3 rec NF a0 a1 x2 x3 0
def F_X9_readSteps : Nat → Nat → Nat → Int32 → Int32 → Mo Int32
  | 0, _, _, _, _ => fl
  | D + 1, a0, a1, x2, x3 => f_X9_readSteps (F_X9_readSteps D) a0 a1 x2 x3
set_option maxRecDepth 20000 in
theorem h_X9_readSteps_b35 (g : GW) (rec : Nat → Nat → Int32 → Int32 → Mo Int32) (e : Nat) (he : 10 ≤ e) (hrec : ∀ a0 a1 x2 x3, V g mX9_readSteps e rtI 0 [(0, rf g a0), (1, rf g a1), (2, .int x2), (3, .int x3)] [] (rec a0 a1 x2 x3)) (k3 : Nat → Nat → Int32 → Int32 → Int32 → Mo Int32) (hk3 : ∀ a0 a1 x2 x3 x4, V g mX9_readSteps (e + 3) rtI 3 [(0, rf g a0), (1, rf g a1), (2, .int x2), (3, .int x3), (4, .int x4)] [] (k3 a0 a1 x2 x3 x4)) (a0 : Nat) (a1 : Nat) (x2 : Int32) (x3 : Int32) (x4 : Int32) : V g mX9_readSteps (e + 3) rtI 35 [(0, rf g a0), (1, rf g a1), (2, .int x2), (3, .int x3), (4, .int x4)] [] (f_X9_readSteps_b35 rec k3 a0 a1 x2 x3 x4) := by
  unfold f_X9_readSteps_b35
  refine v_aload_n (pc' := 36) 0 dX9_readSteps_35 rfl rfl rfl ?_
  refine v_aload_n (pc' := 37) 1 dX9_readSteps_36 rfl rfl rfl ?_
  refine v_iload_n (pc' := 38) 2 dX9_readSteps_37 rfl rfl rfl ?_
  refine v_iload_n (pc' := 39) 3 dX9_readSteps_38 rfl rfl rfl ?_
  refine v_callV (vs := [rf g a1, .int x2, .int x3]) (pc' := 42) (h_X9_readStep g rec e he hrec a0 a1 x2 x3) mv_X9_readStep wl_X9_51 rfl (Nat.le_of_ble_eq_true rfl) (by omega) (by decide) (Nat.le_of_ble_eq_true rfl) rfl dX9_readSteps_39 rfl fun v1 => ?_
  refine v_ifne (t := 47) (pc' := 45) dX9_readSteps_42 (by decide) rfl ?_ ?_
  · refine v_iinc (v := x4 + 1) (lv' := [(4, .int (x4 + 1)), (0, rf g a0), (1, rf g a1), (2, .int x2), (3, .int x3)]) (pc' := 50) 4 dX9_readSteps_47 rfl rfl (by decide) rfl rfl ?_
    refine v_goto (t := 3) dX9_readSteps_50 (by decide) ?_
    refine V.sub [1, 2, 3, 4, 0] rfl ?_
    exact hk3 a0 a1 x2 x3 (x4 + 1)
  · refine v_iconst (v := 0) (pc' := 46) dX9_readSteps_45 rfl rfl ?_
    exact v_zret rfl rfl dX9_readSteps_46
set_option maxRecDepth 20000 in
theorem h_X9_readSteps_b3 (g : GW) (rec : Nat → Nat → Int32 → Int32 → Mo Int32) (e : Nat) (he : 10 ≤ e) (hrec : ∀ a0 a1 x2 x3, V g mX9_readSteps e rtI 0 [(0, rf g a0), (1, rf g a1), (2, .int x2), (3, .int x3)] [] (rec a0 a1 x2 x3)) : ∀ n : Nat, ∀ a0 a1 x2 x3 x4, V g mX9_readSteps (e + 3) rtI 3 [(0, rf g a0), (1, rf g a1), (2, .int x2), (3, .int x3), (4, .int x4)] [] (f_X9_readSteps_b3 rec n a0 a1 x2 x3 x4) := by
  intro n
  induction n with
  | zero => intro a0 a1 x2 x3 x4; exact V.vain
  | succ n ih =>
    intro a0 a1 x2 x3 x4
    unfold f_X9_readSteps_b3
    refine v_iload (pc' := 5) 4 dX9_readSteps_3 rfl rfl ?_
    refine v_bipush (v := 30) (pc' := 7) dX9_readSteps_5 rfl rfl ?_
    refine v_icmpgt (t := 53) (pc' := 10) dX9_readSteps_7 (by decide) rfl ?_ ?_
    · refine v_aload_n (pc' := 54) 1 dX9_readSteps_53 rfl rfl rfl ?_
      refine v_iconst (v := 1) (pc' := 55) dX9_readSteps_54 rfl rfl ?_
      refine v_aload_n (pc' := 56) 1 dX9_readSteps_55 rfl rfl rfl ?_
      refine v_getI (pc' := 59) fl_X9_54 dX9_readSteps_56 rfl fun v2 => ?_
      refine v_callV (vs := [.int 1, .int v2]) (pc' := 62) (h_X8_fail g a1 1 v2) mv_X8_fail wl_X9_57 rfl (Nat.le_of_ble_eq_true rfl) (by omega) (by decide) (Nat.le_of_ble_eq_true rfl) rfl dX9_readSteps_59 rfl fun v3 => ?_
      exact v_zretV rfl dX9_readSteps_62
    · refine v_iload_n (pc' := 11) 3 dX9_readSteps_10 rfl rfl rfl ?_
      refine v_ifle (t := 26) (pc' := 14) dX9_readSteps_11 (by decide) rfl ?_ ?_
      · refine v_aload_n (pc' := 27) 1 dX9_readSteps_26 rfl rfl rfl ?_
        refine v_callV (vs := []) (pc' := 30) (h_X8_atEnd g a1) mv_X8_atEnd wl_X9_47 rfl (Nat.le_of_ble_eq_true rfl) (by omega) (by decide) (Nat.le_of_ble_eq_true rfl) rfl dX9_readSteps_27 rfl fun v4 => ?_
        refine v_ifeq (t := 35) (pc' := 33) dX9_readSteps_30 (by decide) rfl ?_ ?_
        · refine V.sub [0, 1, 2, 3, 4] rfl ?_
          exact h_X9_readSteps_b35 g rec e he hrec (f_X9_readSteps_b3 rec n) ih a0 a1 x2 x3 x4
        · refine v_iconst (v := 1) (pc' := 34) dX9_readSteps_33 rfl rfl ?_
          exact v_zret rfl rfl dX9_readSteps_34
      · refine v_aload_n (pc' := 15) 1 dX9_readSteps_14 rfl rfl rfl ?_
        refine v_bipush (v := 93) (pc' := 17) dX9_readSteps_15 rfl rfl ?_
        refine v_callV (vs := [.int 93]) (pc' := 20) (h_X8_nextIs g a1 93) mv_X8_nextIs wl_X9_41 rfl (Nat.le_of_ble_eq_true rfl) (by omega) (by decide) (Nat.le_of_ble_eq_true rfl) rfl dX9_readSteps_17 rfl fun v5 => ?_
        refine v_ifeq (t := 35) (pc' := 23) dX9_readSteps_20 (by decide) rfl ?_ ?_
        · refine V.sub [0, 1, 2, 3, 4] rfl ?_
          exact h_X9_readSteps_b35 g rec e he hrec (f_X9_readSteps_b3 rec n) ih a0 a1 x2 x3 x4
        · refine v_goto (t := 33) dX9_readSteps_23 (by decide) ?_
          refine v_iconst (v := 1) (pc' := 34) dX9_readSteps_33 rfl rfl ?_
          exact v_zret rfl rfl dX9_readSteps_34
set_option maxRecDepth 20000 in
theorem h_X9_readSteps (g : GW) (rec : Nat → Nat → Int32 → Int32 → Mo Int32) (e : Nat) (he : 10 ≤ e) (hrec : ∀ a0 a1 x2 x3, V g mX9_readSteps e rtI 0 [(0, rf g a0), (1, rf g a1), (2, .int x2), (3, .int x3)] [] (rec a0 a1 x2 x3)) (a0 : Nat) (a1 : Nat) (x2 : Int32) (x3 : Int32) : V g mX9_readSteps (e + 3) rtI 0 [(0, rf g a0), (1, rf g a1), (2, .int x2), (3, .int x3)] [] (f_X9_readSteps rec a0 a1 x2 x3) := by
  unfold f_X9_readSteps
  refine v_iconst (v := 0) (pc' := 1) dX9_readSteps_0 rfl rfl ?_
  refine v_istore (lv' := [(4, .int 0), (0, rf g a0), (1, rf g a1), (2, .int x2), (3, .int x3)]) (pc' := 3) dX9_readSteps_1 (by decide) rfl rfl ?_
  refine V.sub [1, 2, 3, 4, 0] rfl ?_
  exact h_X9_readSteps_b3 g rec e he hrec NF a0 a1 x2 x3 0
theorem H_X9_readSteps (g : GW) : ∀ (D : Nat) a0 a1 x2 x3, V g mX9_readSteps (10 + D * 3) rtI 0 [(0, rf g a0), (1, rf g a1), (2, .int x2), (3, .int x3)] [] (F_X9_readSteps D a0 a1 x2 x3)
  | 0, _, _, _, _ => V.vain
  | D + 1, a0, a1, x2, x3 => by
    have h := h_X9_readSteps g (F_X9_readSteps D) (10 + D * 3) (Nat.le_add_right _ _) (fun a0 a1 x2 x3 => H_X9_readSteps g D a0 a1 x2 x3) a0 a1 x2 x3
    rw [show 10 + (D + 1) * 3 = 10 + D * 3 + 3 by omega]
    exact h
-- read
def f_X9_read (a0 : Nat) (a1 : Nat) (x2 : Int32) : Mo Int32 := bd (pf 9 4 a0 (.int 0)) fun _ => bd (pf 9 5 a0 (.int 0)) fun _ => bd (pf 9 6 a0 (.int 0)) fun _ => bd (pf 9 7 a0 (.int 0)) fun _ => bd (cv 9 a0 (F_X9_readSteps 12 a0 a1 x2 0)) fun v1 => rz v1
set_option maxRecDepth 20000 in
theorem h_X9_read (g : GW) (a0 : Nat) (a1 : Nat) (x2 : Int32) : V g mX9_read 47 rtI 0 [(0, rf g a0), (1, rf g a1), (2, .int x2)] [] (f_X9_read a0 a1 x2) := by
  unfold f_X9_read
  refine v_aload_n (pc' := 1) 0 dX9_read_0 rfl rfl rfl ?_
  refine v_iconst (v := 0) (pc' := 2) dX9_read_1 rfl rfl ?_
  refine v_put (v := (.int 0)) (v' := .int 0) (pc' := 5) fw_X9_24 rfl rfl rfl (fun h => nomatch h) dX9_read_2 rfl ?_
  refine v_aload_n (pc' := 6) 0 dX9_read_5 rfl rfl rfl ?_
  refine v_iconst (v := 0) (pc' := 7) dX9_read_6 rfl rfl ?_
  refine v_put (v := (.int 0)) (v' := .int 0) (pc' := 10) fw_X9_28 rfl rfl rfl (fun h => nomatch h) dX9_read_7 rfl ?_
  refine v_aload_n (pc' := 11) 0 dX9_read_10 rfl rfl rfl ?_
  refine v_iconst (v := 0) (pc' := 12) dX9_read_11 rfl rfl ?_
  refine v_put (v := (.int 0)) (v' := .int 0) (pc' := 15) fw_X9_31 rfl rfl rfl (fun h => nomatch h) dX9_read_12 rfl ?_
  refine v_aload_n (pc' := 16) 0 dX9_read_15 rfl rfl rfl ?_
  refine v_iconst (v := 0) (pc' := 17) dX9_read_16 rfl rfl ?_
  refine v_put (v := (.int 0)) (v' := .int 0) (pc' := 20) fw_X9_34 rfl rfl rfl (fun h => nomatch h) dX9_read_17 rfl ?_
  refine v_aload_n (pc' := 21) 0 dX9_read_20 rfl rfl rfl ?_
  refine v_aload_n (pc' := 22) 1 dX9_read_21 rfl rfl rfl ?_
  refine v_iload_n (pc' := 23) 2 dX9_read_22 rfl rfl rfl ?_
  refine v_iconst (v := 0) (pc' := 24) dX9_read_23 rfl rfl ?_
  refine v_callV (vs := [rf g a1, .int x2, .int 0]) (pc' := 27) (H_X9_readSteps g 12 a0 a1 x2 0) mv_X9_readSteps wl_X9_37 rfl (Nat.le_of_ble_eq_true rfl) (by omega) (by decide) (Nat.le_of_ble_eq_true rfl) rfl dX9_read_24 rfl fun v1 => ?_
  exact v_zretV rfl dX9_read_27
-- performStep
def f_X9_performStep_b132 (a0 : Nat) (x4 : Int32) : Mo Unit := if (x4 = 0 : Prop) then (bd (gI 9 7 a0) fun v1 => bd (pf 9 7 a0 (.int (v1 + (1 : Int32)))) fun _ => pu ()) else bd (gI 9 6 a0) fun v2 => bd (pf 9 6 a0 (.int (v2 + (1 : Int32)))) fun _ => pu ()
def f_X9_performStep_b115 (a0 : Nat) (a2 : Nat) (xs0 : Int32) : Mo Unit := if (xs0 = 0 : Prop) then (f_X9_performStep_b132 a0 xs0) else bd (cv 5 a2 (f_X5_turnYear a2)) fun _ => f_X9_performStep_b132 a0 xs0
def f_X9_performStep (a0 : Nat) (a1 : Nat) (a2 : Nat) (x3 : Int32) : Mo Unit := bd (gR 9 0 a0) fun r3 => bd (al 0 r3 x3) fun v4 => sw v4 0 [(bd (gR 9 1 a0) fun r5 => bd (al 0 r5 x3) fun v6 => bd (gR 9 2 a0) fun r7 => bd (al 0 r7 x3) fun v8 => bd (gR 9 3 a0) fun r9 => bd (al 0 r9 x3) fun v10 => bd (cv 6 a1 (f_X6_take a1 a2 v6 v8 v10)) fun v11 => f_X9_performStep_b132 a0 v11), (bd (gR 9 1 a0) fun r12 => bd (al 0 r12 x3) fun v13 => bd (gR 9 2 a0) fun r14 => bd (al 0 r14 x3) fun v15 => bd (cv 5 a2 (f_X5_setMood a2 v13 v15)) fun v16 => f_X9_performStep_b132 a0 v16), (bd (gR 9 1 a0) fun r17 => bd (al 0 r17 x3) fun v18 => bd (cv 5 a2 (f_X5_burn a2 v18)) fun v19 => f_X9_performStep_b132 a0 v19), (bd (gI 5 5 a2) fun v20 => if (200 ≤ v20 : Prop) then (f_X9_performStep_b115 a0 a2 0) else f_X9_performStep_b115 a0 a2 1)] (f_X9_performStep_b132 a0 0)
set_option maxRecDepth 20000 in
theorem h_X9_performStep_b132 (g : GW) (a0 : Nat) (x4 : Int32) : V g mX9_performStep 12 rtU 132 [(0, rf g a0), (4, .int x4)] [] (f_X9_performStep_b132 a0 x4) := by
  unfold f_X9_performStep_b132
  refine v_iload (pc' := 134) 1 dX9_performStep_132 rfl rfl ?_
  refine v_ifeq (t := 150) (pc' := 137) dX9_performStep_134 (by decide) rfl ?_ ?_
  · refine v_aload_n (pc' := 151) 0 dX9_performStep_150 rfl rfl rfl ?_
    refine v_dup (pc' := 152) dX9_performStep_151 rfl rfl ?_
    refine v_getI (pc' := 155) fl_X9_34 dX9_performStep_152 rfl fun v1 => ?_
    refine v_iconst (v := 1) (pc' := 156) dX9_performStep_155 rfl rfl ?_
    refine v_iadd (pc' := 157) dX9_performStep_156 rfl ?_
    refine v_put (v := (.int (v1 + (1 : Int32)))) (v' := .int (v1 + (1 : Int32))) (pc' := 160) fw_X9_34 rfl rfl rfl (fun h => nomatch h) dX9_performStep_157 rfl ?_
    exact v_return rfl dX9_performStep_160
  · refine v_aload_n (pc' := 138) 0 dX9_performStep_137 rfl rfl rfl ?_
    refine v_dup (pc' := 139) dX9_performStep_138 rfl rfl ?_
    refine v_getI (pc' := 142) fl_X9_31 dX9_performStep_139 rfl fun v2 => ?_
    refine v_iconst (v := 1) (pc' := 143) dX9_performStep_142 rfl rfl ?_
    refine v_iadd (pc' := 144) dX9_performStep_143 rfl ?_
    refine v_put (v := (.int (v2 + (1 : Int32)))) (v' := .int (v2 + (1 : Int32))) (pc' := 147) fw_X9_31 rfl rfl rfl (fun h => nomatch h) dX9_performStep_144 rfl ?_
    refine v_goto (t := 160) dX9_performStep_147 (by decide) ?_
    exact v_return rfl dX9_performStep_160
set_option maxRecDepth 20000 in
theorem h_X9_performStep_b115 (g : GW) (a0 : Nat) (a2 : Nat) (xs0 : Int32) : V g mX9_performStep 12 rtU 115 [(0, rf g a0), (2, rf g a2)] [.int xs0] (f_X9_performStep_b115 a0 a2 xs0) := by
  unfold f_X9_performStep_b115
  refine v_istore (lv' := [(4, .int xs0), (0, rf g a0), (2, rf g a2)]) (pc' := 117) dX9_performStep_115 (by decide) rfl rfl ?_
  refine v_iload (pc' := 119) 0 dX9_performStep_117 rfl rfl ?_
  refine v_ifeq (t := 132) (pc' := 122) dX9_performStep_119 (by decide) rfl ?_ ?_
  · refine V.sub [1, 0] rfl ?_
    exact h_X9_performStep_b132 g a0 xs0
  · refine v_aload_n (pc' := 123) 2 dX9_performStep_122 rfl rfl rfl ?_
    refine v_callV (vs := []) (pc' := 126) (h_X5_turnYear g a2) mv_X5_turnYear wl_X9_116 rfl (Nat.le_of_ble_eq_true rfl) (by omega) (by decide) (Nat.le_of_ble_eq_true rfl) rfl dX9_performStep_123 rfl fun _ => ?_
    refine v_goto (t := 132) dX9_performStep_126 (by decide) ?_
    refine V.sub [1, 0] rfl ?_
    exact h_X9_performStep_b132 g a0 xs0
set_option maxRecDepth 20000 in
theorem h_X9_performStep (g : GW) (a0 : Nat) (a1 : Nat) (a2 : Nat) (x3 : Int32) : V g mX9_performStep 12 rtU 0 [(0, rf g a0), (1, rf g a1), (2, rf g a2), (3, .int x3)] [] (f_X9_performStep a0 a1 a2 x3) := by
  unfold f_X9_performStep
  refine v_aload_n (pc' := 1) 0 dX9_performStep_0 rfl rfl rfl ?_
  refine v_getR (pc' := 4) fl_X9_11 dX9_performStep_1 rfl fun r3 => ?_
  refine v_iload_n (pc' := 5) 3 dX9_performStep_4 rfl rfl rfl ?_
  refine v_iald (pc' := 6) dX9_performStep_5 rfl fun v4 => ?_
  refine v_table (td := 129) dX9_performStep_6 rfl (by decide) ⟨⟨36, by decide, ?_⟩, ⟨64, by decide, ?_⟩, ⟨85, by decide, ?_⟩, ⟨100, by decide, ?_⟩, trivial⟩ ?_
  · refine v_aload_n (pc' := 37) 1 dX9_performStep_36 rfl rfl rfl ?_
    refine v_aload_n (pc' := 38) 2 dX9_performStep_37 rfl rfl rfl ?_
    refine v_aload_n (pc' := 39) 0 dX9_performStep_38 rfl rfl rfl ?_
    refine v_getR (pc' := 42) fl_X9_15 dX9_performStep_39 rfl fun r5 => ?_
    refine v_iload_n (pc' := 43) 3 dX9_performStep_42 rfl rfl rfl ?_
    refine v_iald (pc' := 44) dX9_performStep_43 rfl fun v6 => ?_
    refine v_aload_n (pc' := 45) 0 dX9_performStep_44 rfl rfl rfl ?_
    refine v_getR (pc' := 48) fl_X9_18 dX9_performStep_45 rfl fun r7 => ?_
    refine v_iload_n (pc' := 49) 3 dX9_performStep_48 rfl rfl rfl ?_
    refine v_iald (pc' := 50) dX9_performStep_49 rfl fun v8 => ?_
    refine v_aload_n (pc' := 51) 0 dX9_performStep_50 rfl rfl rfl ?_
    refine v_getR (pc' := 54) fl_X9_21 dX9_performStep_51 rfl fun r9 => ?_
    refine v_iload_n (pc' := 55) 3 dX9_performStep_54 rfl rfl rfl ?_
    refine v_iald (pc' := 56) dX9_performStep_55 rfl fun v10 => ?_
    refine v_callV (vs := [rf g a2, .int v6, .int v8, .int v10]) (pc' := 59) (h_X6_take g a1 a2 v6 v8 v10) mv_X6_take wl_X9_99 rfl (Nat.le_of_ble_eq_true rfl) (by omega) (by decide) (Nat.le_of_ble_eq_true rfl) rfl dX9_performStep_56 rfl fun v11 => ?_
    refine v_istore (lv' := [(4, .int v11), (0, rf g a0), (1, rf g a1), (2, rf g a2), (3, .int x3)]) (pc' := 61) dX9_performStep_59 (by decide) rfl rfl ?_
    refine v_goto (t := 132) dX9_performStep_61 (by decide) ?_
    refine V.sub [1, 0] rfl ?_
    exact h_X9_performStep_b132 g a0 v11
  · refine v_aload_n (pc' := 65) 2 dX9_performStep_64 rfl rfl rfl ?_
    refine v_aload_n (pc' := 66) 0 dX9_performStep_65 rfl rfl rfl ?_
    refine v_getR (pc' := 69) fl_X9_15 dX9_performStep_66 rfl fun r12 => ?_
    refine v_iload_n (pc' := 70) 3 dX9_performStep_69 rfl rfl rfl ?_
    refine v_iald (pc' := 71) dX9_performStep_70 rfl fun v13 => ?_
    refine v_aload_n (pc' := 72) 0 dX9_performStep_71 rfl rfl rfl ?_
    refine v_getR (pc' := 75) fl_X9_18 dX9_performStep_72 rfl fun r14 => ?_
    refine v_iload_n (pc' := 76) 3 dX9_performStep_75 rfl rfl rfl ?_
    refine v_iald (pc' := 77) dX9_performStep_76 rfl fun v15 => ?_
    refine v_callV (vs := [.int v13, .int v15]) (pc' := 80) (h_X5_setMood g a2 v13 v15) mv_X5_setMood wl_X9_105 rfl (Nat.le_of_ble_eq_true rfl) (by omega) (by decide) (Nat.le_of_ble_eq_true rfl) rfl dX9_performStep_77 rfl fun v16 => ?_
    refine v_istore (lv' := [(4, .int v16), (0, rf g a0), (1, rf g a1), (2, rf g a2), (3, .int x3)]) (pc' := 82) dX9_performStep_80 (by decide) rfl rfl ?_
    refine v_goto (t := 132) dX9_performStep_82 (by decide) ?_
    refine V.sub [1, 0] rfl ?_
    exact h_X9_performStep_b132 g a0 v16
  · refine v_aload_n (pc' := 86) 2 dX9_performStep_85 rfl rfl rfl ?_
    refine v_aload_n (pc' := 87) 0 dX9_performStep_86 rfl rfl rfl ?_
    refine v_getR (pc' := 90) fl_X9_15 dX9_performStep_87 rfl fun r17 => ?_
    refine v_iload_n (pc' := 91) 3 dX9_performStep_90 rfl rfl rfl ?_
    refine v_iald (pc' := 92) dX9_performStep_91 rfl fun v18 => ?_
    refine v_callV (vs := [.int v18]) (pc' := 95) (h_X5_burn g a2 v18) mv_X5_burn wl_X9_110 rfl (Nat.le_of_ble_eq_true rfl) (by omega) (by decide) (Nat.le_of_ble_eq_true rfl) rfl dX9_performStep_92 rfl fun v19 => ?_
    refine v_istore (lv' := [(4, .int v19), (0, rf g a0), (1, rf g a1), (2, rf g a2), (3, .int x3)]) (pc' := 97) dX9_performStep_95 (by decide) rfl rfl ?_
    refine v_goto (t := 132) dX9_performStep_97 (by decide) ?_
    refine V.sub [1, 0] rfl ?_
    exact h_X9_performStep_b132 g a0 v19
  · refine v_aload_n (pc' := 101) 2 dX9_performStep_100 rfl rfl rfl ?_
    refine v_getI (pc' := 104) fl_X9_113 dX9_performStep_101 rfl fun v20 => ?_
    refine v_sipush (v := 200) (pc' := 107) dX9_performStep_104 rfl rfl ?_
    refine v_icmpge (t := 114) (pc' := 110) dX9_performStep_107 (by decide) rfl ?_ ?_
    · refine v_iconst (v := 0) (pc' := 115) dX9_performStep_114 rfl rfl ?_
      refine V.sub [0, 2] rfl ?_
      exact h_X9_performStep_b115 g a0 a2 0
    · refine v_iconst (v := 1) (pc' := 111) dX9_performStep_110 rfl rfl ?_
      refine v_goto (t := 115) dX9_performStep_111 (by decide) ?_
      refine V.sub [0, 2] rfl ?_
      exact h_X9_performStep_b115 g a0 a2 1
  · refine v_iconst (v := 0) (pc' := 130) dX9_performStep_129 rfl rfl ?_
    refine v_istore (lv' := [(4, .int 0), (0, rf g a0), (1, rf g a1), (2, rf g a2), (3, .int x3)]) (pc' := 132) dX9_performStep_130 (by decide) rfl rfl ?_
    refine V.sub [1, 0] rfl ?_
    exact h_X9_performStep_b132 g a0 0
-- performSteps
def f_X9_performSteps_b134 (rec : Nat → Nat → Nat → Int32 → Int32 → Int32 → Mo Unit) (k3 : Nat → Nat → Nat → Int32 → Int32 → Int32 → Mo Unit) (a0 : Nat) (a1 : Nat) (a2 : Nat) (x4 : Int32) (x5 : Int32) (x6 : Int32) : Mo Unit := k3 a0 a1 a2 x4 x5 (x6 + 1)
def f_X9_performSteps_b118 (rec : Nat → Nat → Nat → Int32 → Int32 → Int32 → Mo Unit) (k3 : Nat → Nat → Nat → Int32 → Int32 → Int32 → Mo Unit) (a0 : Nat) (a1 : Nat) (a2 : Nat) (x4 : Int32) (x5 : Int32) (x6 : Int32) : Mo Unit := bd (gR 9 2 a0) fun r1 => bd (al 0 r1 x6) fun v2 => f_X9_performSteps_b134 rec k3 a0 a1 a2 x4 x5 (mx32 x6 (v2 - (1 : Int32)))
def f_X9_performSteps_b69 (rec : Nat → Nat → Nat → Int32 → Int32 → Int32 → Mo Unit) (k3 : Nat → Nat → Nat → Int32 → Int32 → Int32 → Mo Unit) : Nat → Nat → Nat → Nat → Int32 → Int32 → Int32 → Int32 → Mo Unit
  | 0, _, _, _, _, _, _, _ => fl
  | n + 1, a0, a1, a2, x4, x5, x6, x7 => bd (gR 9 1 a0) fun r3 => bd (al 0 r3 x6) fun v4 => if (v4 ≤ x7 : Prop) then (f_X9_performSteps_b118 rec k3 a0 a1 a2 x4 x5 x6) else bd (gI 9 5 a0) fun v5 => if (200 ≤ v5 : Prop) then (f_X9_performSteps_b118 rec k3 a0 a1 a2 x4 x5 x6) else bd (gR 9 2 a0) fun r6 => bd (al 0 r6 x6) fun v7 => bd (cv 9 a0 (rec a0 a1 a2 (x6 + (1 : Int32)) v7 (x5 + (1 : Int32)))) fun _ => (f_X9_performSteps_b69 rec k3 n) a0 a1 a2 x4 x5 x6 (x7 + 1)
def f_X9_performSteps_b3 (rec : Nat → Nat → Nat → Int32 → Int32 → Int32 → Mo Unit) : Nat → Nat → Nat → Nat → Int32 → Int32 → Int32 → Mo Unit
  | 0, _, _, _, _, _, _ => fl
  | n + 1, a0, a1, a2, x4, x5, x6 => if (x4 ≤ x6 : Prop) then (pu ()) else if (30 ≤ x6 : Prop) then (pu ()) else bd (gI 9 5 a0) fun v8 => if (200 ≤ v8 : Prop) then (pu ()) else bd (gI 9 5 a0) fun v9 => bd (pf 9 5 a0 (.int (v9 + (1 : Int32)))) fun _ => bd (gR 9 0 a0) fun r10 => bd (al 0 r10 x6) fun v11 => if (v11 = 4 : Prop) then (if (6 ≤ x5 : Prop) then (f_X9_performSteps_b134 rec (f_X9_performSteps_b3 rec n) a0 a1 a2 x4 x5 x6) else f_X9_performSteps_b69 rec (f_X9_performSteps_b3 rec n) NF a0 a1 a2 x4 x5 x6 0) else bd (cv 9 a0 (f_X9_performStep a0 a1 a2 x6)) fun _ => f_X9_performSteps_b134 rec (f_X9_performSteps_b3 rec n) a0 a1 a2 x4 x5 x6
def f_X9_performSteps (rec : Nat → Nat → Nat → Int32 → Int32 → Int32 → Mo Unit) (a0 : Nat) (a1 : Nat) (a2 : Nat) (x3 : Int32) (x4 : Int32) (x5 : Int32) : Mo Unit := f_X9_performSteps_b3 rec NF a0 a1 a2 x4 x5 x3
def F_X9_performSteps : Nat → Nat → Nat → Nat → Int32 → Int32 → Int32 → Mo Unit
  | 0, _, _, _, _, _, _ => fl
  | D + 1, a0, a1, a2, x3, x4, x5 => f_X9_performSteps (F_X9_performSteps D) a0 a1 a2 x3 x4 x5
set_option maxRecDepth 20000 in
theorem h_X9_performSteps_b134 (g : GW) (rec : Nat → Nat → Nat → Int32 → Int32 → Int32 → Mo Unit) (e : Nat) (he : 12 ≤ e) (hrec : ∀ a0 a1 a2 x3 x4 x5, V g mX9_performSteps e rtU 0 [(0, rf g a0), (1, rf g a1), (2, rf g a2), (3, .int x3), (4, .int x4), (5, .int x5)] [] (rec a0 a1 a2 x3 x4 x5)) (k3 : Nat → Nat → Nat → Int32 → Int32 → Int32 → Mo Unit) (hk3 : ∀ a0 a1 a2 x4 x5 x6, V g mX9_performSteps (e + 1) rtU 3 [(0, rf g a0), (1, rf g a1), (2, rf g a2), (4, .int x4), (5, .int x5), (6, .int x6)] [] (k3 a0 a1 a2 x4 x5 x6)) (a0 : Nat) (a1 : Nat) (a2 : Nat) (x4 : Int32) (x5 : Int32) (x6 : Int32) : V g mX9_performSteps (e + 1) rtU 134 [(0, rf g a0), (1, rf g a1), (2, rf g a2), (4, .int x4), (5, .int x5), (6, .int x6)] [] (f_X9_performSteps_b134 rec k3 a0 a1 a2 x4 x5 x6) := by
  unfold f_X9_performSteps_b134
  refine v_iinc (v := x6 + 1) (lv' := [(6, .int (x6 + 1)), (0, rf g a0), (1, rf g a1), (2, rf g a2), (4, .int x4), (5, .int x5)]) (pc' := 137) 5 dX9_performSteps_134 rfl rfl (by decide) rfl rfl ?_
  refine v_goto (t := 3) dX9_performSteps_137 (by decide) ?_
  refine V.sub [1, 2, 3, 4, 5, 0] rfl ?_
  exact hk3 a0 a1 a2 x4 x5 (x6 + 1)
set_option maxRecDepth 20000 in
theorem h_X9_performSteps_b118 (g : GW) (rec : Nat → Nat → Nat → Int32 → Int32 → Int32 → Mo Unit) (e : Nat) (he : 12 ≤ e) (hrec : ∀ a0 a1 a2 x3 x4 x5, V g mX9_performSteps e rtU 0 [(0, rf g a0), (1, rf g a1), (2, rf g a2), (3, .int x3), (4, .int x4), (5, .int x5)] [] (rec a0 a1 a2 x3 x4 x5)) (k3 : Nat → Nat → Nat → Int32 → Int32 → Int32 → Mo Unit) (hk3 : ∀ a0 a1 a2 x4 x5 x6, V g mX9_performSteps (e + 1) rtU 3 [(0, rf g a0), (1, rf g a1), (2, rf g a2), (4, .int x4), (5, .int x5), (6, .int x6)] [] (k3 a0 a1 a2 x4 x5 x6)) (a0 : Nat) (a1 : Nat) (a2 : Nat) (x4 : Int32) (x5 : Int32) (x6 : Int32) : V g mX9_performSteps (e + 1) rtU 118 [(0, rf g a0), (1, rf g a1), (2, rf g a2), (4, .int x4), (5, .int x5), (6, .int x6)] [] (f_X9_performSteps_b118 rec k3 a0 a1 a2 x4 x5 x6) := by
  unfold f_X9_performSteps_b118
  refine v_iload (pc' := 120) 5 dX9_performSteps_118 rfl rfl ?_
  refine v_aload_n (pc' := 121) 0 dX9_performSteps_120 rfl rfl rfl ?_
  refine v_getR (pc' := 124) fl_X9_18 dX9_performSteps_121 rfl fun r1 => ?_
  refine v_iload (pc' := 126) 5 dX9_performSteps_124 rfl rfl ?_
  refine v_iald (pc' := 127) dX9_performSteps_126 rfl fun v2 => ?_
  refine v_iconst (v := 1) (pc' := 128) dX9_performSteps_127 rfl rfl ?_
  refine v_isub (pc' := 129) dX9_performSteps_128 rfl ?_
  refine v_mx32 (pc' := 132) (by omega) (tg4 163 (by decide +kernel) (by decide +kernel)) (Nat.le_of_ble_eq_true rfl) rfl dX9_performSteps_129 rfl ?_
  refine v_istore (lv' := [(6, .int (mx32 x6 (v2 - (1 : Int32)))), (0, rf g a0), (1, rf g a1), (2, rf g a2), (4, .int x4), (5, .int x5)]) (pc' := 134) dX9_performSteps_132 (by decide) rfl rfl ?_
  refine V.sub [1, 2, 3, 4, 5, 0] rfl ?_
  exact h_X9_performSteps_b134 g rec e he hrec k3 hk3 a0 a1 a2 x4 x5 (mx32 x6 (v2 - (1 : Int32)))
set_option maxRecDepth 20000 in
theorem h_X9_performSteps_b69 (g : GW) (rec : Nat → Nat → Nat → Int32 → Int32 → Int32 → Mo Unit) (e : Nat) (he : 12 ≤ e) (hrec : ∀ a0 a1 a2 x3 x4 x5, V g mX9_performSteps e rtU 0 [(0, rf g a0), (1, rf g a1), (2, rf g a2), (3, .int x3), (4, .int x4), (5, .int x5)] [] (rec a0 a1 a2 x3 x4 x5)) (k3 : Nat → Nat → Nat → Int32 → Int32 → Int32 → Mo Unit) (hk3 : ∀ a0 a1 a2 x4 x5 x6, V g mX9_performSteps (e + 1) rtU 3 [(0, rf g a0), (1, rf g a1), (2, rf g a2), (4, .int x4), (5, .int x5), (6, .int x6)] [] (k3 a0 a1 a2 x4 x5 x6)) : ∀ n : Nat, ∀ a0 a1 a2 x4 x5 x6 x7, V g mX9_performSteps (e + 1) rtU 69 [(0, rf g a0), (1, rf g a1), (2, rf g a2), (4, .int x4), (5, .int x5), (6, .int x6), (7, .int x7)] [] (f_X9_performSteps_b69 rec k3 n a0 a1 a2 x4 x5 x6 x7) := by
  intro n
  induction n with
  | zero => intro a0 a1 a2 x4 x5 x6 x7; exact V.vain
  | succ n ih =>
    intro a0 a1 a2 x4 x5 x6 x7
    unfold f_X9_performSteps_b69
    refine v_iload (pc' := 71) 6 dX9_performSteps_69 rfl rfl ?_
    refine v_aload_n (pc' := 72) 0 dX9_performSteps_71 rfl rfl rfl ?_
    refine v_getR (pc' := 75) fl_X9_15 dX9_performSteps_72 rfl fun r3 => ?_
    refine v_iload (pc' := 77) 5 dX9_performSteps_75 rfl rfl ?_
    refine v_iald (pc' := 78) dX9_performSteps_77 rfl fun v4 => ?_
    refine v_icmpge (t := 118) (pc' := 81) dX9_performSteps_78 (by decide) rfl ?_ ?_
    · refine V.sub [0, 1, 2, 3, 4, 5] rfl ?_
      exact h_X9_performSteps_b118 g rec e he hrec k3 hk3 a0 a1 a2 x4 x5 x6
    · refine v_aload_n (pc' := 82) 0 dX9_performSteps_81 rfl rfl rfl ?_
      refine v_getI (pc' := 85) fl_X9_28 dX9_performSteps_82 rfl fun v5 => ?_
      refine v_sipush (v := 200) (pc' := 88) dX9_performSteps_85 rfl rfl ?_
      refine v_icmpge (t := 118) (pc' := 91) dX9_performSteps_88 (by decide) rfl ?_ ?_
      · refine V.sub [0, 1, 2, 3, 4, 5] rfl ?_
        exact h_X9_performSteps_b118 g rec e he hrec k3 hk3 a0 a1 a2 x4 x5 x6
      · refine v_aload_n (pc' := 92) 0 dX9_performSteps_91 rfl rfl rfl ?_
        refine v_aload_n (pc' := 93) 1 dX9_performSteps_92 rfl rfl rfl ?_
        refine v_aload_n (pc' := 94) 2 dX9_performSteps_93 rfl rfl rfl ?_
        refine v_iload (pc' := 96) 5 dX9_performSteps_94 rfl rfl ?_
        refine v_iconst (v := 1) (pc' := 97) dX9_performSteps_96 rfl rfl ?_
        refine v_iadd (pc' := 98) dX9_performSteps_97 rfl ?_
        refine v_aload_n (pc' := 99) 0 dX9_performSteps_98 rfl rfl rfl ?_
        refine v_getR (pc' := 102) fl_X9_18 dX9_performSteps_99 rfl fun r6 => ?_
        refine v_iload (pc' := 104) 5 dX9_performSteps_102 rfl rfl ?_
        refine v_iald (pc' := 105) dX9_performSteps_104 rfl fun v7 => ?_
        refine v_iload (pc' := 107) 4 dX9_performSteps_105 rfl rfl ?_
        refine v_iconst (v := 1) (pc' := 108) dX9_performSteps_107 rfl rfl ?_
        refine v_iadd (pc' := 109) dX9_performSteps_108 rfl ?_
        refine v_callV (vs := [rf g a1, rf g a2, .int (x6 + (1 : Int32)), .int v7, .int (x5 + (1 : Int32))]) (pc' := 112) (hrec a0 a1 a2 (x6 + (1 : Int32)) v7 (x5 + (1 : Int32))) mv_X9_performSteps wl_X9_85 rfl (Nat.le_of_ble_eq_true rfl) (by omega) (by decide) (Nat.le_of_ble_eq_true rfl) rfl dX9_performSteps_109 rfl fun _ => ?_
        refine v_iinc (v := x7 + 1) (lv' := [(7, .int (x7 + 1)), (0, rf g a0), (1, rf g a1), (2, rf g a2), (4, .int x4), (5, .int x5), (6, .int x6)]) (pc' := 115) 6 dX9_performSteps_112 rfl rfl (by decide) rfl rfl ?_
        refine v_goto (t := 69) dX9_performSteps_115 (by decide) ?_
        refine V.sub [1, 2, 3, 4, 5, 6, 0] rfl ?_
        exact ih a0 a1 a2 x4 x5 x6 (x7 + 1)
set_option maxRecDepth 20000 in
theorem h_X9_performSteps_b3 (g : GW) (rec : Nat → Nat → Nat → Int32 → Int32 → Int32 → Mo Unit) (e : Nat) (he : 12 ≤ e) (hrec : ∀ a0 a1 a2 x3 x4 x5, V g mX9_performSteps e rtU 0 [(0, rf g a0), (1, rf g a1), (2, rf g a2), (3, .int x3), (4, .int x4), (5, .int x5)] [] (rec a0 a1 a2 x3 x4 x5)) : ∀ n : Nat, ∀ a0 a1 a2 x4 x5 x6, V g mX9_performSteps (e + 1) rtU 3 [(0, rf g a0), (1, rf g a1), (2, rf g a2), (4, .int x4), (5, .int x5), (6, .int x6)] [] (f_X9_performSteps_b3 rec n a0 a1 a2 x4 x5 x6) := by
  intro n
  induction n with
  | zero => intro a0 a1 a2 x4 x5 x6; exact V.vain
  | succ n ih =>
    intro a0 a1 a2 x4 x5 x6
    unfold f_X9_performSteps_b3
    refine v_iload (pc' := 5) 5 dX9_performSteps_3 rfl rfl ?_
    refine v_iload (pc' := 7) 3 dX9_performSteps_5 rfl rfl ?_
    refine v_icmpge (t := 140) (pc' := 10) dX9_performSteps_7 (by decide) rfl ?_ ?_
    · exact v_return rfl dX9_performSteps_140
    · refine v_iload (pc' := 12) 5 dX9_performSteps_10 rfl rfl ?_
      refine v_bipush (v := 30) (pc' := 14) dX9_performSteps_12 rfl rfl ?_
      refine v_icmpge (t := 140) (pc' := 17) dX9_performSteps_14 (by decide) rfl ?_ ?_
      · exact v_return rfl dX9_performSteps_140
      · refine v_aload_n (pc' := 18) 0 dX9_performSteps_17 rfl rfl rfl ?_
        refine v_getI (pc' := 21) fl_X9_28 dX9_performSteps_18 rfl fun v8 => ?_
        refine v_sipush (v := 200) (pc' := 24) dX9_performSteps_21 rfl rfl ?_
        refine v_icmpge (t := 140) (pc' := 27) dX9_performSteps_24 (by decide) rfl ?_ ?_
        · exact v_return rfl dX9_performSteps_140
        · refine v_aload_n (pc' := 28) 0 dX9_performSteps_27 rfl rfl rfl ?_
          refine v_dup (pc' := 29) dX9_performSteps_28 rfl rfl ?_
          refine v_getI (pc' := 32) fl_X9_28 dX9_performSteps_29 rfl fun v9 => ?_
          refine v_iconst (v := 1) (pc' := 33) dX9_performSteps_32 rfl rfl ?_
          refine v_iadd (pc' := 34) dX9_performSteps_33 rfl ?_
          refine v_put (v := (.int (v9 + (1 : Int32)))) (v' := .int (v9 + (1 : Int32))) (pc' := 37) fw_X9_28 rfl rfl rfl (fun h => nomatch h) dX9_performSteps_34 rfl ?_
          refine v_aload_n (pc' := 38) 0 dX9_performSteps_37 rfl rfl rfl ?_
          refine v_getR (pc' := 41) fl_X9_11 dX9_performSteps_38 rfl fun r10 => ?_
          refine v_iload (pc' := 43) 5 dX9_performSteps_41 rfl rfl ?_
          refine v_iald (pc' := 44) dX9_performSteps_43 rfl fun v11 => ?_
          refine v_iconst (v := 4) (pc' := 45) dX9_performSteps_44 rfl rfl ?_
          refine v_icmpeq (t := 59) (pc' := 48) dX9_performSteps_45 (by decide) rfl ?_ ?_
          · refine v_iload (pc' := 61) 4 dX9_performSteps_59 rfl rfl ?_
            refine v_bipush (v := 6) (pc' := 63) dX9_performSteps_61 rfl rfl ?_
            refine v_icmpge (t := 134) (pc' := 66) dX9_performSteps_63 (by decide) rfl ?_ ?_
            · refine V.sub [0, 1, 2, 3, 4, 5] rfl ?_
              exact h_X9_performSteps_b134 g rec e he hrec (f_X9_performSteps_b3 rec n) ih a0 a1 a2 x4 x5 x6
            · refine v_iconst (v := 0) (pc' := 67) dX9_performSteps_66 rfl rfl ?_
              refine v_istore (lv' := [(7, .int 0), (0, rf g a0), (1, rf g a1), (2, rf g a2), (4, .int x4), (5, .int x5), (6, .int x6)]) (pc' := 69) dX9_performSteps_67 (by decide) rfl rfl ?_
              refine V.sub [1, 2, 3, 4, 5, 6, 0] rfl ?_
              exact h_X9_performSteps_b69 g rec e he hrec (f_X9_performSteps_b3 rec n) ih NF a0 a1 a2 x4 x5 x6 0
          · refine v_aload_n (pc' := 49) 0 dX9_performSteps_48 rfl rfl rfl ?_
            refine v_aload_n (pc' := 50) 1 dX9_performSteps_49 rfl rfl rfl ?_
            refine v_aload_n (pc' := 51) 2 dX9_performSteps_50 rfl rfl rfl ?_
            refine v_iload (pc' := 53) 5 dX9_performSteps_51 rfl rfl ?_
            refine v_callV (vs := [rf g a1, rf g a2, .int x6]) (pc' := 56) (h_X9_performStep g a0 a1 a2 x6) mv_X9_performStep wl_X9_89 rfl (Nat.le_of_ble_eq_true rfl) (by omega) (by decide) (Nat.le_of_ble_eq_true rfl) rfl dX9_performSteps_53 rfl fun _ => ?_
            refine v_goto (t := 134) dX9_performSteps_56 (by decide) ?_
            refine V.sub [0, 1, 2, 3, 4, 5] rfl ?_
            exact h_X9_performSteps_b134 g rec e he hrec (f_X9_performSteps_b3 rec n) ih a0 a1 a2 x4 x5 x6
set_option maxRecDepth 20000 in
theorem h_X9_performSteps (g : GW) (rec : Nat → Nat → Nat → Int32 → Int32 → Int32 → Mo Unit) (e : Nat) (he : 12 ≤ e) (hrec : ∀ a0 a1 a2 x3 x4 x5, V g mX9_performSteps e rtU 0 [(0, rf g a0), (1, rf g a1), (2, rf g a2), (3, .int x3), (4, .int x4), (5, .int x5)] [] (rec a0 a1 a2 x3 x4 x5)) (a0 : Nat) (a1 : Nat) (a2 : Nat) (x3 : Int32) (x4 : Int32) (x5 : Int32) : V g mX9_performSteps (e + 1) rtU 0 [(0, rf g a0), (1, rf g a1), (2, rf g a2), (3, .int x3), (4, .int x4), (5, .int x5)] [] (f_X9_performSteps rec a0 a1 a2 x3 x4 x5) := by
  unfold f_X9_performSteps
  refine v_iload_n (pc' := 1) 3 dX9_performSteps_0 rfl rfl rfl ?_
  refine v_istore (lv' := [(6, .int x3), (0, rf g a0), (1, rf g a1), (2, rf g a2), (3, .int x3), (4, .int x4), (5, .int x5)]) (pc' := 3) dX9_performSteps_1 (by decide) rfl rfl ?_
  refine V.sub [1, 2, 3, 5, 6, 0] rfl ?_
  exact h_X9_performSteps_b3 g rec e he hrec NF a0 a1 a2 x4 x5 x3
theorem H_X9_performSteps (g : GW) : ∀ (D : Nat) a0 a1 a2 x3 x4 x5, V g mX9_performSteps (12 + D * 1) rtU 0 [(0, rf g a0), (1, rf g a1), (2, rf g a2), (3, .int x3), (4, .int x4), (5, .int x5)] [] (F_X9_performSteps D a0 a1 a2 x3 x4 x5)
  | 0, _, _, _, _, _, _ => V.vain
  | D + 1, a0, a1, a2, x3, x4, x5 => by
    have h := h_X9_performSteps g (F_X9_performSteps D) (12 + D * 1) (Nat.le_add_right _ _) (fun a0 a1 a2 x3 x4 x5 => H_X9_performSteps g D a0 a1 a2 x3 x4 x5) a0 a1 a2 x3 x4 x5
    rw [show 12 + (D + 1) * 1 = 12 + D * 1 + 1 by omega]
    exact h
-- perform
def f_X9_perform (a0 : Nat) (a1 : Nat) (a2 : Nat) : Mo Unit := bd (gI 9 4 a0) fun v1 => bd (cv 9 a0 (F_X9_performSteps 12 a0 a1 a2 0 v1 0)) fun _ => pu ()
set_option maxRecDepth 20000 in
theorem h_X9_perform (g : GW) (a0 : Nat) (a1 : Nat) (a2 : Nat) : V g mX9_perform 25 rtU 0 [(0, rf g a0), (1, rf g a1), (2, rf g a2)] [] (f_X9_perform a0 a1 a2) := by
  unfold f_X9_perform
  refine v_aload_n (pc' := 1) 0 dX9_perform_0 rfl rfl rfl ?_
  refine v_aload_n (pc' := 2) 1 dX9_perform_1 rfl rfl rfl ?_
  refine v_aload_n (pc' := 3) 2 dX9_perform_2 rfl rfl rfl ?_
  refine v_iconst (v := 0) (pc' := 4) dX9_perform_3 rfl rfl ?_
  refine v_aload_n (pc' := 5) 0 dX9_perform_4 rfl rfl rfl ?_
  refine v_getI (pc' := 8) fl_X9_24 dX9_perform_5 rfl fun v1 => ?_
  refine v_iconst (v := 0) (pc' := 9) dX9_perform_8 rfl rfl ?_
  refine v_callV (vs := [rf g a1, rf g a2, .int 0, .int v1, .int 0]) (pc' := 12) (H_X9_performSteps g 12 a0 a1 a2 0 v1 0) mv_X9_performSteps wl_X9_85 rfl (Nat.le_of_ble_eq_true rfl) (by omega) (by decide) (Nat.le_of_ble_eq_true rfl) rfl dX9_perform_9 rfl fun _ => ?_
  exact v_return rfl dX9_perform_12
