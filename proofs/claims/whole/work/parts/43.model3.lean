-- would
def f_X12_would_b88 (a0 : Nat) (x1 : Int32) (x2 : Int32) (x3 : Int32) (x4 : Int32) (x5 : Int32) (x6 : Int32) (x7 : Int32) (x8 : Int32) (xs0 : Int32) (as1 : Nat) : Mo Int32 := bd (cv 12 as1 (f_X12_bad as1 xs0 1 1)) fun v1 => if (v1 = 0 : Prop) then (bd (gR 12 24 a0) fun r2 => bd (as_ r2 0 x1) fun _ => bd (gR 12 24 a0) fun r3 => bd (as_ r3 1 x2) fun _ => bd (gR 12 24 a0) fun r4 => bd (as_ r4 2 x3) fun _ => bd (gR 12 24 a0) fun r5 => bd (as_ r5 3 x4) fun _ => bd (gR 12 24 a0) fun r6 => bd (as_ r6 4 x5) fun _ => bd (gR 12 24 a0) fun r7 => bd (as_ r7 5 x6) fun _ => bd (gR 12 24 a0) fun r8 => bd (as_ r8 6 x7) fun _ => bd (gR 12 24 a0) fun r9 => bd (as_ r9 7 x8) fun _ => bd (cv 12 a0 (f_X12_byLaw a0)) fun v10 => pu v10) else pu 0
def f_X12_would_b83 (a0 : Nat) (x1 : Int32) (x2 : Int32) (x3 : Int32) (x4 : Int32) (x5 : Int32) (x6 : Int32) (x7 : Int32) (x8 : Int32) (as0 : Nat) : Mo Int32 := f_X12_would_b88 a0 x1 x2 x3 x4 x5 x6 x7 x8 1 as0
def f_X12_would (a0 : Nat) (x1 : Int32) (x2 : Int32) (x3 : Int32) (x4 : Int32) (x5 : Int32) (x6 : Int32) (x7 : Int32) (x8 : Int32) : Mo Int32 := bd (pf 12 0 a0 (.int 0)) fun _ => bd (f_X12_isFace x1) fun v11 => if (v11 = 0 : Prop) then (f_X12_would_b83 a0 x1 x2 x3 x4 x5 x6 x7 x8 a0) else bd (f_X12_in x2 0 9) fun v12 => if (v12 = 0 : Prop) then (f_X12_would_b83 a0 x1 x2 x3 x4 x5 x6 x7 x8 a0) else bd (f_X12_in x3 0 9) fun v13 => if (v13 = 0 : Prop) then (f_X12_would_b83 a0 x1 x2 x3 x4 x5 x6 x7 x8 a0) else bd (f_X12_isFace x4) fun v14 => if (v14 = 0 : Prop) then (f_X12_would_b83 a0 x1 x2 x3 x4 x5 x6 x7 x8 a0) else bd (f_X12_in x5 0 1) fun v15 => if (v15 = 0 : Prop) then (f_X12_would_b83 a0 x1 x2 x3 x4 x5 x6 x7 x8 a0) else bd (f_X12_in x6 0 200) fun v16 => if (v16 = 0 : Prop) then (f_X12_would_b83 a0 x1 x2 x3 x4 x5 x6 x7 x8 a0) else bd (f_X12_in x7 0 999) fun v17 => if (v17 = 0 : Prop) then (f_X12_would_b83 a0 x1 x2 x3 x4 x5 x6 x7 x8 a0) else bd (f_X12_isHall x8) fun v18 => if (v18 = 0 : Prop) then (f_X12_would_b83 a0 x1 x2 x3 x4 x5 x6 x7 x8 a0) else f_X12_would_b88 a0 x1 x2 x3 x4 x5 x6 x7 x8 0 a0
set_option maxRecDepth 20000 in
theorem h_X12_would_b88 (g : GW) (a0 : Nat) (x1 : Int32) (x2 : Int32) (x3 : Int32) (x4 : Int32) (x5 : Int32) (x6 : Int32) (x7 : Int32) (x8 : Int32) (xs0 : Int32) (as1 : Nat) : V g mX12_would 11 rtI 88 [(0, rf g a0), (1, .int x1), (2, .int x2), (3, .int x3), (4, .int x4), (5, .int x5), (6, .int x6), (7, .int x7), (8, .int x8)] [.int xs0, rf g as1] (f_X12_would_b88 a0 x1 x2 x3 x4 x5 x6 x7 x8 xs0 as1) := by
  unfold f_X12_would_b88
  refine v_iconst (v := 1) (pc' := 89) dX12_would_88 rfl rfl ?_
  refine v_iconst (v := 1) (pc' := 90) dX12_would_89 rfl rfl ?_
  refine v_callV (vs := [.int xs0, .int 1, .int 1]) (pc' := 93) (h_X12_bad g as1 xs0 1 1) mv_X12_bad wl_X12_167 rfl (Nat.le_of_ble_eq_true rfl) (by omega) (by decide) (Nat.le_of_ble_eq_true rfl) rfl dX12_would_90 rfl fun v1 => ?_
  refine v_ifeq (t := 98) (pc' := 96) dX12_would_93 (by decide) rfl ?_ ?_
  · refine v_aload_n (pc' := 99) 0 dX12_would_98 rfl rfl rfl ?_
    refine v_getR (pc' := 102) fl_X12_55 dX12_would_99 rfl fun r2 => ?_
    refine v_iconst (v := 0) (pc' := 103) dX12_would_102 rfl rfl ?_
    refine v_iload_n (pc' := 104) 1 dX12_would_103 rfl rfl rfl ?_
    refine v_iast (pc' := 105) dX12_would_104 rfl ?_
    refine v_aload_n (pc' := 106) 0 dX12_would_105 rfl rfl rfl ?_
    refine v_getR (pc' := 109) fl_X12_55 dX12_would_106 rfl fun r3 => ?_
    refine v_iconst (v := 1) (pc' := 110) dX12_would_109 rfl rfl ?_
    refine v_iload_n (pc' := 111) 2 dX12_would_110 rfl rfl rfl ?_
    refine v_iast (pc' := 112) dX12_would_111 rfl ?_
    refine v_aload_n (pc' := 113) 0 dX12_would_112 rfl rfl rfl ?_
    refine v_getR (pc' := 116) fl_X12_55 dX12_would_113 rfl fun r4 => ?_
    refine v_iconst (v := 2) (pc' := 117) dX12_would_116 rfl rfl ?_
    refine v_iload_n (pc' := 118) 3 dX12_would_117 rfl rfl rfl ?_
    refine v_iast (pc' := 119) dX12_would_118 rfl ?_
    refine v_aload_n (pc' := 120) 0 dX12_would_119 rfl rfl rfl ?_
    refine v_getR (pc' := 123) fl_X12_55 dX12_would_120 rfl fun r5 => ?_
    refine v_iconst (v := 3) (pc' := 124) dX12_would_123 rfl rfl ?_
    refine v_iload (pc' := 126) 4 dX12_would_124 rfl rfl ?_
    refine v_iast (pc' := 127) dX12_would_126 rfl ?_
    refine v_aload_n (pc' := 128) 0 dX12_would_127 rfl rfl rfl ?_
    refine v_getR (pc' := 131) fl_X12_55 dX12_would_128 rfl fun r6 => ?_
    refine v_iconst (v := 4) (pc' := 132) dX12_would_131 rfl rfl ?_
    refine v_iload (pc' := 134) 5 dX12_would_132 rfl rfl ?_
    refine v_iast (pc' := 135) dX12_would_134 rfl ?_
    refine v_aload_n (pc' := 136) 0 dX12_would_135 rfl rfl rfl ?_
    refine v_getR (pc' := 139) fl_X12_55 dX12_would_136 rfl fun r7 => ?_
    refine v_iconst (v := 5) (pc' := 140) dX12_would_139 rfl rfl ?_
    refine v_iload (pc' := 142) 6 dX12_would_140 rfl rfl ?_
    refine v_iast (pc' := 143) dX12_would_142 rfl ?_
    refine v_aload_n (pc' := 144) 0 dX12_would_143 rfl rfl rfl ?_
    refine v_getR (pc' := 147) fl_X12_55 dX12_would_144 rfl fun r8 => ?_
    refine v_bipush (v := 6) (pc' := 149) dX12_would_147 rfl rfl ?_
    refine v_iload (pc' := 151) 7 dX12_would_149 rfl rfl ?_
    refine v_iast (pc' := 152) dX12_would_151 rfl ?_
    refine v_aload_n (pc' := 153) 0 dX12_would_152 rfl rfl rfl ?_
    refine v_getR (pc' := 156) fl_X12_55 dX12_would_153 rfl fun r9 => ?_
    refine v_bipush (v := 7) (pc' := 158) dX12_would_156 rfl rfl ?_
    refine v_iload (pc' := 160) 8 dX12_would_158 rfl rfl ?_
    refine v_iast (pc' := 161) dX12_would_160 rfl ?_
    refine v_aload_n (pc' := 162) 0 dX12_would_161 rfl rfl rfl ?_
    refine v_callV (vs := []) (pc' := 165) (h_X12_byLaw g a0) mv_X12_byLaw wl_X12_256 rfl (Nat.le_of_ble_eq_true rfl) (by omega) (by decide) (Nat.le_of_ble_eq_true rfl) rfl dX12_would_162 rfl fun v10 => ?_
    exact v_ireturn rfl dX12_would_165
  · refine v_iconst (v := 0) (pc' := 97) dX12_would_96 rfl rfl ?_
    exact v_ireturn rfl dX12_would_97
set_option maxRecDepth 20000 in
theorem h_X12_would_b83 (g : GW) (a0 : Nat) (x1 : Int32) (x2 : Int32) (x3 : Int32) (x4 : Int32) (x5 : Int32) (x6 : Int32) (x7 : Int32) (x8 : Int32) (as0 : Nat) : V g mX12_would 11 rtI 83 [(0, rf g a0), (1, .int x1), (2, .int x2), (3, .int x3), (4, .int x4), (5, .int x5), (6, .int x6), (7, .int x7), (8, .int x8)] [rf g as0] (f_X12_would_b83 a0 x1 x2 x3 x4 x5 x6 x7 x8 as0) := by
  unfold f_X12_would_b83
  refine v_iconst (v := 1) (pc' := 84) dX12_would_83 rfl rfl ?_
  refine v_goto (t := 88) dX12_would_84 (by decide) ?_
  refine V.sub [0, 1, 2, 3, 4, 5, 6, 7, 8] rfl ?_
  exact h_X12_would_b88 g a0 x1 x2 x3 x4 x5 x6 x7 x8 1 as0
set_option maxRecDepth 20000 in
theorem h_X12_would (g : GW) (a0 : Nat) (x1 : Int32) (x2 : Int32) (x3 : Int32) (x4 : Int32) (x5 : Int32) (x6 : Int32) (x7 : Int32) (x8 : Int32) : V g mX12_would 11 rtI 0 [(0, rf g a0), (1, .int x1), (2, .int x2), (3, .int x3), (4, .int x4), (5, .int x5), (6, .int x6), (7, .int x7), (8, .int x8)] [] (f_X12_would a0 x1 x2 x3 x4 x5 x6 x7 x8) := by
  unfold f_X12_would
  refine v_aload_n (pc' := 1) 0 dX12_would_0 rfl rfl rfl ?_
  refine v_iconst (v := 0) (pc' := 2) dX12_would_1 rfl rfl ?_
  refine v_put (v := (.int 0)) (v' := .int 0) (pc' := 5) fw_X12_94 rfl rfl rfl (fun h => nomatch h) dX12_would_2 rfl ?_
  refine v_aload_n (pc' := 6) 0 dX12_would_5 rfl rfl rfl ?_
  refine v_iload_n (pc' := 7) 1 dX12_would_6 rfl rfl rfl ?_
  refine v_callS (vs := [.int x1]) (pc' := 10) (h_X12_isFace g x1) ms_X12_isFace wl_X12_308 (Nat.le_of_ble_eq_true rfl) (by omega) (by decide) (Nat.le_of_ble_eq_true rfl) rfl dX12_would_7 rfl fun v11 => ?_
  refine v_ifeq (t := 83) (pc' := 13) dX12_would_10 (by decide) rfl ?_ ?_
  · refine V.sub [0, 1, 2, 3, 4, 5, 6, 7, 8] rfl ?_
    exact h_X12_would_b83 g a0 x1 x2 x3 x4 x5 x6 x7 x8 a0
  · refine v_iload_n (pc' := 14) 2 dX12_would_13 rfl rfl rfl ?_
    refine v_iconst (v := 0) (pc' := 15) dX12_would_14 rfl rfl ?_
    refine v_bipush (v := 9) (pc' := 17) dX12_would_15 rfl rfl ?_
    refine v_callS (vs := [.int x2, .int 0, .int 9]) (pc' := 20) (h_X12_in g x2 0 9) ms_X12_in wl_X12_128 (Nat.le_of_ble_eq_true rfl) (by omega) (by decide) (Nat.le_of_ble_eq_true rfl) rfl dX12_would_17 rfl fun v12 => ?_
    refine v_ifeq (t := 83) (pc' := 23) dX12_would_20 (by decide) rfl ?_ ?_
    · refine V.sub [0, 1, 2, 3, 4, 5, 6, 7, 8] rfl ?_
      exact h_X12_would_b83 g a0 x1 x2 x3 x4 x5 x6 x7 x8 a0
    · refine v_iload_n (pc' := 24) 3 dX12_would_23 rfl rfl rfl ?_
      refine v_iconst (v := 0) (pc' := 25) dX12_would_24 rfl rfl ?_
      refine v_bipush (v := 9) (pc' := 27) dX12_would_25 rfl rfl ?_
      refine v_callS (vs := [.int x3, .int 0, .int 9]) (pc' := 30) (h_X12_in g x3 0 9) ms_X12_in wl_X12_128 (Nat.le_of_ble_eq_true rfl) (by omega) (by decide) (Nat.le_of_ble_eq_true rfl) rfl dX12_would_27 rfl fun v13 => ?_
      refine v_ifeq (t := 83) (pc' := 33) dX12_would_30 (by decide) rfl ?_ ?_
      · refine V.sub [0, 1, 2, 3, 4, 5, 6, 7, 8] rfl ?_
        exact h_X12_would_b83 g a0 x1 x2 x3 x4 x5 x6 x7 x8 a0
      · refine v_iload (pc' := 35) 4 dX12_would_33 rfl rfl ?_
        refine v_callS (vs := [.int x4]) (pc' := 38) (h_X12_isFace g x4) ms_X12_isFace wl_X12_308 (Nat.le_of_ble_eq_true rfl) (by omega) (by decide) (Nat.le_of_ble_eq_true rfl) rfl dX12_would_35 rfl fun v14 => ?_
        refine v_ifeq (t := 83) (pc' := 41) dX12_would_38 (by decide) rfl ?_ ?_
        · refine V.sub [0, 1, 2, 3, 4, 5, 6, 7, 8] rfl ?_
          exact h_X12_would_b83 g a0 x1 x2 x3 x4 x5 x6 x7 x8 a0
        · refine v_iload (pc' := 43) 5 dX12_would_41 rfl rfl ?_
          refine v_iconst (v := 0) (pc' := 44) dX12_would_43 rfl rfl ?_
          refine v_iconst (v := 1) (pc' := 45) dX12_would_44 rfl rfl ?_
          refine v_callS (vs := [.int x5, .int 0, .int 1]) (pc' := 48) (h_X12_in g x5 0 1) ms_X12_in wl_X12_128 (Nat.le_of_ble_eq_true rfl) (by omega) (by decide) (Nat.le_of_ble_eq_true rfl) rfl dX12_would_45 rfl fun v15 => ?_
          refine v_ifeq (t := 83) (pc' := 51) dX12_would_48 (by decide) rfl ?_ ?_
          · refine V.sub [0, 1, 2, 3, 4, 5, 6, 7, 8] rfl ?_
            exact h_X12_would_b83 g a0 x1 x2 x3 x4 x5 x6 x7 x8 a0
          · refine v_iload (pc' := 53) 6 dX12_would_51 rfl rfl ?_
            refine v_iconst (v := 0) (pc' := 54) dX12_would_53 rfl rfl ?_
            refine v_sipush (v := 200) (pc' := 57) dX12_would_54 rfl rfl ?_
            refine v_callS (vs := [.int x6, .int 0, .int 200]) (pc' := 60) (h_X12_in g x6 0 200) ms_X12_in wl_X12_128 (Nat.le_of_ble_eq_true rfl) (by omega) (by decide) (Nat.le_of_ble_eq_true rfl) rfl dX12_would_57 rfl fun v16 => ?_
            refine v_ifeq (t := 83) (pc' := 63) dX12_would_60 (by decide) rfl ?_ ?_
            · refine V.sub [0, 1, 2, 3, 4, 5, 6, 7, 8] rfl ?_
              exact h_X12_would_b83 g a0 x1 x2 x3 x4 x5 x6 x7 x8 a0
            · refine v_iload (pc' := 65) 7 dX12_would_63 rfl rfl ?_
              refine v_iconst (v := 0) (pc' := 66) dX12_would_65 rfl rfl ?_
              refine v_sipush (v := 999) (pc' := 69) dX12_would_66 rfl rfl ?_
              refine v_callS (vs := [.int x7, .int 0, .int 999]) (pc' := 72) (h_X12_in g x7 0 999) ms_X12_in wl_X12_128 (Nat.le_of_ble_eq_true rfl) (by omega) (by decide) (Nat.le_of_ble_eq_true rfl) rfl dX12_would_69 rfl fun v17 => ?_
              refine v_ifeq (t := 83) (pc' := 75) dX12_would_72 (by decide) rfl ?_ ?_
              · refine V.sub [0, 1, 2, 3, 4, 5, 6, 7, 8] rfl ?_
                exact h_X12_would_b83 g a0 x1 x2 x3 x4 x5 x6 x7 x8 a0
              · refine v_iload (pc' := 77) 8 dX12_would_75 rfl rfl ?_
                refine v_callS (vs := [.int x8]) (pc' := 80) (h_X12_isHall g x8) ms_X12_isHall wl_X12_305 (Nat.le_of_ble_eq_true rfl) (by omega) (by decide) (Nat.le_of_ble_eq_true rfl) rfl dX12_would_77 rfl fun v18 => ?_
                refine v_ifne (t := 87) (pc' := 83) dX12_would_80 (by decide) rfl ?_ ?_
                · refine v_iconst (v := 0) (pc' := 88) dX12_would_87 rfl rfl ?_
                  refine V.sub [0, 1, 2, 3, 4, 5, 6, 7, 8] rfl ?_
                  exact h_X12_would_b88 g a0 x1 x2 x3 x4 x5 x6 x7 x8 0 a0
                · refine V.sub [0, 1, 2, 3, 4, 5, 6, 7, 8] rfl ?_
                  exact h_X12_would_b83 g a0 x1 x2 x3 x4 x5 x6 x7 x8 a0
-- unlike
def f_X12_unlike_b25 (x1 : Int32) (x2 : Int32) (xs0 : Int32) (as1 : Nat) : Mo Int32 := bd (cv 12 as1 (f_X12_bad as1 xs0 1 1)) fun v1 => if (v1 = 0 : Prop) then (bd (f_X12_ones (x1 ^^^ x2)) fun v2 => pu v2) else pu 0
def f_X12_unlike_b20 (x1 : Int32) (x2 : Int32) (as0 : Nat) : Mo Int32 := f_X12_unlike_b25 x1 x2 1 as0
def f_X12_unlike (a0 : Nat) (x1 : Int32) (x2 : Int32) : Mo Int32 := bd (pf 12 0 a0 (.int 0)) fun _ => bd (f_X12_isFace x1) fun v3 => if (v3 = 0 : Prop) then (f_X12_unlike_b20 x1 x2 a0) else bd (f_X12_isFace x2) fun v4 => if (v4 = 0 : Prop) then (f_X12_unlike_b20 x1 x2 a0) else f_X12_unlike_b25 x1 x2 0 a0
set_option maxRecDepth 20000 in
theorem h_X12_unlike_b25 (g : GW) (x1 : Int32) (x2 : Int32) (xs0 : Int32) (as1 : Nat) : V g mX12_unlike 10 rtI 25 [(1, .int x1), (2, .int x2)] [.int xs0, rf g as1] (f_X12_unlike_b25 x1 x2 xs0 as1) := by
  unfold f_X12_unlike_b25
  refine v_iconst (v := 1) (pc' := 26) dX12_unlike_25 rfl rfl ?_
  refine v_iconst (v := 1) (pc' := 27) dX12_unlike_26 rfl rfl ?_
  refine v_callV (vs := [.int xs0, .int 1, .int 1]) (pc' := 30) (h_X12_bad g as1 xs0 1 1) mv_X12_bad wl_X12_167 rfl (Nat.le_of_ble_eq_true rfl) (by omega) (by decide) (Nat.le_of_ble_eq_true rfl) rfl dX12_unlike_27 rfl fun v1 => ?_
  refine v_ifeq (t := 35) (pc' := 33) dX12_unlike_30 (by decide) rfl ?_ ?_
  · refine v_iload_n (pc' := 36) 0 dX12_unlike_35 rfl rfl rfl ?_
    refine v_iload_n (pc' := 37) 1 dX12_unlike_36 rfl rfl rfl ?_
    refine v_ixor (pc' := 38) dX12_unlike_37 rfl ?_
    refine v_callS (vs := [.int (x1 ^^^ x2)]) (pc' := 41) (h_X12_ones g (x1 ^^^ x2)) ms_X12_ones wl_X12_250 (Nat.le_of_ble_eq_true rfl) (by omega) (by decide) (Nat.le_of_ble_eq_true rfl) rfl dX12_unlike_38 rfl fun v2 => ?_
    exact v_ireturn rfl dX12_unlike_41
  · refine v_iconst (v := 0) (pc' := 34) dX12_unlike_33 rfl rfl ?_
    exact v_ireturn rfl dX12_unlike_34
set_option maxRecDepth 20000 in
theorem h_X12_unlike_b20 (g : GW) (x1 : Int32) (x2 : Int32) (as0 : Nat) : V g mX12_unlike 10 rtI 20 [(1, .int x1), (2, .int x2)] [rf g as0] (f_X12_unlike_b20 x1 x2 as0) := by
  unfold f_X12_unlike_b20
  refine v_iconst (v := 1) (pc' := 21) dX12_unlike_20 rfl rfl ?_
  refine v_goto (t := 25) dX12_unlike_21 (by decide) ?_
  refine V.sub [0, 1] rfl ?_
  exact h_X12_unlike_b25 g x1 x2 1 as0
set_option maxRecDepth 20000 in
theorem h_X12_unlike (g : GW) (a0 : Nat) (x1 : Int32) (x2 : Int32) : V g mX12_unlike 10 rtI 0 [(0, rf g a0), (1, .int x1), (2, .int x2)] [] (f_X12_unlike a0 x1 x2) := by
  unfold f_X12_unlike
  refine v_aload_n (pc' := 1) 0 dX12_unlike_0 rfl rfl rfl ?_
  refine v_iconst (v := 0) (pc' := 2) dX12_unlike_1 rfl rfl ?_
  refine v_put (v := (.int 0)) (v' := .int 0) (pc' := 5) fw_X12_94 rfl rfl rfl (fun h => nomatch h) dX12_unlike_2 rfl ?_
  refine v_aload_n (pc' := 6) 0 dX12_unlike_5 rfl rfl rfl ?_
  refine v_iload_n (pc' := 7) 1 dX12_unlike_6 rfl rfl rfl ?_
  refine v_callS (vs := [.int x1]) (pc' := 10) (h_X12_isFace g x1) ms_X12_isFace wl_X12_308 (Nat.le_of_ble_eq_true rfl) (by omega) (by decide) (Nat.le_of_ble_eq_true rfl) rfl dX12_unlike_7 rfl fun v3 => ?_
  refine v_ifeq (t := 20) (pc' := 13) dX12_unlike_10 (by decide) rfl ?_ ?_
  · refine V.sub [1, 2] rfl ?_
    exact h_X12_unlike_b20 g x1 x2 a0
  · refine v_iload_n (pc' := 14) 2 dX12_unlike_13 rfl rfl rfl ?_
    refine v_callS (vs := [.int x2]) (pc' := 17) (h_X12_isFace g x2) ms_X12_isFace wl_X12_308 (Nat.le_of_ble_eq_true rfl) (by omega) (by decide) (Nat.le_of_ble_eq_true rfl) rfl dX12_unlike_14 rfl fun v4 => ?_
    refine v_ifne (t := 24) (pc' := 20) dX12_unlike_17 (by decide) rfl ?_ ?_
    · refine v_iconst (v := 0) (pc' := 25) dX12_unlike_24 rfl rfl ?_
      refine V.sub [1, 2] rfl ?_
      exact h_X12_unlike_b25 g x1 x2 0 a0
    · refine V.sub [1, 2] rfl ?_
      exact h_X12_unlike_b20 g x1 x2 a0
-- hadBy
def f_X12_hadBy_b48 (k4 : Nat → Nat → Int32 → Int32 → Mo Int32) (a0 : Nat) (a1 : Nat) (x3 : Int32) (xs0 : Int32) (xs1 : Int32) : Mo Int32 := k4 a0 a1 (xs1 ||| xs0) (x3 + 1)
def f_X12_hadBy_b4 : Nat → Nat → Nat → Int32 → Int32 → Mo Int32
  | 0, _, _, _, _ => fl
  | n + 1, a0, a1, x2, x3 => bd (al 0 a1 24) fun v1 => if (v1 ≤ x3 : Prop) then (pu x2) else bd (f_X12_plateOf a1 x3 1) fun v2 => bd (f_X12_plateOf a1 x3 3) fun v3 => bd (cv 12 a0 (f_X12_faceOf a0 v2)) fun v4 => bd (cv 12 a0 (f_X12_isAlike a0 v3 v4)) fun v5 => if (v5 = 0 : Prop) then (f_X12_hadBy_b48 (f_X12_hadBy_b4 n) a0 a1 x3 0 x2) else f_X12_hadBy_b48 (f_X12_hadBy_b4 n) a0 a1 x3 ((1 : Int32) <<< (v2 &&& 31)) x2
def f_X12_hadBy (a0 : Nat) (a1 : Nat) : Mo Int32 := f_X12_hadBy_b4 NF a0 a1 0 0
set_option maxRecDepth 20000 in
theorem h_X12_hadBy_b48 (g : GW) (k4 : Nat → Nat → Int32 → Int32 → Mo Int32) (hk4 : ∀ a0 a1 x2 x3, V g mX12_hadBy 10 rtI 4 [(0, rf g a0), (1, rf g a1), (2, .int x2), (3, .int x3)] [] (k4 a0 a1 x2 x3)) (a0 : Nat) (a1 : Nat) (x3 : Int32) (xs0 : Int32) (xs1 : Int32) : V g mX12_hadBy 10 rtI 48 [(0, rf g a0), (1, rf g a1), (3, .int x3)] [.int xs0, .int xs1] (f_X12_hadBy_b48 k4 a0 a1 x3 xs0 xs1) := by
  unfold f_X12_hadBy_b48
  refine v_ior (pc' := 49) dX12_hadBy_48 rfl ?_
  refine v_istore_n (lv' := [(2, .int (xs1 ||| xs0)), (0, rf g a0), (1, rf g a1), (3, .int x3)]) (pc' := 50) dX12_hadBy_49 rfl (by decide) rfl rfl ?_
  refine v_iinc (v := x3 + 1) (lv' := [(3, .int (x3 + 1)), (2, .int (xs1 ||| xs0)), (0, rf g a0), (1, rf g a1)]) (pc' := 53) 3 dX12_hadBy_50 rfl rfl (by decide) rfl rfl ?_
  refine v_goto (t := 4) dX12_hadBy_53 (by decide) ?_
  refine V.sub [2, 3, 1, 0] rfl ?_
  exact hk4 a0 a1 (xs1 ||| xs0) (x3 + 1)
set_option maxRecDepth 20000 in
theorem h_X12_hadBy_b4 (g : GW) : ∀ n : Nat, ∀ a0 a1 x2 x3, V g mX12_hadBy 10 rtI 4 [(0, rf g a0), (1, rf g a1), (2, .int x2), (3, .int x3)] [] (f_X12_hadBy_b4 n a0 a1 x2 x3) := by
  intro n
  induction n with
  | zero => intro a0 a1 x2 x3; exact V.vain
  | succ n ih =>
    intro a0 a1 x2 x3
    unfold f_X12_hadBy_b4
    refine v_iload_n (pc' := 5) 3 dX12_hadBy_4 rfl rfl rfl ?_
    refine v_aload_n (pc' := 6) 1 dX12_hadBy_5 rfl rfl rfl ?_
    refine v_bipush (v := 24) (pc' := 8) dX12_hadBy_6 rfl rfl ?_
    refine v_iald (pc' := 9) dX12_hadBy_8 rfl fun v1 => ?_
    refine v_icmpge (t := 56) (pc' := 12) dX12_hadBy_9 (by decide) rfl ?_ ?_
    · refine v_iload_n (pc' := 57) 2 dX12_hadBy_56 rfl rfl rfl ?_
      exact v_ireturn rfl dX12_hadBy_57
    · refine v_aload_n (pc' := 13) 1 dX12_hadBy_12 rfl rfl rfl ?_
      refine v_iload_n (pc' := 14) 3 dX12_hadBy_13 rfl rfl rfl ?_
      refine v_iconst (v := 1) (pc' := 15) dX12_hadBy_14 rfl rfl ?_
      refine v_callS (vs := [rf g a1, .int x3, .int 1]) (pc' := 18) (h_X12_plateOf g a1 x3 1) ms_X12_plateOf wl_X12_263 (Nat.le_of_ble_eq_true rfl) (by omega) (by decide) (Nat.le_of_ble_eq_true rfl) rfl dX12_hadBy_15 rfl fun v2 => ?_
      refine v_istore (lv' := [(4, .int v2), (0, rf g a0), (1, rf g a1), (2, .int x2), (3, .int x3)]) (pc' := 20) dX12_hadBy_18 (by decide) rfl rfl ?_
      refine v_iload_n (pc' := 21) 3 dX12_hadBy_20 rfl rfl rfl ?_
      refine v_aload_n (pc' := 22) 1 dX12_hadBy_21 rfl rfl rfl ?_
      refine v_aload_n (pc' := 23) 2 dX12_hadBy_22 rfl rfl rfl ?_
      refine v_iload_n (pc' := 24) 4 dX12_hadBy_23 rfl rfl rfl ?_
      refine v_iconst (v := 3) (pc' := 25) dX12_hadBy_24 rfl rfl ?_
      refine v_callS (vs := [rf g a1, .int x3, .int 3]) (pc' := 28) (h_X12_plateOf g a1 x3 3) ms_X12_plateOf wl_X12_263 (Nat.le_of_ble_eq_true rfl) (by omega) (by decide) (Nat.le_of_ble_eq_true rfl) rfl dX12_hadBy_25 rfl fun v3 => ?_
      refine v_aload_n (pc' := 29) 1 dX12_hadBy_28 rfl rfl rfl ?_
      refine v_iload (pc' := 31) 0 dX12_hadBy_29 rfl rfl ?_
      refine v_callV (vs := [.int v2]) (pc' := 34) (h_X12_faceOf g a0 v2) mv_X12_faceOf wl_X12_253 rfl (Nat.le_of_ble_eq_true rfl) (by omega) (by decide) (Nat.le_of_ble_eq_true rfl) rfl dX12_hadBy_31 rfl fun v4 => ?_
      refine v_callV (vs := [.int v3, .int v4]) (pc' := 37) (h_X12_isAlike g a0 v3 v4) mv_X12_isAlike wl_X12_311 rfl (Nat.le_of_ble_eq_true rfl) (by omega) (by decide) (Nat.le_of_ble_eq_true rfl) rfl dX12_hadBy_34 rfl fun v5 => ?_
      refine v_ifeq (t := 47) (pc' := 40) dX12_hadBy_37 (by decide) rfl ?_ ?_
      · refine v_iconst (v := 0) (pc' := 48) dX12_hadBy_47 rfl rfl ?_
        refine V.sub [1, 2, 4] rfl ?_
        exact h_X12_hadBy_b48 g (f_X12_hadBy_b4 n) ih a0 a1 x3 0 x2
      · refine v_iconst (v := 1) (pc' := 41) dX12_hadBy_40 rfl rfl ?_
        refine v_iload (pc' := 43) 0 dX12_hadBy_41 rfl rfl ?_
        refine v_ishl (pc' := 44) dX12_hadBy_43 rfl ?_
        refine v_goto (t := 48) dX12_hadBy_44 (by decide) ?_
        refine V.sub [1, 2, 4] rfl ?_
        exact h_X12_hadBy_b48 g (f_X12_hadBy_b4 n) ih a0 a1 x3 ((1 : Int32) <<< (v2 &&& 31)) x2
set_option maxRecDepth 20000 in
theorem h_X12_hadBy (g : GW) (a0 : Nat) (a1 : Nat) : V g mX12_hadBy 10 rtI 0 [(0, rf g a0), (1, rf g a1)] [] (f_X12_hadBy a0 a1) := by
  unfold f_X12_hadBy
  refine v_iconst (v := 0) (pc' := 1) dX12_hadBy_0 rfl rfl ?_
  refine v_istore_n (lv' := [(2, .int 0), (0, rf g a0), (1, rf g a1)]) (pc' := 2) dX12_hadBy_1 rfl (by decide) rfl rfl ?_
  refine v_iconst (v := 0) (pc' := 3) dX12_hadBy_2 rfl rfl ?_
  refine v_istore_n (lv' := [(3, .int 0), (2, .int 0), (0, rf g a0), (1, rf g a1)]) (pc' := 4) dX12_hadBy_3 rfl (by decide) rfl rfl ?_
  refine V.sub [2, 3, 1, 0] rfl ?_
  exact h_X12_hadBy_b4 g NF a0 a1 0 0
-- had
def f_X12_had (a0 : Nat) : Mo Int32 := bd (pf 12 0 a0 (.int 0)) fun _ => bd (gR 12 27 a0) fun r1 => bd (cv 12 a0 (f_X12_hadBy a0 r1)) fun v2 => pu v2
set_option maxRecDepth 20000 in
theorem h_X12_had (g : GW) (a0 : Nat) : V g mX12_had 11 rtI 0 [(0, rf g a0)] [] (f_X12_had a0) := by
  unfold f_X12_had
  refine v_aload_n (pc' := 1) 0 dX12_had_0 rfl rfl rfl ?_
  refine v_iconst (v := 0) (pc' := 2) dX12_had_1 rfl rfl ?_
  refine v_put (v := (.int 0)) (v' := .int 0) (pc' := 5) fw_X12_94 rfl rfl rfl (fun h => nomatch h) dX12_had_2 rfl ?_
  refine v_aload_n (pc' := 6) 0 dX12_had_5 rfl rfl rfl ?_
  refine v_aload_n (pc' := 7) 0 dX12_had_6 rfl rfl rfl ?_
  refine v_getR (pc' := 10) fl_X12_61 dX12_had_7 rfl fun r1 => ?_
  refine v_callV (vs := [rf g r1]) (pc' := 13) (h_X12_hadBy g a0 r1) mv_X12_hadBy wl_X12_314 rfl (Nat.le_of_ble_eq_true rfl) (by omega) (by decide) (Nat.le_of_ble_eq_true rfl) rfl dX12_had_10 rfl fun v2 => ?_
  exact v_ireturn rfl dX12_had_13
-- mistaken
def f_X12_mistaken_b7 : Nat → Nat → Int32 → Mo Int32
  | 0, _, _ => fl
  | n + 1, a0, x1 => bd (gR 12 27 a0) fun r1 => bd (al 0 r1 24) fun v2 => if (v2 ≤ x1 : Prop) then (pu (-1)) else bd (gR 12 27 a0) fun r3 => bd (f_X12_plateOf r3 x1 3) fun v4 => bd (cv 12 a0 (f_X12_looksOf a0 v4)) fun v5 => bd (gR 12 27 a0) fun r6 => bd (f_X12_plateOf r6 x1 1) fun v7 => if (v5 = v7 : Prop) then ((f_X12_mistaken_b7 n) a0 (x1 + 1)) else pu x1
def f_X12_mistaken (a0 : Nat) : Mo Int32 := bd (pf 12 0 a0 (.int 0)) fun _ => f_X12_mistaken_b7 NF a0 0
set_option maxRecDepth 20000 in
theorem h_X12_mistaken_b7 (g : GW) : ∀ n : Nat, ∀ a0 x1, V g mX12_mistaken 10 rtI 7 [(0, rf g a0), (1, .int x1)] [] (f_X12_mistaken_b7 n a0 x1) := by
  intro n
  induction n with
  | zero => intro a0 x1; exact V.vain
  | succ n ih =>
    intro a0 x1
    unfold f_X12_mistaken_b7
    refine v_iload_n (pc' := 8) 1 dX12_mistaken_7 rfl rfl rfl ?_
    refine v_aload_n (pc' := 9) 0 dX12_mistaken_8 rfl rfl rfl ?_
    refine v_getR (pc' := 12) fl_X12_61 dX12_mistaken_9 rfl fun r1 => ?_
    refine v_bipush (v := 24) (pc' := 14) dX12_mistaken_12 rfl rfl ?_
    refine v_iald (pc' := 15) dX12_mistaken_14 rfl fun v2 => ?_
    refine v_icmpge (t := 51) (pc' := 18) dX12_mistaken_15 (by decide) rfl ?_ ?_
    · refine v_iconst (v := -1) (pc' := 52) dX12_mistaken_51 rfl rfl ?_
      exact v_ireturn rfl dX12_mistaken_52
    · refine v_aload_n (pc' := 19) 0 dX12_mistaken_18 rfl rfl rfl ?_
      refine v_aload_n (pc' := 20) 0 dX12_mistaken_19 rfl rfl rfl ?_
      refine v_getR (pc' := 23) fl_X12_61 dX12_mistaken_20 rfl fun r3 => ?_
      refine v_iload_n (pc' := 24) 1 dX12_mistaken_23 rfl rfl rfl ?_
      refine v_iconst (v := 3) (pc' := 25) dX12_mistaken_24 rfl rfl ?_
      refine v_callS (vs := [rf g r3, .int x1, .int 3]) (pc' := 28) (h_X12_plateOf g r3 x1 3) ms_X12_plateOf wl_X12_263 (Nat.le_of_ble_eq_true rfl) (by omega) (by decide) (Nat.le_of_ble_eq_true rfl) rfl dX12_mistaken_25 rfl fun v4 => ?_
      refine v_callV (vs := [.int v4]) (pc' := 31) (h_X12_looksOf g a0 v4) mv_X12_looksOf wl_X12_302 rfl (Nat.le_of_ble_eq_true rfl) (by omega) (by decide) (Nat.le_of_ble_eq_true rfl) rfl dX12_mistaken_28 rfl fun v5 => ?_
      refine v_aload_n (pc' := 32) 0 dX12_mistaken_31 rfl rfl rfl ?_
      refine v_getR (pc' := 35) fl_X12_61 dX12_mistaken_32 rfl fun r6 => ?_
      refine v_iload_n (pc' := 36) 1 dX12_mistaken_35 rfl rfl rfl ?_
      refine v_iconst (v := 1) (pc' := 37) dX12_mistaken_36 rfl rfl ?_
      refine v_callS (vs := [rf g r6, .int x1, .int 1]) (pc' := 40) (h_X12_plateOf g r6 x1 1) ms_X12_plateOf wl_X12_263 (Nat.le_of_ble_eq_true rfl) (by omega) (by decide) (Nat.le_of_ble_eq_true rfl) rfl dX12_mistaken_37 rfl fun v7 => ?_
      refine v_icmpeq (t := 45) (pc' := 43) dX12_mistaken_40 (by decide) rfl ?_ ?_
      · refine v_iinc (v := x1 + 1) (lv' := [(1, .int (x1 + 1)), (0, rf g a0)]) (pc' := 48) 1 dX12_mistaken_45 rfl rfl (by decide) rfl rfl ?_
        refine v_goto (t := 7) dX12_mistaken_48 (by decide) ?_
        refine V.sub [1, 0] rfl ?_
        exact ih a0 (x1 + 1)
      · refine v_iload_n (pc' := 44) 1 dX12_mistaken_43 rfl rfl rfl ?_
        exact v_ireturn rfl dX12_mistaken_44
set_option maxRecDepth 20000 in
theorem h_X12_mistaken (g : GW) (a0 : Nat) : V g mX12_mistaken 10 rtI 0 [(0, rf g a0)] [] (f_X12_mistaken a0) := by
  unfold f_X12_mistaken
  refine v_aload_n (pc' := 1) 0 dX12_mistaken_0 rfl rfl rfl ?_
  refine v_iconst (v := 0) (pc' := 2) dX12_mistaken_1 rfl rfl ?_
  refine v_put (v := (.int 0)) (v' := .int 0) (pc' := 5) fw_X12_94 rfl rfl rfl (fun h => nomatch h) dX12_mistaken_2 rfl ?_
  refine v_iconst (v := 0) (pc' := 6) dX12_mistaken_5 rfl rfl ?_
  refine v_istore_n (lv' := [(1, .int 0), (0, rf g a0)]) (pc' := 7) dX12_mistaken_6 rfl (by decide) rfl rfl ?_
  refine V.sub [1, 0] rfl ?_
  exact h_X12_mistaken_b7 g NF a0 0
-- canOf
def f_X12_canOf_b58 (k4 : Nat → Int32 → Int32 → Int32 → Mo Int32) (a0 : Nat) (x1 : Int32) (x3 : Int32) (xs0 : Int32) (xs1 : Int32) : Mo Int32 := k4 a0 x1 (xs1 ||| xs0) (x3 + 1)
def f_X12_canOf_b57 (k4 : Nat → Int32 → Int32 → Int32 → Mo Int32) (a0 : Nat) (x1 : Int32) (x3 : Int32) (xs0 : Int32) : Mo Int32 := f_X12_canOf_b58 k4 a0 x1 x3 0 xs0
def f_X12_canOf_b4 : Nat → Nat → Int32 → Int32 → Int32 → Mo Int32
  | 0, _, _, _, _ => fl
  | n + 1, a0, x1, x2, x3 => bd (gR 12 12 a0) fun r1 => bd (al 0 r1 0) fun v2 => if (v2 ≤ x3 : Prop) then (pu x2) else bd (gR 12 14 a0) fun r3 => bd (al 0 r3 x3) fun v4 => bd (f_X12_has v4 x1) fun v5 => if (v5 = 0 : Prop) then (bd (gR 12 27 a0) fun r6 => bd (cv 12 a0 (f_X12_shownBy a0 r6 x3 x1 0)) fun v7 => bd (cv 12 a0 (f_X12_faceOf a0 x1)) fun v8 => bd (cv 12 a0 (f_X12_isAlike a0 v7 v8)) fun v9 => if (v9 = 0 : Prop) then (f_X12_canOf_b57 (f_X12_canOf_b4 n) a0 x1 x3 x2) else f_X12_canOf_b58 (f_X12_canOf_b4 n) a0 x1 x3 ((1 : Int32) <<< (x3 &&& 31)) x2) else f_X12_canOf_b57 (f_X12_canOf_b4 n) a0 x1 x3 x2
def f_X12_canOf (a0 : Nat) (x1 : Int32) : Mo Int32 := f_X12_canOf_b4 NF a0 x1 0 0
set_option maxRecDepth 20000 in
theorem h_X12_canOf_b58 (g : GW) (k4 : Nat → Int32 → Int32 → Int32 → Mo Int32) (hk4 : ∀ a0 x1 x2 x3, V g mX12_canOf 12 rtI 4 [(0, rf g a0), (1, .int x1), (2, .int x2), (3, .int x3)] [] (k4 a0 x1 x2 x3)) (a0 : Nat) (x1 : Int32) (x3 : Int32) (xs0 : Int32) (xs1 : Int32) : V g mX12_canOf 12 rtI 58 [(0, rf g a0), (1, .int x1), (3, .int x3)] [.int xs0, .int xs1] (f_X12_canOf_b58 k4 a0 x1 x3 xs0 xs1) := by
  unfold f_X12_canOf_b58
  refine v_ior (pc' := 59) dX12_canOf_58 rfl ?_
  refine v_istore_n (lv' := [(2, .int (xs1 ||| xs0)), (0, rf g a0), (1, .int x1), (3, .int x3)]) (pc' := 60) dX12_canOf_59 rfl (by decide) rfl rfl ?_
  refine v_iinc (v := x3 + 1) (lv' := [(3, .int (x3 + 1)), (2, .int (xs1 ||| xs0)), (0, rf g a0), (1, .int x1)]) (pc' := 63) 3 dX12_canOf_60 rfl rfl (by decide) rfl rfl ?_
  refine v_goto (t := 4) dX12_canOf_63 (by decide) ?_
  refine V.sub [2, 3, 1, 0] rfl ?_
  exact hk4 a0 x1 (xs1 ||| xs0) (x3 + 1)
set_option maxRecDepth 20000 in
theorem h_X12_canOf_b57 (g : GW) (k4 : Nat → Int32 → Int32 → Int32 → Mo Int32) (hk4 : ∀ a0 x1 x2 x3, V g mX12_canOf 12 rtI 4 [(0, rf g a0), (1, .int x1), (2, .int x2), (3, .int x3)] [] (k4 a0 x1 x2 x3)) (a0 : Nat) (x1 : Int32) (x3 : Int32) (xs0 : Int32) : V g mX12_canOf 12 rtI 57 [(0, rf g a0), (1, .int x1), (3, .int x3)] [.int xs0] (f_X12_canOf_b57 k4 a0 x1 x3 xs0) := by
  unfold f_X12_canOf_b57
  refine v_iconst (v := 0) (pc' := 58) dX12_canOf_57 rfl rfl ?_
  refine V.sub [0, 1, 2] rfl ?_
  exact h_X12_canOf_b58 g k4 hk4 a0 x1 x3 0 xs0
set_option maxRecDepth 20000 in
theorem h_X12_canOf_b4 (g : GW) : ∀ n : Nat, ∀ a0 x1 x2 x3, V g mX12_canOf 12 rtI 4 [(0, rf g a0), (1, .int x1), (2, .int x2), (3, .int x3)] [] (f_X12_canOf_b4 n a0 x1 x2 x3) := by
  intro n
  induction n with
  | zero => intro a0 x1 x2 x3; exact V.vain
  | succ n ih =>
    intro a0 x1 x2 x3
    unfold f_X12_canOf_b4
    refine v_iload_n (pc' := 5) 3 dX12_canOf_4 rfl rfl rfl ?_
    refine v_aload_n (pc' := 6) 0 dX12_canOf_5 rfl rfl rfl ?_
    refine v_getR (pc' := 9) fl_X12_23 dX12_canOf_6 rfl fun r1 => ?_
    refine v_iconst (v := 0) (pc' := 10) dX12_canOf_9 rfl rfl ?_
    refine v_iald (pc' := 11) dX12_canOf_10 rfl fun v2 => ?_
    refine v_icmpge (t := 66) (pc' := 14) dX12_canOf_11 (by decide) rfl ?_ ?_
    · refine v_iload_n (pc' := 67) 2 dX12_canOf_66 rfl rfl rfl ?_
      exact v_ireturn rfl dX12_canOf_67
    · refine v_iload_n (pc' := 15) 2 dX12_canOf_14 rfl rfl rfl ?_
      refine v_aload_n (pc' := 16) 0 dX12_canOf_15 rfl rfl rfl ?_
      refine v_getR (pc' := 19) fl_X12_29 dX12_canOf_16 rfl fun r3 => ?_
      refine v_iload_n (pc' := 20) 3 dX12_canOf_19 rfl rfl rfl ?_
      refine v_iald (pc' := 21) dX12_canOf_20 rfl fun v4 => ?_
      refine v_iload_n (pc' := 22) 1 dX12_canOf_21 rfl rfl rfl ?_
      refine v_callS (vs := [.int v4, .int x1]) (pc' := 25) (h_X12_has g v4 x1) ms_X12_has wl_X12_246 (Nat.le_of_ble_eq_true rfl) (by omega) (by decide) (Nat.le_of_ble_eq_true rfl) rfl dX12_canOf_22 rfl fun v5 => ?_
      refine v_ifne (t := 57) (pc' := 28) dX12_canOf_25 (by decide) rfl ?_ ?_
      · refine V.sub [0, 1, 3] rfl ?_
        exact h_X12_canOf_b57 g (f_X12_canOf_b4 n) ih a0 x1 x3 x2
      · refine v_aload_n (pc' := 29) 0 dX12_canOf_28 rfl rfl rfl ?_
        refine v_aload_n (pc' := 30) 0 dX12_canOf_29 rfl rfl rfl ?_
        refine v_aload_n (pc' := 31) 0 dX12_canOf_30 rfl rfl rfl ?_
        refine v_getR (pc' := 34) fl_X12_61 dX12_canOf_31 rfl fun r6 => ?_
        refine v_iload_n (pc' := 35) 3 dX12_canOf_34 rfl rfl rfl ?_
        refine v_iload_n (pc' := 36) 1 dX12_canOf_35 rfl rfl rfl ?_
        refine v_iconst (v := 0) (pc' := 37) dX12_canOf_36 rfl rfl ?_
        refine v_callV (vs := [rf g r6, .int x3, .int x1, .int 0]) (pc' := 40) (h_X12_shownBy g a0 r6 x3 x1 0) mv_X12_shownBy wl_X12_259 rfl (Nat.le_of_ble_eq_true rfl) (by omega) (by decide) (Nat.le_of_ble_eq_true rfl) rfl dX12_canOf_37 rfl fun v7 => ?_
        refine v_aload_n (pc' := 41) 0 dX12_canOf_40 rfl rfl rfl ?_
        refine v_iload_n (pc' := 42) 1 dX12_canOf_41 rfl rfl rfl ?_
        refine v_callV (vs := [.int x1]) (pc' := 45) (h_X12_faceOf g a0 x1) mv_X12_faceOf wl_X12_253 rfl (Nat.le_of_ble_eq_true rfl) (by omega) (by decide) (Nat.le_of_ble_eq_true rfl) rfl dX12_canOf_42 rfl fun v8 => ?_
        refine v_callV (vs := [.int v7, .int v8]) (pc' := 48) (h_X12_isAlike g a0 v7 v8) mv_X12_isAlike wl_X12_311 rfl (Nat.le_of_ble_eq_true rfl) (by omega) (by decide) (Nat.le_of_ble_eq_true rfl) rfl dX12_canOf_45 rfl fun v9 => ?_
        refine v_ifeq (t := 57) (pc' := 51) dX12_canOf_48 (by decide) rfl ?_ ?_
        · refine V.sub [0, 1, 3] rfl ?_
          exact h_X12_canOf_b57 g (f_X12_canOf_b4 n) ih a0 x1 x3 x2
        · refine v_iconst (v := 1) (pc' := 52) dX12_canOf_51 rfl rfl ?_
          refine v_iload_n (pc' := 53) 3 dX12_canOf_52 rfl rfl rfl ?_
          refine v_ishl (pc' := 54) dX12_canOf_53 rfl ?_
          refine v_goto (t := 58) dX12_canOf_54 (by decide) ?_
          refine V.sub [0, 1, 3] rfl ?_
          exact h_X12_canOf_b58 g (f_X12_canOf_b4 n) ih a0 x1 x3 ((1 : Int32) <<< (x3 &&& 31)) x2
set_option maxRecDepth 20000 in
theorem h_X12_canOf (g : GW) (a0 : Nat) (x1 : Int32) : V g mX12_canOf 12 rtI 0 [(0, rf g a0), (1, .int x1)] [] (f_X12_canOf a0 x1) := by
  unfold f_X12_canOf
  refine v_iconst (v := 0) (pc' := 1) dX12_canOf_0 rfl rfl ?_
  refine v_istore_n (lv' := [(2, .int 0), (0, rf g a0), (1, .int x1)]) (pc' := 2) dX12_canOf_1 rfl (by decide) rfl rfl ?_
  refine v_iconst (v := 0) (pc' := 3) dX12_canOf_2 rfl rfl ?_
  refine v_istore_n (lv' := [(3, .int 0), (2, .int 0), (0, rf g a0), (1, .int x1)]) (pc' := 4) dX12_canOf_3 rfl (by decide) rfl rfl ?_
  refine V.sub [2, 3, 1, 0] rfl ?_
  exact h_X12_canOf_b4 g NF a0 x1 0 0
-- can
def f_X12_can_b19 (a0 : Nat) (x1 : Int32) (xs0 : Int32) (as1 : Nat) : Mo Int32 := bd (cv 12 as1 (f_X12_bad as1 xs0 1 0)) fun v1 => if (v1 = 0 : Prop) then (bd (cv 12 a0 (f_X12_canOf a0 x1)) fun v2 => pu v2) else pu 0
def f_X12_can (a0 : Nat) (x1 : Int32) : Mo Int32 := bd (pf 12 0 a0 (.int 0)) fun _ => bd (cv 12 a0 (f_X12_isPerson a0 x1)) fun v3 => if (v3 = 0 : Prop) then (f_X12_can_b19 a0 x1 1 a0) else f_X12_can_b19 a0 x1 0 a0
set_option maxRecDepth 20000 in
theorem h_X12_can_b19 (g : GW) (a0 : Nat) (x1 : Int32) (xs0 : Int32) (as1 : Nat) : V g mX12_can 13 rtI 19 [(0, rf g a0), (1, .int x1)] [.int xs0, rf g as1] (f_X12_can_b19 a0 x1 xs0 as1) := by
  unfold f_X12_can_b19
  refine v_iconst (v := 1) (pc' := 20) dX12_can_19 rfl rfl ?_
  refine v_iconst (v := 0) (pc' := 21) dX12_can_20 rfl rfl ?_
  refine v_callV (vs := [.int xs0, .int 1, .int 0]) (pc' := 24) (h_X12_bad g as1 xs0 1 0) mv_X12_bad wl_X12_167 rfl (Nat.le_of_ble_eq_true rfl) (by omega) (by decide) (Nat.le_of_ble_eq_true rfl) rfl dX12_can_21 rfl fun v1 => ?_
  refine v_ifeq (t := 29) (pc' := 27) dX12_can_24 (by decide) rfl ?_ ?_
  · refine v_aload_n (pc' := 30) 0 dX12_can_29 rfl rfl rfl ?_
    refine v_iload_n (pc' := 31) 1 dX12_can_30 rfl rfl rfl ?_
    refine v_callV (vs := [.int x1]) (pc' := 34) (h_X12_canOf g a0 x1) mv_X12_canOf wl_X12_318 rfl (Nat.le_of_ble_eq_true rfl) (by omega) (by decide) (Nat.le_of_ble_eq_true rfl) rfl dX12_can_31 rfl fun v2 => ?_
    exact v_ireturn rfl dX12_can_34
  · refine v_iconst (v := 0) (pc' := 28) dX12_can_27 rfl rfl ?_
    exact v_ireturn rfl dX12_can_28
set_option maxRecDepth 20000 in
theorem h_X12_can (g : GW) (a0 : Nat) (x1 : Int32) : V g mX12_can 13 rtI 0 [(0, rf g a0), (1, .int x1)] [] (f_X12_can a0 x1) := by
  unfold f_X12_can
  refine v_aload_n (pc' := 1) 0 dX12_can_0 rfl rfl rfl ?_
  refine v_iconst (v := 0) (pc' := 2) dX12_can_1 rfl rfl ?_
  refine v_put (v := (.int 0)) (v' := .int 0) (pc' := 5) fw_X12_94 rfl rfl rfl (fun h => nomatch h) dX12_can_2 rfl ?_
  refine v_aload_n (pc' := 6) 0 dX12_can_5 rfl rfl rfl ?_
  refine v_aload_n (pc' := 7) 0 dX12_can_6 rfl rfl rfl ?_
  refine v_iload_n (pc' := 8) 1 dX12_can_7 rfl rfl rfl ?_
  refine v_callV (vs := [.int x1]) (pc' := 11) (h_X12_isPerson g a0 x1) mv_X12_isPerson wl_X12_296 rfl (Nat.le_of_ble_eq_true rfl) (by omega) (by decide) (Nat.le_of_ble_eq_true rfl) rfl dX12_can_8 rfl fun v3 => ?_
  refine v_ifne (t := 18) (pc' := 14) dX12_can_11 (by decide) rfl ?_ ?_
  · refine v_iconst (v := 0) (pc' := 19) dX12_can_18 rfl rfl ?_
    refine V.sub [0, 1] rfl ?_
    exact h_X12_can_b19 g a0 x1 0 a0
  · refine v_iconst (v := 1) (pc' := 15) dX12_can_14 rfl rfl ?_
    refine v_goto (t := 19) dX12_can_15 (by decide) ?_
    refine V.sub [0, 1] rfl ?_
    exact h_X12_can_b19 g a0 x1 1 a0
-- laysCans
def f_X12_laysCans_b2 : Nat → Nat → Int32 → Mo Unit
  | 0, _, _ => fl
  | n + 1, a0, x1 => bd (gR 12 12 a0) fun r1 => bd (al 0 r1 0) fun v2 => if (v2 ≤ x1 : Prop) then (pu ()) else bd (gR 12 38 a0) fun r3 => bd (cv 12 a0 (f_X12_canOf a0 x1)) fun v4 => bd (as_ r3 x1 v4) fun _ => (f_X12_laysCans_b2 n) a0 (x1 + 1)
def f_X12_laysCans (a0 : Nat) : Mo Unit := f_X12_laysCans_b2 NF a0 0
set_option maxRecDepth 20000 in
theorem h_X12_laysCans_b2 (g : GW) : ∀ n : Nat, ∀ a0 x1, V g mX12_laysCans 13 rtU 2 [(0, rf g a0), (1, .int x1)] [] (f_X12_laysCans_b2 n a0 x1) := by
  intro n
  induction n with
  | zero => intro a0 x1; exact V.vain
  | succ n ih =>
    intro a0 x1
    unfold f_X12_laysCans_b2
    refine v_iload_n (pc' := 3) 1 dX12_laysCans_2 rfl rfl rfl ?_
    refine v_aload_n (pc' := 4) 0 dX12_laysCans_3 rfl rfl rfl ?_
    refine v_getR (pc' := 7) fl_X12_23 dX12_laysCans_4 rfl fun r1 => ?_
    refine v_iconst (v := 0) (pc' := 8) dX12_laysCans_7 rfl rfl ?_
    refine v_iald (pc' := 9) dX12_laysCans_8 rfl fun v2 => ?_
    refine v_icmpge (t := 29) (pc' := 12) dX12_laysCans_9 (by decide) rfl ?_ ?_
    · exact v_return rfl dX12_laysCans_29
    · refine v_aload_n (pc' := 13) 0 dX12_laysCans_12 rfl rfl rfl ?_
      refine v_getR (pc' := 16) fl_X12_73 dX12_laysCans_13 rfl fun r3 => ?_
      refine v_iload_n (pc' := 17) 1 dX12_laysCans_16 rfl rfl rfl ?_
      refine v_aload_n (pc' := 18) 0 dX12_laysCans_17 rfl rfl rfl ?_
      refine v_iload_n (pc' := 19) 1 dX12_laysCans_18 rfl rfl rfl ?_
      refine v_callV (vs := [.int x1]) (pc' := 22) (h_X12_canOf g a0 x1) mv_X12_canOf wl_X12_318 rfl (Nat.le_of_ble_eq_true rfl) (by omega) (by decide) (Nat.le_of_ble_eq_true rfl) rfl dX12_laysCans_19 rfl fun v4 => ?_
      refine v_iast (pc' := 23) dX12_laysCans_22 rfl ?_
      refine v_iinc (v := x1 + 1) (lv' := [(1, .int (x1 + 1)), (0, rf g a0)]) (pc' := 26) 1 dX12_laysCans_23 rfl rfl (by decide) rfl rfl ?_
      refine v_goto (t := 2) dX12_laysCans_26 (by decide) ?_
      refine V.sub [1, 0] rfl ?_
      exact ih a0 (x1 + 1)
set_option maxRecDepth 20000 in
theorem h_X12_laysCans (g : GW) (a0 : Nat) : V g mX12_laysCans 13 rtU 0 [(0, rf g a0)] [] (f_X12_laysCans a0) := by
  unfold f_X12_laysCans
  refine v_iconst (v := 0) (pc' := 1) dX12_laysCans_0 rfl rfl ?_
  refine v_istore_n (lv' := [(1, .int 0), (0, rf g a0)]) (pc' := 2) dX12_laysCans_1 rfl (by decide) rfl rfl ?_
  refine V.sub [1, 0] rfl ?_
  exact h_X12_laysCans_b2 g NF a0 0
-- isEnough
def f_X12_isEnough_b33 (k2 : Nat → Int32 → Int32 → Int32 → Mo Int32) (a0 : Nat) (x1 : Int32) (x2 : Int32) (x3 : Int32) : Mo Int32 := k2 a0 x1 x2 (x3 + 1)
def f_X12_isEnough_b2 : Nat → Nat → Int32 → Int32 → Int32 → Mo Int32
  | 0, _, _, _, _ => fl
  | n + 1, a0, x1, x2, x3 => bd (gR 12 12 a0) fun r1 => bd (al 0 r1 0) fun v2 => if (v2 ≤ x3 : Prop) then (pu 1) else bd (f_X12_has x2 x3) fun v3 => if (v3 = 0 : Prop) then (f_X12_isEnough_b33 (f_X12_isEnough_b2 n) a0 x1 x2 x3) else bd (gR 12 38 a0) fun r4 => bd (al 0 r4 x3) fun v5 => if ((v5 &&& x1) = 0 : Prop) then (pu 0) else f_X12_isEnough_b33 (f_X12_isEnough_b2 n) a0 x1 x2 x3
def f_X12_isEnough (a0 : Nat) (x1 : Int32) (x2 : Int32) : Mo Int32 := f_X12_isEnough_b2 NF a0 x1 x2 0
set_option maxRecDepth 20000 in
theorem h_X12_isEnough_b33 (g : GW) (k2 : Nat → Int32 → Int32 → Int32 → Mo Int32) (hk2 : ∀ a0 x1 x2 x3, V g mX12_isEnough 9 rtI 2 [(0, rf g a0), (1, .int x1), (2, .int x2), (3, .int x3)] [] (k2 a0 x1 x2 x3)) (a0 : Nat) (x1 : Int32) (x2 : Int32) (x3 : Int32) : V g mX12_isEnough 9 rtI 33 [(0, rf g a0), (1, .int x1), (2, .int x2), (3, .int x3)] [] (f_X12_isEnough_b33 k2 a0 x1 x2 x3) := by
  unfold f_X12_isEnough_b33
  refine v_iinc (v := x3 + 1) (lv' := [(3, .int (x3 + 1)), (0, rf g a0), (1, .int x1), (2, .int x2)]) (pc' := 36) 3 dX12_isEnough_33 rfl rfl (by decide) rfl rfl ?_
  refine v_goto (t := 2) dX12_isEnough_36 (by decide) ?_
  refine V.sub [1, 2, 3, 0] rfl ?_
  exact hk2 a0 x1 x2 (x3 + 1)
set_option maxRecDepth 20000 in
theorem h_X12_isEnough_b2 (g : GW) : ∀ n : Nat, ∀ a0 x1 x2 x3, V g mX12_isEnough 9 rtI 2 [(0, rf g a0), (1, .int x1), (2, .int x2), (3, .int x3)] [] (f_X12_isEnough_b2 n a0 x1 x2 x3) := by
  intro n
  induction n with
  | zero => intro a0 x1 x2 x3; exact V.vain
  | succ n ih =>
    intro a0 x1 x2 x3
    unfold f_X12_isEnough_b2
    refine v_iload_n (pc' := 3) 3 dX12_isEnough_2 rfl rfl rfl ?_
    refine v_aload_n (pc' := 4) 0 dX12_isEnough_3 rfl rfl rfl ?_
    refine v_getR (pc' := 7) fl_X12_23 dX12_isEnough_4 rfl fun r1 => ?_
    refine v_iconst (v := 0) (pc' := 8) dX12_isEnough_7 rfl rfl ?_
    refine v_iald (pc' := 9) dX12_isEnough_8 rfl fun v2 => ?_
    refine v_icmpge (t := 39) (pc' := 12) dX12_isEnough_9 (by decide) rfl ?_ ?_
    · refine v_iconst (v := 1) (pc' := 40) dX12_isEnough_39 rfl rfl ?_
      exact v_zret rfl rfl dX12_isEnough_40
    · refine v_iload_n (pc' := 13) 2 dX12_isEnough_12 rfl rfl rfl ?_
      refine v_iload_n (pc' := 14) 3 dX12_isEnough_13 rfl rfl rfl ?_
      refine v_callS (vs := [.int x2, .int x3]) (pc' := 17) (h_X12_has g x2 x3) ms_X12_has wl_X12_246 (Nat.le_of_ble_eq_true rfl) (by omega) (by decide) (Nat.le_of_ble_eq_true rfl) rfl dX12_isEnough_14 rfl fun v3 => ?_
      refine v_ifeq (t := 33) (pc' := 20) dX12_isEnough_17 (by decide) rfl ?_ ?_
      · refine V.sub [0, 1, 2, 3] rfl ?_
        exact h_X12_isEnough_b33 g (f_X12_isEnough_b2 n) ih a0 x1 x2 x3
      · refine v_aload_n (pc' := 21) 0 dX12_isEnough_20 rfl rfl rfl ?_
        refine v_getR (pc' := 24) fl_X12_73 dX12_isEnough_21 rfl fun r4 => ?_
        refine v_iload_n (pc' := 25) 3 dX12_isEnough_24 rfl rfl rfl ?_
        refine v_iald (pc' := 26) dX12_isEnough_25 rfl fun v5 => ?_
        refine v_iload_n (pc' := 27) 1 dX12_isEnough_26 rfl rfl rfl ?_
        refine v_iand (pc' := 28) dX12_isEnough_27 rfl ?_
        refine v_ifne (t := 33) (pc' := 31) dX12_isEnough_28 (by decide) rfl ?_ ?_
        · refine V.sub [0, 1, 2, 3] rfl ?_
          exact h_X12_isEnough_b33 g (f_X12_isEnough_b2 n) ih a0 x1 x2 x3
        · refine v_iconst (v := 0) (pc' := 32) dX12_isEnough_31 rfl rfl ?_
          exact v_zret rfl rfl dX12_isEnough_32
set_option maxRecDepth 20000 in
theorem h_X12_isEnough (g : GW) (a0 : Nat) (x1 : Int32) (x2 : Int32) : V g mX12_isEnough 9 rtI 0 [(0, rf g a0), (1, .int x1), (2, .int x2)] [] (f_X12_isEnough a0 x1 x2) := by
  unfold f_X12_isEnough
  refine v_iconst (v := 0) (pc' := 1) dX12_isEnough_0 rfl rfl ?_
  refine v_istore_n (lv' := [(3, .int 0), (0, rf g a0), (1, .int x1), (2, .int x2)]) (pc' := 2) dX12_isEnough_1 rfl (by decide) rfl rfl ?_
  refine V.sub [1, 2, 3, 0] rfl ?_
  exact h_X12_isEnough_b2 g NF a0 x1 x2 0
-- fewest
def f_X12_fewest_b80 (k46 : Nat → Int32 → Int32 → Int32 → Mo Int32) (a0 : Nat) (x1 : Int32) (x3 : Int32) (xs0 : Int32) : Mo Int32 := k46 a0 x1 xs0 (x3 + (-1))
def f_X12_fewest_b79 (k46 : Nat → Int32 → Int32 → Int32 → Mo Int32) (a0 : Nat) (x1 : Int32) (x2 : Int32) (x3 : Int32) : Mo Int32 := f_X12_fewest_b80 k46 a0 x1 x3 x2
def f_X12_fewest_b75 (k46 : Nat → Int32 → Int32 → Int32 → Mo Int32) (a0 : Nat) (x1 : Int32) (x3 : Int32) : Mo Int32 := f_X12_fewest_b80 k46 a0 x1 x3 x3
def f_X12_fewest_b46 : Nat → Nat → Int32 → Int32 → Int32 → Mo Int32
  | 0, _, _, _, _ => fl
  | n + 1, a0, x1, x2, x3 => if (x3 < 0 : Prop) then (pu x2) else bd (cv 12 a0 (f_X12_isEnough a0 x3 x1)) fun v1 => if (v1 = 0 : Prop) then (f_X12_fewest_b79 (f_X12_fewest_b46 n) a0 x1 x2 x3) else if (x2 = (-1) : Prop) then (f_X12_fewest_b75 (f_X12_fewest_b46 n) a0 x1 x3) else bd (f_X12_ones x3) fun v2 => bd (f_X12_ones x2) fun v3 => if (v3 < v2 : Prop) then (f_X12_fewest_b79 (f_X12_fewest_b46 n) a0 x1 x2 x3) else f_X12_fewest_b75 (f_X12_fewest_b46 n) a0 x1 x3
def f_X12_fewest_b19 (a0 : Nat) (x1 : Int32) (xs0 : Int32) (as1 : Nat) : Mo Int32 := bd (cv 12 as1 (f_X12_bad as1 xs0 1 1)) fun v4 => if (v4 = 0 : Prop) then (bd (cv 12 a0 (f_X12_laysCans a0)) fun _ => bd (gR 12 12 a0) fun r5 => bd (al 0 r5 0) fun v6 => f_X12_fewest_b46 NF a0 x1 (-1) (((1 : Int32) <<< (v6 &&& 31)) - (1 : Int32))) else pu 0
def f_X12_fewest (a0 : Nat) (x1 : Int32) : Mo Int32 := bd (pf 12 0 a0 (.int 0)) fun _ => bd (cv 12 a0 (f_X12_arePersons a0 x1)) fun v7 => if (v7 = 0 : Prop) then (f_X12_fewest_b19 a0 x1 1 a0) else f_X12_fewest_b19 a0 x1 0 a0
set_option maxRecDepth 20000 in
theorem h_X12_fewest_b80 (g : GW) (k46 : Nat → Int32 → Int32 → Int32 → Mo Int32) (hk46 : ∀ a0 x1 x2 x3, V g mX12_fewest 14 rtI 46 [(0, rf g a0), (1, .int x1), (2, .int x2), (3, .int x3)] [] (k46 a0 x1 x2 x3)) (a0 : Nat) (x1 : Int32) (x3 : Int32) (xs0 : Int32) : V g mX12_fewest 14 rtI 80 [(0, rf g a0), (1, .int x1), (3, .int x3)] [.int xs0] (f_X12_fewest_b80 k46 a0 x1 x3 xs0) := by
  unfold f_X12_fewest_b80
  refine v_istore_n (lv' := [(2, .int xs0), (0, rf g a0), (1, .int x1), (3, .int x3)]) (pc' := 81) dX12_fewest_80 rfl (by decide) rfl rfl ?_
  refine v_iinc (v := x3 + (-1)) (lv' := [(3, .int (x3 + (-1))), (2, .int xs0), (0, rf g a0), (1, .int x1)]) (pc' := 84) 3 dX12_fewest_81 rfl rfl (by decide) rfl rfl ?_
  refine v_goto (t := 46) dX12_fewest_84 (by decide) ?_
  refine V.sub [2, 3, 1, 0] rfl ?_
  exact hk46 a0 x1 xs0 (x3 + (-1))
set_option maxRecDepth 20000 in
theorem h_X12_fewest_b79 (g : GW) (k46 : Nat → Int32 → Int32 → Int32 → Mo Int32) (hk46 : ∀ a0 x1 x2 x3, V g mX12_fewest 14 rtI 46 [(0, rf g a0), (1, .int x1), (2, .int x2), (3, .int x3)] [] (k46 a0 x1 x2 x3)) (a0 : Nat) (x1 : Int32) (x2 : Int32) (x3 : Int32) : V g mX12_fewest 14 rtI 79 [(0, rf g a0), (1, .int x1), (2, .int x2), (3, .int x3)] [] (f_X12_fewest_b79 k46 a0 x1 x2 x3) := by
  unfold f_X12_fewest_b79
  refine v_iload_n (pc' := 80) 2 dX12_fewest_79 rfl rfl rfl ?_
  refine V.sub [0, 1, 3] rfl ?_
  exact h_X12_fewest_b80 g k46 hk46 a0 x1 x3 x2
set_option maxRecDepth 20000 in
theorem h_X12_fewest_b75 (g : GW) (k46 : Nat → Int32 → Int32 → Int32 → Mo Int32) (hk46 : ∀ a0 x1 x2 x3, V g mX12_fewest 14 rtI 46 [(0, rf g a0), (1, .int x1), (2, .int x2), (3, .int x3)] [] (k46 a0 x1 x2 x3)) (a0 : Nat) (x1 : Int32) (x3 : Int32) : V g mX12_fewest 14 rtI 75 [(0, rf g a0), (1, .int x1), (3, .int x3)] [] (f_X12_fewest_b75 k46 a0 x1 x3) := by
  unfold f_X12_fewest_b75
  refine v_iload_n (pc' := 76) 2 dX12_fewest_75 rfl rfl rfl ?_
  refine v_goto (t := 80) dX12_fewest_76 (by decide) ?_
  refine V.sub [0, 1, 2] rfl ?_
  exact h_X12_fewest_b80 g k46 hk46 a0 x1 x3 x3
set_option maxRecDepth 20000 in
theorem h_X12_fewest_b46 (g : GW) : ∀ n : Nat, ∀ a0 x1 x2 x3, V g mX12_fewest 14 rtI 46 [(0, rf g a0), (1, .int x1), (2, .int x2), (3, .int x3)] [] (f_X12_fewest_b46 n a0 x1 x2 x3) := by
  intro n
  induction n with
  | zero => intro a0 x1 x2 x3; exact V.vain
  | succ n ih =>
    intro a0 x1 x2 x3
    unfold f_X12_fewest_b46
    refine v_iload_n (pc' := 47) 3 dX12_fewest_46 rfl rfl rfl ?_
    refine v_iflt (t := 87) (pc' := 50) dX12_fewest_47 (by decide) rfl ?_ ?_
    · refine v_iload_n (pc' := 88) 2 dX12_fewest_87 rfl rfl rfl ?_
      exact v_ireturn rfl dX12_fewest_88
    · refine v_aload_n (pc' := 51) 0 dX12_fewest_50 rfl rfl rfl ?_
      refine v_iload_n (pc' := 52) 3 dX12_fewest_51 rfl rfl rfl ?_
      refine v_iload_n (pc' := 53) 1 dX12_fewest_52 rfl rfl rfl ?_
      refine v_callV (vs := [.int x3, .int x1]) (pc' := 56) (h_X12_isEnough g a0 x3 x1) mv_X12_isEnough wl_X12_327 rfl (Nat.le_of_ble_eq_true rfl) (by omega) (by decide) (Nat.le_of_ble_eq_true rfl) rfl dX12_fewest_53 rfl fun v1 => ?_
      refine v_ifeq (t := 79) (pc' := 59) dX12_fewest_56 (by decide) rfl ?_ ?_
      · refine V.sub [0, 1, 2, 3] rfl ?_
        exact h_X12_fewest_b79 g (f_X12_fewest_b46 n) ih a0 x1 x2 x3
      · refine v_iload_n (pc' := 60) 2 dX12_fewest_59 rfl rfl rfl ?_
        refine v_iconst (v := -1) (pc' := 61) dX12_fewest_60 rfl rfl ?_
        refine v_icmpeq (t := 75) (pc' := 64) dX12_fewest_61 (by decide) rfl ?_ ?_
        · refine V.sub [0, 1, 3] rfl ?_
          exact h_X12_fewest_b75 g (f_X12_fewest_b46 n) ih a0 x1 x3
        · refine v_iload_n (pc' := 65) 3 dX12_fewest_64 rfl rfl rfl ?_
          refine v_callS (vs := [.int x3]) (pc' := 68) (h_X12_ones g x3) ms_X12_ones wl_X12_250 (Nat.le_of_ble_eq_true rfl) (by omega) (by decide) (Nat.le_of_ble_eq_true rfl) rfl dX12_fewest_65 rfl fun v2 => ?_
          refine v_iload_n (pc' := 69) 2 dX12_fewest_68 rfl rfl rfl ?_
          refine v_callS (vs := [.int x2]) (pc' := 72) (h_X12_ones g x2) ms_X12_ones wl_X12_250 (Nat.le_of_ble_eq_true rfl) (by omega) (by decide) (Nat.le_of_ble_eq_true rfl) rfl dX12_fewest_69 rfl fun v3 => ?_
          refine v_icmpgt (t := 79) (pc' := 75) dX12_fewest_72 (by decide) rfl ?_ ?_
          · refine V.sub [0, 1, 2, 3] rfl ?_
            exact h_X12_fewest_b79 g (f_X12_fewest_b46 n) ih a0 x1 x2 x3
          · refine V.sub [0, 1, 3] rfl ?_
            exact h_X12_fewest_b75 g (f_X12_fewest_b46 n) ih a0 x1 x3
set_option maxRecDepth 20000 in
theorem h_X12_fewest_b19 (g : GW) (a0 : Nat) (x1 : Int32) (xs0 : Int32) (as1 : Nat) : V g mX12_fewest 14 rtI 19 [(0, rf g a0), (1, .int x1)] [.int xs0, rf g as1] (f_X12_fewest_b19 a0 x1 xs0 as1) := by
  unfold f_X12_fewest_b19
  refine v_iconst (v := 1) (pc' := 20) dX12_fewest_19 rfl rfl ?_
  refine v_iconst (v := 1) (pc' := 21) dX12_fewest_20 rfl rfl ?_
  refine v_callV (vs := [.int xs0, .int 1, .int 1]) (pc' := 24) (h_X12_bad g as1 xs0 1 1) mv_X12_bad wl_X12_167 rfl (Nat.le_of_ble_eq_true rfl) (by omega) (by decide) (Nat.le_of_ble_eq_true rfl) rfl dX12_fewest_21 rfl fun v4 => ?_
  refine v_ifeq (t := 29) (pc' := 27) dX12_fewest_24 (by decide) rfl ?_ ?_
  · refine v_iconst (v := -1) (pc' := 30) dX12_fewest_29 rfl rfl ?_
    refine v_istore_n (lv' := [(2, .int (-1)), (0, rf g a0), (1, .int x1)]) (pc' := 31) dX12_fewest_30 rfl (by decide) rfl rfl ?_
    refine v_aload_n (pc' := 32) 1 dX12_fewest_31 rfl rfl rfl ?_
    refine v_callV (vs := []) (pc' := 35) (h_X12_laysCans g a0) mv_X12_laysCans wl_X12_324 rfl (Nat.le_of_ble_eq_true rfl) (by omega) (by decide) (Nat.le_of_ble_eq_true rfl) rfl dX12_fewest_32 rfl fun _ => ?_
    refine v_iconst (v := 1) (pc' := 36) dX12_fewest_35 rfl rfl ?_
    refine v_aload_n (pc' := 37) 1 dX12_fewest_36 rfl rfl rfl ?_
    refine v_getR (pc' := 40) fl_X12_23 dX12_fewest_37 rfl fun r5 => ?_
    refine v_iconst (v := 0) (pc' := 41) dX12_fewest_40 rfl rfl ?_
    refine v_iald (pc' := 42) dX12_fewest_41 rfl fun v6 => ?_
    refine v_ishl (pc' := 43) dX12_fewest_42 rfl ?_
    refine v_iconst (v := 1) (pc' := 44) dX12_fewest_43 rfl rfl ?_
    refine v_isub (pc' := 45) dX12_fewest_44 rfl ?_
    refine v_istore_n (lv' := [(3, .int (((1 : Int32) <<< (v6 &&& 31)) - (1 : Int32))), (2, .int (-1)), (0, rf g a0), (1, .int x1)]) (pc' := 46) dX12_fewest_45 rfl (by decide) rfl rfl ?_
    refine V.sub [2, 3, 1, 0] rfl ?_
    exact h_X12_fewest_b46 g NF a0 x1 (-1) (((1 : Int32) <<< (v6 &&& 31)) - (1 : Int32))
  · refine v_iconst (v := 0) (pc' := 28) dX12_fewest_27 rfl rfl ?_
    exact v_ireturn rfl dX12_fewest_28
set_option maxRecDepth 20000 in
theorem h_X12_fewest (g : GW) (a0 : Nat) (x1 : Int32) : V g mX12_fewest 14 rtI 0 [(0, rf g a0), (1, .int x1)] [] (f_X12_fewest a0 x1) := by
  unfold f_X12_fewest
  refine v_aload_n (pc' := 1) 0 dX12_fewest_0 rfl rfl rfl ?_
  refine v_iconst (v := 0) (pc' := 2) dX12_fewest_1 rfl rfl ?_
  refine v_put (v := (.int 0)) (v' := .int 0) (pc' := 5) fw_X12_94 rfl rfl rfl (fun h => nomatch h) dX12_fewest_2 rfl ?_
  refine v_aload_n (pc' := 6) 0 dX12_fewest_5 rfl rfl rfl ?_
  refine v_aload_n (pc' := 7) 0 dX12_fewest_6 rfl rfl rfl ?_
  refine v_iload_n (pc' := 8) 1 dX12_fewest_7 rfl rfl rfl ?_
  refine v_callV (vs := [.int x1]) (pc' := 11) (h_X12_arePersons g a0 x1) mv_X12_arePersons wl_X12_321 rfl (Nat.le_of_ble_eq_true rfl) (by omega) (by decide) (Nat.le_of_ble_eq_true rfl) rfl dX12_fewest_8 rfl fun v7 => ?_
  refine v_ifne (t := 18) (pc' := 14) dX12_fewest_11 (by decide) rfl ?_ ?_
  · refine v_iconst (v := 0) (pc' := 19) dX12_fewest_18 rfl rfl ?_
    refine V.sub [0, 1] rfl ?_
    exact h_X12_fewest_b19 g a0 x1 0 a0
  · refine v_iconst (v := 1) (pc' := 15) dX12_fewest_14 rfl rfl ?_
    refine v_goto (t := 19) dX12_fewest_15 (by decide) ?_
    refine V.sub [0, 1] rfl ?_
    exact h_X12_fewest_b19 g a0 x1 1 a0
-- nobody
def f_X12_nobody_b59 (k31 : Nat → Int32 → Int32 → Mo Int32) (a0 : Nat) (x1 : Int32) (x2 : Int32) : Mo Int32 := k31 a0 x1 (x2 + 1)
def f_X12_nobody_b31 : Nat → Nat → Int32 → Int32 → Mo Int32
  | 0, _, _, _ => fl
  | n + 1, a0, x1, x2 => bd (gR 12 12 a0) fun r1 => bd (al 0 r1 0) fun v2 => if (v2 ≤ x2 : Prop) then (pu (-1)) else bd (f_X12_has x1 x2) fun v3 => if (v3 = 0 : Prop) then (f_X12_nobody_b59 (f_X12_nobody_b31 n) a0 x1 x2) else bd (cv 12 a0 (f_X12_canOf a0 x2)) fun v4 => if (v4 = 0 : Prop) then (pu x2) else f_X12_nobody_b59 (f_X12_nobody_b31 n) a0 x1 x2
def f_X12_nobody_b19 (a0 : Nat) (x1 : Int32) (xs0 : Int32) (as1 : Nat) : Mo Int32 := bd (cv 12 as1 (f_X12_bad as1 xs0 1 1)) fun v5 => if (v5 = 0 : Prop) then (f_X12_nobody_b31 NF a0 x1 0) else pu 0
def f_X12_nobody (a0 : Nat) (x1 : Int32) : Mo Int32 := bd (pf 12 0 a0 (.int 0)) fun _ => bd (cv 12 a0 (f_X12_arePersons a0 x1)) fun v6 => if (v6 = 0 : Prop) then (f_X12_nobody_b19 a0 x1 1 a0) else f_X12_nobody_b19 a0 x1 0 a0
set_option maxRecDepth 20000 in
theorem h_X12_nobody_b59 (g : GW) (k31 : Nat → Int32 → Int32 → Mo Int32) (hk31 : ∀ a0 x1 x2, V g mX12_nobody 13 rtI 31 [(0, rf g a0), (1, .int x1), (2, .int x2)] [] (k31 a0 x1 x2)) (a0 : Nat) (x1 : Int32) (x2 : Int32) : V g mX12_nobody 13 rtI 59 [(0, rf g a0), (1, .int x1), (2, .int x2)] [] (f_X12_nobody_b59 k31 a0 x1 x2) := by
  unfold f_X12_nobody_b59
  refine v_iinc (v := x2 + 1) (lv' := [(2, .int (x2 + 1)), (0, rf g a0), (1, .int x1)]) (pc' := 62) 2 dX12_nobody_59 rfl rfl (by decide) rfl rfl ?_
  refine v_goto (t := 31) dX12_nobody_62 (by decide) ?_
  refine V.sub [1, 2, 0] rfl ?_
  exact hk31 a0 x1 (x2 + 1)
set_option maxRecDepth 20000 in
theorem h_X12_nobody_b31 (g : GW) : ∀ n : Nat, ∀ a0 x1 x2, V g mX12_nobody 13 rtI 31 [(0, rf g a0), (1, .int x1), (2, .int x2)] [] (f_X12_nobody_b31 n a0 x1 x2) := by
  intro n
  induction n with
  | zero => intro a0 x1 x2; exact V.vain
  | succ n ih =>
    intro a0 x1 x2
    unfold f_X12_nobody_b31
    refine v_iload_n (pc' := 32) 2 dX12_nobody_31 rfl rfl rfl ?_
    refine v_aload_n (pc' := 33) 0 dX12_nobody_32 rfl rfl rfl ?_
    refine v_getR (pc' := 36) fl_X12_23 dX12_nobody_33 rfl fun r1 => ?_
    refine v_iconst (v := 0) (pc' := 37) dX12_nobody_36 rfl rfl ?_
    refine v_iald (pc' := 38) dX12_nobody_37 rfl fun v2 => ?_
    refine v_icmpge (t := 65) (pc' := 41) dX12_nobody_38 (by decide) rfl ?_ ?_
    · refine v_iconst (v := -1) (pc' := 66) dX12_nobody_65 rfl rfl ?_
      exact v_ireturn rfl dX12_nobody_66
    · refine v_iload_n (pc' := 42) 1 dX12_nobody_41 rfl rfl rfl ?_
      refine v_iload_n (pc' := 43) 2 dX12_nobody_42 rfl rfl rfl ?_
      refine v_callS (vs := [.int x1, .int x2]) (pc' := 46) (h_X12_has g x1 x2) ms_X12_has wl_X12_246 (Nat.le_of_ble_eq_true rfl) (by omega) (by decide) (Nat.le_of_ble_eq_true rfl) rfl dX12_nobody_43 rfl fun v3 => ?_
      refine v_ifeq (t := 59) (pc' := 49) dX12_nobody_46 (by decide) rfl ?_ ?_
      · refine V.sub [0, 1, 2] rfl ?_
        exact h_X12_nobody_b59 g (f_X12_nobody_b31 n) ih a0 x1 x2
      · refine v_aload_n (pc' := 50) 0 dX12_nobody_49 rfl rfl rfl ?_
        refine v_iload_n (pc' := 51) 2 dX12_nobody_50 rfl rfl rfl ?_
        refine v_callV (vs := [.int x2]) (pc' := 54) (h_X12_canOf g a0 x2) mv_X12_canOf wl_X12_318 rfl (Nat.le_of_ble_eq_true rfl) (by omega) (by decide) (Nat.le_of_ble_eq_true rfl) rfl dX12_nobody_51 rfl fun v4 => ?_
        refine v_ifne (t := 59) (pc' := 57) dX12_nobody_54 (by decide) rfl ?_ ?_
        · refine V.sub [0, 1, 2] rfl ?_
          exact h_X12_nobody_b59 g (f_X12_nobody_b31 n) ih a0 x1 x2
        · refine v_iload_n (pc' := 58) 2 dX12_nobody_57 rfl rfl rfl ?_
          exact v_ireturn rfl dX12_nobody_58
set_option maxRecDepth 20000 in
theorem h_X12_nobody_b19 (g : GW) (a0 : Nat) (x1 : Int32) (xs0 : Int32) (as1 : Nat) : V g mX12_nobody 13 rtI 19 [(0, rf g a0), (1, .int x1)] [.int xs0, rf g as1] (f_X12_nobody_b19 a0 x1 xs0 as1) := by
  unfold f_X12_nobody_b19
  refine v_iconst (v := 1) (pc' := 20) dX12_nobody_19 rfl rfl ?_
  refine v_iconst (v := 1) (pc' := 21) dX12_nobody_20 rfl rfl ?_
  refine v_callV (vs := [.int xs0, .int 1, .int 1]) (pc' := 24) (h_X12_bad g as1 xs0 1 1) mv_X12_bad wl_X12_167 rfl (Nat.le_of_ble_eq_true rfl) (by omega) (by decide) (Nat.le_of_ble_eq_true rfl) rfl dX12_nobody_21 rfl fun v5 => ?_
  refine v_ifeq (t := 29) (pc' := 27) dX12_nobody_24 (by decide) rfl ?_ ?_
  · refine v_iconst (v := 0) (pc' := 30) dX12_nobody_29 rfl rfl ?_
    refine v_istore_n (lv' := [(2, .int 0), (0, rf g a0), (1, .int x1)]) (pc' := 31) dX12_nobody_30 rfl (by decide) rfl rfl ?_
    refine V.sub [1, 2, 0] rfl ?_
    exact h_X12_nobody_b31 g NF a0 x1 0
  · refine v_iconst (v := 0) (pc' := 28) dX12_nobody_27 rfl rfl ?_
    exact v_ireturn rfl dX12_nobody_28
set_option maxRecDepth 20000 in
theorem h_X12_nobody (g : GW) (a0 : Nat) (x1 : Int32) : V g mX12_nobody 13 rtI 0 [(0, rf g a0), (1, .int x1)] [] (f_X12_nobody a0 x1) := by
  unfold f_X12_nobody
  refine v_aload_n (pc' := 1) 0 dX12_nobody_0 rfl rfl rfl ?_
  refine v_iconst (v := 0) (pc' := 2) dX12_nobody_1 rfl rfl ?_
  refine v_put (v := (.int 0)) (v' := .int 0) (pc' := 5) fw_X12_94 rfl rfl rfl (fun h => nomatch h) dX12_nobody_2 rfl ?_
  refine v_aload_n (pc' := 6) 0 dX12_nobody_5 rfl rfl rfl ?_
  refine v_aload_n (pc' := 7) 0 dX12_nobody_6 rfl rfl rfl ?_
  refine v_iload_n (pc' := 8) 1 dX12_nobody_7 rfl rfl rfl ?_
  refine v_callV (vs := [.int x1]) (pc' := 11) (h_X12_arePersons g a0 x1) mv_X12_arePersons wl_X12_321 rfl (Nat.le_of_ble_eq_true rfl) (by omega) (by decide) (Nat.le_of_ble_eq_true rfl) rfl dX12_nobody_8 rfl fun v6 => ?_
  refine v_ifne (t := 18) (pc' := 14) dX12_nobody_11 (by decide) rfl ?_ ?_
  · refine v_iconst (v := 0) (pc' := 19) dX12_nobody_18 rfl rfl ?_
    refine V.sub [0, 1] rfl ?_
    exact h_X12_nobody_b19 g a0 x1 0 a0
  · refine v_iconst (v := 1) (pc' := 15) dX12_nobody_14 rfl rfl ?_
    refine v_goto (t := 19) dX12_nobody_15 (by decide) ?_
    refine V.sub [0, 1] rfl ?_
    exact h_X12_nobody_b19 g a0 x1 1 a0
-- givenBy
def f_X12_givenBy_b43 (k5 : Nat → Int32 → Int32 → Int32 → Int32 → Mo Int32) (a0 : Nat) (x1 : Int32) (x2 : Int32) (x4 : Int32) (xs0 : Int32) (xs1 : Int32) : Mo Int32 := k5 a0 x1 x2 (xs1 + xs0) (x4 + 1)
def f_X12_givenBy_b5 : Nat → Nat → Int32 → Int32 → Int32 → Int32 → Mo Int32
  | 0, _, _, _, _, _ => fl
  | n + 1, a0, x1, x2, x3, x4 => bd (gR 12 12 a0) fun r1 => bd (al 0 r1 0) fun v2 => if (v2 ≤ x4 : Prop) then (pu x3) else bd (f_X12_has x1 x4) fun v3 => if (v3 = 0 : Prop) then (f_X12_givenBy_b43 (f_X12_givenBy_b5 n) a0 x1 x2 x4 0 x3) else bd (gR 12 16 a0) fun r4 => bd (aR 3 r4 x4) fun r5 => bd (al 0 r5 2) fun v6 => bd (f_X12_less x2 v6) fun v7 => f_X12_givenBy_b43 (f_X12_givenBy_b5 n) a0 x1 x2 x4 v7 x3
def f_X12_givenBy (a0 : Nat) (x1 : Int32) (x2 : Int32) : Mo Int32 := f_X12_givenBy_b5 NF a0 x1 x2 0 0
set_option maxRecDepth 20000 in
theorem h_X12_givenBy_b43 (g : GW) (k5 : Nat → Int32 → Int32 → Int32 → Int32 → Mo Int32) (hk5 : ∀ a0 x1 x2 x3 x4, V g mX12_givenBy 9 rtI 5 [(0, rf g a0), (1, .int x1), (2, .int x2), (3, .int x3), (4, .int x4)] [] (k5 a0 x1 x2 x3 x4)) (a0 : Nat) (x1 : Int32) (x2 : Int32) (x4 : Int32) (xs0 : Int32) (xs1 : Int32) : V g mX12_givenBy 9 rtI 43 [(0, rf g a0), (1, .int x1), (2, .int x2), (4, .int x4)] [.int xs0, .int xs1] (f_X12_givenBy_b43 k5 a0 x1 x2 x4 xs0 xs1) := by
  unfold f_X12_givenBy_b43
  refine v_iadd (pc' := 44) dX12_givenBy_43 rfl ?_
  refine v_istore_n (lv' := [(3, .int (xs1 + xs0)), (0, rf g a0), (1, .int x1), (2, .int x2), (4, .int x4)]) (pc' := 45) dX12_givenBy_44 rfl (by decide) rfl rfl ?_
  refine v_iinc (v := x4 + 1) (lv' := [(4, .int (x4 + 1)), (3, .int (xs1 + xs0)), (0, rf g a0), (1, .int x1), (2, .int x2)]) (pc' := 48) 4 dX12_givenBy_45 rfl rfl (by decide) rfl rfl ?_
  refine v_goto (t := 5) dX12_givenBy_48 (by decide) ?_
  refine V.sub [2, 3, 4, 1, 0] rfl ?_
  exact hk5 a0 x1 x2 (xs1 + xs0) (x4 + 1)
set_option maxRecDepth 20000 in
theorem h_X12_givenBy_b5 (g : GW) : ∀ n : Nat, ∀ a0 x1 x2 x3 x4, V g mX12_givenBy 9 rtI 5 [(0, rf g a0), (1, .int x1), (2, .int x2), (3, .int x3), (4, .int x4)] [] (f_X12_givenBy_b5 n a0 x1 x2 x3 x4) := by
  intro n
  induction n with
  | zero => intro a0 x1 x2 x3 x4; exact V.vain
  | succ n ih =>
    intro a0 x1 x2 x3 x4
    unfold f_X12_givenBy_b5
    refine v_iload (pc' := 7) 4 dX12_givenBy_5 rfl rfl ?_
    refine v_aload_n (pc' := 8) 0 dX12_givenBy_7 rfl rfl rfl ?_
    refine v_getR (pc' := 11) fl_X12_23 dX12_givenBy_8 rfl fun r1 => ?_
    refine v_iconst (v := 0) (pc' := 12) dX12_givenBy_11 rfl rfl ?_
    refine v_iald (pc' := 13) dX12_givenBy_12 rfl fun v2 => ?_
    refine v_icmpge (t := 51) (pc' := 16) dX12_givenBy_13 (by decide) rfl ?_ ?_
    · refine v_iload_n (pc' := 52) 3 dX12_givenBy_51 rfl rfl rfl ?_
      exact v_ireturn rfl dX12_givenBy_52
    · refine v_iload_n (pc' := 17) 3 dX12_givenBy_16 rfl rfl rfl ?_
      refine v_iload_n (pc' := 18) 1 dX12_givenBy_17 rfl rfl rfl ?_
      refine v_iload (pc' := 20) 4 dX12_givenBy_18 rfl rfl ?_
      refine v_callS (vs := [.int x1, .int x4]) (pc' := 23) (h_X12_has g x1 x4) ms_X12_has wl_X12_246 (Nat.le_of_ble_eq_true rfl) (by omega) (by decide) (Nat.le_of_ble_eq_true rfl) rfl dX12_givenBy_20 rfl fun v3 => ?_
      refine v_ifeq (t := 42) (pc' := 26) dX12_givenBy_23 (by decide) rfl ?_ ?_
      · refine v_iconst (v := 0) (pc' := 43) dX12_givenBy_42 rfl rfl ?_
        refine V.sub [0, 1, 2, 4] rfl ?_
        exact h_X12_givenBy_b43 g (f_X12_givenBy_b5 n) ih a0 x1 x2 x4 0 x3
      · refine v_iload_n (pc' := 27) 2 dX12_givenBy_26 rfl rfl rfl ?_
        refine v_aload_n (pc' := 28) 0 dX12_givenBy_27 rfl rfl rfl ?_
        refine v_getR (pc' := 31) fl_X12_37 dX12_givenBy_28 rfl fun r4 => ?_
        refine v_iload (pc' := 33) 4 dX12_givenBy_31 rfl rfl ?_
        refine v_aaldR (pc' := 34) dX12_givenBy_33 rfl fun r5 => ?_
        refine v_iconst (v := 2) (pc' := 35) dX12_givenBy_34 rfl rfl ?_
        refine v_iald (pc' := 36) dX12_givenBy_35 rfl fun v6 => ?_
        refine v_callS (vs := [.int x2, .int v6]) (pc' := 39) (h_X12_less g x2 v6) ms_X12_less wl_X12_227 (Nat.le_of_ble_eq_true rfl) (by omega) (by decide) (Nat.le_of_ble_eq_true rfl) rfl dX12_givenBy_36 rfl fun v7 => ?_
        refine v_goto (t := 43) dX12_givenBy_39 (by decide) ?_
        refine V.sub [0, 1, 2, 4] rfl ?_
        exact h_X12_givenBy_b43 g (f_X12_givenBy_b5 n) ih a0 x1 x2 x4 v7 x3
set_option maxRecDepth 20000 in
theorem h_X12_givenBy (g : GW) (a0 : Nat) (x1 : Int32) (x2 : Int32) : V g mX12_givenBy 9 rtI 0 [(0, rf g a0), (1, .int x1), (2, .int x2)] [] (f_X12_givenBy a0 x1 x2) := by
  unfold f_X12_givenBy
  refine v_iconst (v := 0) (pc' := 1) dX12_givenBy_0 rfl rfl ?_
  refine v_istore_n (lv' := [(3, .int 0), (0, rf g a0), (1, .int x1), (2, .int x2)]) (pc' := 2) dX12_givenBy_1 rfl (by decide) rfl rfl ?_
  refine v_iconst (v := 0) (pc' := 3) dX12_givenBy_2 rfl rfl ?_
  refine v_istore (lv' := [(4, .int 0), (3, .int 0), (0, rf g a0), (1, .int x1), (2, .int x2)]) (pc' := 5) dX12_givenBy_3 (by decide) rfl rfl ?_
  refine V.sub [2, 3, 4, 1, 0] rfl ?_
  exact h_X12_givenBy_b5 g NF a0 x1 x2 0 0
-- cheapest
def f_X12_cheapest_b106 (k50 : Nat → Int32 → Int32 → Int32 → Int32 → Int32 → Mo Int32) (a0 : Nat) (x1 : Int32) (x2 : Int32) (x3 : Int32) (x4 : Int32) (x5 : Int32) : Mo Int32 := k50 a0 x1 x2 x3 x4 (x5 + 1)
def f_X12_cheapest_b99 (k50 : Nat → Int32 → Int32 → Int32 → Int32 → Int32 → Mo Int32) (a0 : Nat) (x1 : Int32) (x2 : Int32) (x5 : Int32) (x6 : Int32) : Mo Int32 := f_X12_cheapest_b106 k50 a0 x1 x2 x5 x6 x5
def f_X12_cheapest_b50 : Nat → Nat → Int32 → Int32 → Int32 → Int32 → Int32 → Mo Int32
  | 0, _, _, _, _, _, _ => fl
  | n + 1, a0, x1, x2, x3, x4, x5 => bd (gR 12 12 a0) fun r1 => bd (al 0 r1 0) fun v2 => if (((1 : Int32) <<< (v2 &&& 31)) ≤ x5 : Prop) then (if (x2 = 0 : Prop) then (pu x4) else pu x3) else bd (cv 12 a0 (f_X12_givenBy a0 x5 40)) fun v3 => bd (cv 12 a0 (f_X12_isEnough a0 x5 x1)) fun v4 => if (v4 = 0 : Prop) then (f_X12_cheapest_b106 (f_X12_cheapest_b50 n) a0 x1 x2 x3 x4 x5) else if (x4 = (-1) : Prop) then (f_X12_cheapest_b99 (f_X12_cheapest_b50 n) a0 x1 x2 x5 v3) else if (v3 < x4 : Prop) then (f_X12_cheapest_b99 (f_X12_cheapest_b50 n) a0 x1 x2 x5 v3) else f_X12_cheapest_b106 (f_X12_cheapest_b50 n) a0 x1 x2 x3 x4 x5
def f_X12_cheapest_b28 (a0 : Nat) (x1 : Int32) (x2 : Int32) (xs0 : Int32) (as1 : Nat) : Mo Int32 := bd (cv 12 as1 (f_X12_bad as1 xs0 1 1)) fun v5 => if (v5 = 0 : Prop) then (bd (cv 12 a0 (f_X12_laysCans a0)) fun _ => f_X12_cheapest_b50 NF a0 x1 x2 (-1) (-1) 0) else pu 0
def f_X12_cheapest_b23 (a0 : Nat) (x1 : Int32) (x2 : Int32) (as0 : Nat) : Mo Int32 := f_X12_cheapest_b28 a0 x1 x2 1 as0
def f_X12_cheapest (a0 : Nat) (x1 : Int32) (x2 : Int32) : Mo Int32 := bd (pf 12 0 a0 (.int 0)) fun _ => bd (cv 12 a0 (f_X12_arePersons a0 x1)) fun v6 => if (v6 = 0 : Prop) then (f_X12_cheapest_b23 a0 x1 x2 a0) else bd (f_X12_in x2 0 1) fun v7 => if (v7 = 0 : Prop) then (f_X12_cheapest_b23 a0 x1 x2 a0) else f_X12_cheapest_b28 a0 x1 x2 0 a0
set_option maxRecDepth 20000 in
theorem h_X12_cheapest_b106 (g : GW) (k50 : Nat → Int32 → Int32 → Int32 → Int32 → Int32 → Mo Int32) (hk50 : ∀ a0 x1 x2 x3 x4 x5, V g mX12_cheapest 14 rtI 50 [(0, rf g a0), (1, .int x1), (2, .int x2), (3, .int x3), (4, .int x4), (5, .int x5)] [] (k50 a0 x1 x2 x3 x4 x5)) (a0 : Nat) (x1 : Int32) (x2 : Int32) (x3 : Int32) (x4 : Int32) (x5 : Int32) : V g mX12_cheapest 14 rtI 106 [(0, rf g a0), (1, .int x1), (2, .int x2), (3, .int x3), (4, .int x4), (5, .int x5)] [] (f_X12_cheapest_b106 k50 a0 x1 x2 x3 x4 x5) := by
  unfold f_X12_cheapest_b106
  refine v_iinc (v := x5 + 1) (lv' := [(5, .int (x5 + 1)), (0, rf g a0), (1, .int x1), (2, .int x2), (3, .int x3), (4, .int x4)]) (pc' := 109) 5 dX12_cheapest_106 rfl rfl (by decide) rfl rfl ?_
  refine v_goto (t := 50) dX12_cheapest_109 (by decide) ?_
  refine V.sub [1, 2, 3, 4, 5, 0] rfl ?_
  exact hk50 a0 x1 x2 x3 x4 (x5 + 1)
set_option maxRecDepth 20000 in
theorem h_X12_cheapest_b99 (g : GW) (k50 : Nat → Int32 → Int32 → Int32 → Int32 → Int32 → Mo Int32) (hk50 : ∀ a0 x1 x2 x3 x4 x5, V g mX12_cheapest 14 rtI 50 [(0, rf g a0), (1, .int x1), (2, .int x2), (3, .int x3), (4, .int x4), (5, .int x5)] [] (k50 a0 x1 x2 x3 x4 x5)) (a0 : Nat) (x1 : Int32) (x2 : Int32) (x5 : Int32) (x6 : Int32) : V g mX12_cheapest 14 rtI 99 [(0, rf g a0), (1, .int x1), (2, .int x2), (5, .int x5), (6, .int x6)] [] (f_X12_cheapest_b99 k50 a0 x1 x2 x5 x6) := by
  unfold f_X12_cheapest_b99
  refine v_iload (pc' := 101) 3 dX12_cheapest_99 rfl rfl ?_
  refine v_istore_n (lv' := [(3, .int x5), (0, rf g a0), (1, .int x1), (2, .int x2), (5, .int x5), (6, .int x6)]) (pc' := 102) dX12_cheapest_101 rfl (by decide) rfl rfl ?_
  refine v_iload (pc' := 104) 5 dX12_cheapest_102 rfl rfl ?_
  refine v_istore (lv' := [(4, .int x6), (3, .int x5), (0, rf g a0), (1, .int x1), (2, .int x2), (5, .int x5), (6, .int x6)]) (pc' := 106) dX12_cheapest_104 (by decide) rfl rfl ?_
  refine V.sub [2, 3, 4, 1, 0, 5] rfl ?_
  exact h_X12_cheapest_b106 g k50 hk50 a0 x1 x2 x5 x6 x5
set_option maxRecDepth 20000 in
theorem h_X12_cheapest_b50 (g : GW) : ∀ n : Nat, ∀ a0 x1 x2 x3 x4 x5, V g mX12_cheapest 14 rtI 50 [(0, rf g a0), (1, .int x1), (2, .int x2), (3, .int x3), (4, .int x4), (5, .int x5)] [] (f_X12_cheapest_b50 n a0 x1 x2 x3 x4 x5) := by
  intro n
  induction n with
  | zero => intro a0 x1 x2 x3 x4 x5; exact V.vain
  | succ n ih =>
    intro a0 x1 x2 x3 x4 x5
    unfold f_X12_cheapest_b50
    refine v_iload (pc' := 52) 5 dX12_cheapest_50 rfl rfl ?_
    refine v_iconst (v := 1) (pc' := 53) dX12_cheapest_52 rfl rfl ?_
    refine v_aload_n (pc' := 54) 0 dX12_cheapest_53 rfl rfl rfl ?_
    refine v_getR (pc' := 57) fl_X12_23 dX12_cheapest_54 rfl fun r1 => ?_
    refine v_iconst (v := 0) (pc' := 58) dX12_cheapest_57 rfl rfl ?_
    refine v_iald (pc' := 59) dX12_cheapest_58 rfl fun v2 => ?_
    refine v_ishl (pc' := 60) dX12_cheapest_59 rfl ?_
    refine v_icmpge (t := 112) (pc' := 63) dX12_cheapest_60 (by decide) rfl ?_ ?_
    · refine v_iload_n (pc' := 113) 2 dX12_cheapest_112 rfl rfl rfl ?_
      refine v_ifne (t := 121) (pc' := 116) dX12_cheapest_113 (by decide) rfl ?_ ?_
      · refine v_iload_n (pc' := 122) 3 dX12_cheapest_121 rfl rfl rfl ?_
        exact v_ireturn rfl dX12_cheapest_122
      · refine v_iload (pc' := 118) 4 dX12_cheapest_116 rfl rfl ?_
        refine v_goto (t := 122) dX12_cheapest_118 (by decide) ?_
        exact v_ireturn rfl dX12_cheapest_122
    · refine v_aload_n (pc' := 64) 0 dX12_cheapest_63 rfl rfl rfl ?_
      refine v_iload (pc' := 66) 5 dX12_cheapest_64 rfl rfl ?_
      refine v_bipush (v := 40) (pc' := 68) dX12_cheapest_66 rfl rfl ?_
      refine v_callV (vs := [.int x5, .int 40]) (pc' := 71) (h_X12_givenBy g a0 x5 40) mv_X12_givenBy wl_X12_330 rfl (Nat.le_of_ble_eq_true rfl) (by omega) (by decide) (Nat.le_of_ble_eq_true rfl) rfl dX12_cheapest_68 rfl fun v3 => ?_
      refine v_istore (lv' := [(6, .int v3), (0, rf g a0), (1, .int x1), (2, .int x2), (3, .int x3), (4, .int x4), (5, .int x5)]) (pc' := 73) dX12_cheapest_71 (by decide) rfl rfl ?_
      refine v_aload_n (pc' := 74) 1 dX12_cheapest_73 rfl rfl rfl ?_
      refine v_iload (pc' := 76) 6 dX12_cheapest_74 rfl rfl ?_
      refine v_iload_n (pc' := 77) 2 dX12_cheapest_76 rfl rfl rfl ?_
      refine v_callV (vs := [.int x5, .int x1]) (pc' := 80) (h_X12_isEnough g a0 x5 x1) mv_X12_isEnough wl_X12_327 rfl (Nat.le_of_ble_eq_true rfl) (by omega) (by decide) (Nat.le_of_ble_eq_true rfl) rfl dX12_cheapest_77 rfl fun v4 => ?_
      refine v_ifeq (t := 106) (pc' := 83) dX12_cheapest_80 (by decide) rfl ?_ ?_
      · refine V.sub [1, 2, 3, 4, 5, 6] rfl ?_
        exact h_X12_cheapest_b106 g (f_X12_cheapest_b50 n) ih a0 x1 x2 x3 x4 x5
      · refine v_iload (pc' := 85) 5 dX12_cheapest_83 rfl rfl ?_
        refine v_iconst (v := -1) (pc' := 86) dX12_cheapest_85 rfl rfl ?_
        refine v_icmpeq (t := 99) (pc' := 89) dX12_cheapest_86 (by decide) rfl ?_ ?_
        · refine V.sub [1, 2, 3, 6, 0] rfl ?_
          exact h_X12_cheapest_b99 g (f_X12_cheapest_b50 n) ih a0 x1 x2 x5 v3
        · refine v_iload (pc' := 91) 0 dX12_cheapest_89 rfl rfl ?_
          refine v_iload (pc' := 93) 5 dX12_cheapest_91 rfl rfl ?_
          refine v_icmplt (t := 99) (pc' := 96) dX12_cheapest_93 (by decide) rfl ?_ ?_
          · refine V.sub [1, 2, 3, 6, 0] rfl ?_
            exact h_X12_cheapest_b99 g (f_X12_cheapest_b50 n) ih a0 x1 x2 x5 v3
          · refine v_goto (t := 106) dX12_cheapest_96 (by decide) ?_
            refine V.sub [1, 2, 3, 4, 5, 6] rfl ?_
            exact h_X12_cheapest_b106 g (f_X12_cheapest_b50 n) ih a0 x1 x2 x3 x4 x5
set_option maxRecDepth 20000 in
theorem h_X12_cheapest_b28 (g : GW) (a0 : Nat) (x1 : Int32) (x2 : Int32) (xs0 : Int32) (as1 : Nat) : V g mX12_cheapest 14 rtI 28 [(0, rf g a0), (1, .int x1), (2, .int x2)] [.int xs0, rf g as1] (f_X12_cheapest_b28 a0 x1 x2 xs0 as1) := by
  unfold f_X12_cheapest_b28
  refine v_iconst (v := 1) (pc' := 29) dX12_cheapest_28 rfl rfl ?_
  refine v_iconst (v := 1) (pc' := 30) dX12_cheapest_29 rfl rfl ?_
  refine v_callV (vs := [.int xs0, .int 1, .int 1]) (pc' := 33) (h_X12_bad g as1 xs0 1 1) mv_X12_bad wl_X12_167 rfl (Nat.le_of_ble_eq_true rfl) (by omega) (by decide) (Nat.le_of_ble_eq_true rfl) rfl dX12_cheapest_30 rfl fun v5 => ?_
  refine v_ifeq (t := 38) (pc' := 36) dX12_cheapest_33 (by decide) rfl ?_ ?_
  · refine v_iconst (v := -1) (pc' := 39) dX12_cheapest_38 rfl rfl ?_
    refine v_istore_n (lv' := [(3, .int (-1)), (0, rf g a0), (1, .int x1), (2, .int x2)]) (pc' := 40) dX12_cheapest_39 rfl (by decide) rfl rfl ?_
    refine v_iconst (v := -1) (pc' := 41) dX12_cheapest_40 rfl rfl ?_
    refine v_istore (lv' := [(4, .int (-1)), (3, .int (-1)), (0, rf g a0), (1, .int x1), (2, .int x2)]) (pc' := 43) dX12_cheapest_41 (by decide) rfl rfl ?_
    refine v_aload_n (pc' := 44) 2 dX12_cheapest_43 rfl rfl rfl ?_
    refine v_callV (vs := []) (pc' := 47) (h_X12_laysCans g a0) mv_X12_laysCans wl_X12_324 rfl (Nat.le_of_ble_eq_true rfl) (by omega) (by decide) (Nat.le_of_ble_eq_true rfl) rfl dX12_cheapest_44 rfl fun _ => ?_
    refine v_iconst (v := 0) (pc' := 48) dX12_cheapest_47 rfl rfl ?_
    refine v_istore (lv' := [(5, .int 0), (4, .int (-1)), (3, .int (-1)), (0, rf g a0), (1, .int x1), (2, .int x2)]) (pc' := 50) dX12_cheapest_48 (by decide) rfl rfl ?_
    refine V.sub [3, 4, 5, 2, 1, 0] rfl ?_
    exact h_X12_cheapest_b50 g NF a0 x1 x2 (-1) (-1) 0
  · refine v_iconst (v := 0) (pc' := 37) dX12_cheapest_36 rfl rfl ?_
    exact v_ireturn rfl dX12_cheapest_37
set_option maxRecDepth 20000 in
theorem h_X12_cheapest_b23 (g : GW) (a0 : Nat) (x1 : Int32) (x2 : Int32) (as0 : Nat) : V g mX12_cheapest 14 rtI 23 [(0, rf g a0), (1, .int x1), (2, .int x2)] [rf g as0] (f_X12_cheapest_b23 a0 x1 x2 as0) := by
  unfold f_X12_cheapest_b23
  refine v_iconst (v := 1) (pc' := 24) dX12_cheapest_23 rfl rfl ?_
  refine v_goto (t := 28) dX12_cheapest_24 (by decide) ?_
  refine V.sub [0, 1, 2] rfl ?_
  exact h_X12_cheapest_b28 g a0 x1 x2 1 as0
set_option maxRecDepth 20000 in
theorem h_X12_cheapest (g : GW) (a0 : Nat) (x1 : Int32) (x2 : Int32) : V g mX12_cheapest 14 rtI 0 [(0, rf g a0), (1, .int x1), (2, .int x2)] [] (f_X12_cheapest a0 x1 x2) := by
  unfold f_X12_cheapest
  refine v_aload_n (pc' := 1) 0 dX12_cheapest_0 rfl rfl rfl ?_
  refine v_iconst (v := 0) (pc' := 2) dX12_cheapest_1 rfl rfl ?_
  refine v_put (v := (.int 0)) (v' := .int 0) (pc' := 5) fw_X12_94 rfl rfl rfl (fun h => nomatch h) dX12_cheapest_2 rfl ?_
  refine v_aload_n (pc' := 6) 0 dX12_cheapest_5 rfl rfl rfl ?_
  refine v_aload_n (pc' := 7) 0 dX12_cheapest_6 rfl rfl rfl ?_
  refine v_iload_n (pc' := 8) 1 dX12_cheapest_7 rfl rfl rfl ?_
  refine v_callV (vs := [.int x1]) (pc' := 11) (h_X12_arePersons g a0 x1) mv_X12_arePersons wl_X12_321 rfl (Nat.le_of_ble_eq_true rfl) (by omega) (by decide) (Nat.le_of_ble_eq_true rfl) rfl dX12_cheapest_8 rfl fun v6 => ?_
  refine v_ifeq (t := 23) (pc' := 14) dX12_cheapest_11 (by decide) rfl ?_ ?_
  · refine V.sub [0, 1, 2] rfl ?_
    exact h_X12_cheapest_b23 g a0 x1 x2 a0
  · refine v_iload_n (pc' := 15) 2 dX12_cheapest_14 rfl rfl rfl ?_
    refine v_iconst (v := 0) (pc' := 16) dX12_cheapest_15 rfl rfl ?_
    refine v_iconst (v := 1) (pc' := 17) dX12_cheapest_16 rfl rfl ?_
    refine v_callS (vs := [.int x2, .int 0, .int 1]) (pc' := 20) (h_X12_in g x2 0 1) ms_X12_in wl_X12_128 (Nat.le_of_ble_eq_true rfl) (by omega) (by decide) (Nat.le_of_ble_eq_true rfl) rfl dX12_cheapest_17 rfl fun v7 => ?_
    refine v_ifne (t := 27) (pc' := 23) dX12_cheapest_20 (by decide) rfl ?_ ?_
    · refine v_iconst (v := 0) (pc' := 28) dX12_cheapest_27 rfl rfl ?_
      refine V.sub [0, 1, 2] rfl ?_
      exact h_X12_cheapest_b28 g a0 x1 x2 0 a0
    · refine V.sub [0, 1, 2] rfl ?_
      exact h_X12_cheapest_b23 g a0 x1 x2 a0
-- chain
def f_X12_chain_b105 (k48 : Nat → Int32 → Int32 → Int32 → Mo Int32) (k72 : Nat → Int32 → Int32 → Int32 → Int32 → Int32 → Mo Int32) (a0 : Nat) (x2 : Int32) (x3 : Int32) (x4 : Int32) (x6 : Int32) (xs0 : Int32) (xs1 : Int32) : Mo Int32 := k72 a0 x2 x3 x4 (xs1 ||| xs0) (x6 + 1)
def f_X12_chain_b72 (k48 : Nat → Int32 → Int32 → Int32 → Mo Int32) : Nat → Nat → Int32 → Int32 → Int32 → Int32 → Int32 → Mo Int32
  | 0, _, _, _, _, _, _ => fl
  | n + 1, a0, x2, x3, x4, x5, x6 => bd (gR 12 12 a0) fun r1 => bd (al 0 r1 0) fun v2 => if (v2 ≤ x6 : Prop) then (k48 a0 x2 x5 (x4 + 1)) else bd (gR 12 38 a0) fun r3 => bd (al 0 r3 x6) fun v4 => if ((v4 &&& x3) = 0 : Prop) then (f_X12_chain_b105 k48 (f_X12_chain_b72 k48 n) a0 x2 x3 x4 x6 0 x5) else f_X12_chain_b105 k48 (f_X12_chain_b72 k48 n) a0 x2 x3 x4 x6 ((1 : Int32) <<< (x6 &&& 31)) x5
def f_X12_chain_b48 : Nat → Nat → Int32 → Int32 → Int32 → Mo Int32
  | 0, _, _, _, _ => fl
  | n + 1, a0, x2, x3, x4 => if (8 ≤ x4 : Prop) then (pu (-1)) else bd (f_X12_has x3 x2) fun v5 => if (v5 = 0 : Prop) then (f_X12_chain_b72 (f_X12_chain_b48 n) NF a0 x2 x3 x4 x3 0) else pu x4
def f_X12_chain_b27 (a0 : Nat) (x1 : Int32) (x2 : Int32) (xs0 : Int32) (as1 : Nat) : Mo Int32 := bd (cv 12 as1 (f_X12_bad as1 xs0 1 0)) fun v6 => if (v6 = 0 : Prop) then (bd (cv 12 a0 (f_X12_laysCans a0)) fun _ => f_X12_chain_b48 NF a0 x2 ((1 : Int32) <<< (x1 &&& 31)) 0) else pu 0
def f_X12_chain_b22 (a0 : Nat) (x1 : Int32) (x2 : Int32) (as0 : Nat) : Mo Int32 := f_X12_chain_b27 a0 x1 x2 1 as0
def f_X12_chain (a0 : Nat) (x1 : Int32) (x2 : Int32) : Mo Int32 := bd (pf 12 0 a0 (.int 0)) fun _ => bd (cv 12 a0 (f_X12_isPerson a0 x1)) fun v7 => if (v7 = 0 : Prop) then (f_X12_chain_b22 a0 x1 x2 a0) else bd (cv 12 a0 (f_X12_isPerson a0 x2)) fun v8 => if (v8 = 0 : Prop) then (f_X12_chain_b22 a0 x1 x2 a0) else f_X12_chain_b27 a0 x1 x2 0 a0
set_option maxRecDepth 20000 in
theorem h_X12_chain_b105 (g : GW) (k48 : Nat → Int32 → Int32 → Int32 → Mo Int32) (k72 : Nat → Int32 → Int32 → Int32 → Int32 → Int32 → Mo Int32) (hk48 : ∀ a0 x2 x3 x4, V g mX12_chain 14 rtI 48 [(0, rf g a0), (2, .int x2), (3, .int x3), (4, .int x4)] [] (k48 a0 x2 x3 x4)) (hk72 : ∀ a0 x2 x3 x4 x5 x6, V g mX12_chain 14 rtI 72 [(0, rf g a0), (2, .int x2), (3, .int x3), (4, .int x4), (5, .int x5), (6, .int x6)] [] (k72 a0 x2 x3 x4 x5 x6)) (a0 : Nat) (x2 : Int32) (x3 : Int32) (x4 : Int32) (x6 : Int32) (xs0 : Int32) (xs1 : Int32) : V g mX12_chain 14 rtI 105 [(0, rf g a0), (2, .int x2), (3, .int x3), (4, .int x4), (6, .int x6)] [.int xs0, .int xs1] (f_X12_chain_b105 k48 k72 a0 x2 x3 x4 x6 xs0 xs1) := by
  unfold f_X12_chain_b105
  refine v_ior (pc' := 106) dX12_chain_105 rfl ?_
  refine v_istore (lv' := [(5, .int (xs1 ||| xs0)), (0, rf g a0), (2, .int x2), (3, .int x3), (4, .int x4), (6, .int x6)]) (pc' := 108) dX12_chain_106 (by decide) rfl rfl ?_
  refine v_iinc (v := x6 + 1) (lv' := [(6, .int (x6 + 1)), (5, .int (xs1 ||| xs0)), (0, rf g a0), (2, .int x2), (3, .int x3), (4, .int x4)]) (pc' := 111) 5 dX12_chain_108 rfl rfl (by decide) rfl rfl ?_
  refine v_goto (t := 72) dX12_chain_111 (by decide) ?_
  refine V.sub [2, 3, 4, 5, 1, 0] rfl ?_
  exact hk72 a0 x2 x3 x4 (xs1 ||| xs0) (x6 + 1)
set_option maxRecDepth 20000 in
theorem h_X12_chain_b72 (g : GW) (k48 : Nat → Int32 → Int32 → Int32 → Mo Int32) (hk48 : ∀ a0 x2 x3 x4, V g mX12_chain 14 rtI 48 [(0, rf g a0), (2, .int x2), (3, .int x3), (4, .int x4)] [] (k48 a0 x2 x3 x4)) : ∀ n : Nat, ∀ a0 x2 x3 x4 x5 x6, V g mX12_chain 14 rtI 72 [(0, rf g a0), (2, .int x2), (3, .int x3), (4, .int x4), (5, .int x5), (6, .int x6)] [] (f_X12_chain_b72 k48 n a0 x2 x3 x4 x5 x6) := by
  intro n
  induction n with
  | zero => intro a0 x2 x3 x4 x5 x6; exact V.vain
  | succ n ih =>
    intro a0 x2 x3 x4 x5 x6
    unfold f_X12_chain_b72
    refine v_iload (pc' := 74) 5 dX12_chain_72 rfl rfl ?_
    refine v_aload_n (pc' := 75) 0 dX12_chain_74 rfl rfl rfl ?_
    refine v_getR (pc' := 78) fl_X12_23 dX12_chain_75 rfl fun r1 => ?_
    refine v_iconst (v := 0) (pc' := 79) dX12_chain_78 rfl rfl ?_
    refine v_iald (pc' := 80) dX12_chain_79 rfl fun v2 => ?_
    refine v_icmpge (t := 114) (pc' := 83) dX12_chain_80 (by decide) rfl ?_ ?_
    · refine v_iload (pc' := 116) 4 dX12_chain_114 rfl rfl ?_
      refine v_istore_n (lv' := [(3, .int x5), (0, rf g a0), (2, .int x2), (4, .int x4), (5, .int x5), (6, .int x6)]) (pc' := 117) dX12_chain_116 rfl (by decide) rfl rfl ?_
      refine v_iinc (v := x4 + 1) (lv' := [(4, .int (x4 + 1)), (3, .int x5), (0, rf g a0), (2, .int x2), (5, .int x5), (6, .int x6)]) (pc' := 120) 3 dX12_chain_117 rfl rfl (by decide) rfl rfl ?_
      refine v_goto (t := 48) dX12_chain_120 (by decide) ?_
      refine V.sub [2, 3, 1, 0] rfl ?_
      exact hk48 a0 x2 x5 (x4 + 1)
    · refine v_iload (pc' := 85) 4 dX12_chain_83 rfl rfl ?_
      refine v_aload_n (pc' := 86) 0 dX12_chain_85 rfl rfl rfl ?_
      refine v_getR (pc' := 89) fl_X12_73 dX12_chain_86 rfl fun r3 => ?_
      refine v_iload (pc' := 91) 5 dX12_chain_89 rfl rfl ?_
      refine v_iald (pc' := 92) dX12_chain_91 rfl fun v4 => ?_
      refine v_iload_n (pc' := 93) 2 dX12_chain_92 rfl rfl rfl ?_
      refine v_iand (pc' := 94) dX12_chain_93 rfl ?_
      refine v_ifeq (t := 104) (pc' := 97) dX12_chain_94 (by decide) rfl ?_ ?_
      · refine v_iconst (v := 0) (pc' := 105) dX12_chain_104 rfl rfl ?_
        refine V.sub [0, 1, 2, 3, 5] rfl ?_
        exact h_X12_chain_b105 g k48 (f_X12_chain_b72 k48 n) hk48 ih a0 x2 x3 x4 x6 0 x5
      · refine v_iconst (v := 1) (pc' := 98) dX12_chain_97 rfl rfl ?_
        refine v_iload (pc' := 100) 5 dX12_chain_98 rfl rfl ?_
        refine v_ishl (pc' := 101) dX12_chain_100 rfl ?_
        refine v_goto (t := 105) dX12_chain_101 (by decide) ?_
        refine V.sub [0, 1, 2, 3, 5] rfl ?_
        exact h_X12_chain_b105 g k48 (f_X12_chain_b72 k48 n) hk48 ih a0 x2 x3 x4 x6 ((1 : Int32) <<< (x6 &&& 31)) x5
set_option maxRecDepth 20000 in
theorem h_X12_chain_b48 (g : GW) : ∀ n : Nat, ∀ a0 x2 x3 x4, V g mX12_chain 14 rtI 48 [(0, rf g a0), (2, .int x2), (3, .int x3), (4, .int x4)] [] (f_X12_chain_b48 n a0 x2 x3 x4) := by
  intro n
  induction n with
  | zero => intro a0 x2 x3 x4; exact V.vain
  | succ n ih =>
    intro a0 x2 x3 x4
    unfold f_X12_chain_b48
    refine v_iload (pc' := 50) 3 dX12_chain_48 rfl rfl ?_
    refine v_bipush (v := 8) (pc' := 52) dX12_chain_50 rfl rfl ?_
    refine v_icmpge (t := 123) (pc' := 55) dX12_chain_52 (by decide) rfl ?_ ?_
    · refine v_iconst (v := -1) (pc' := 124) dX12_chain_123 rfl rfl ?_
      exact v_ireturn rfl dX12_chain_124
    · refine v_iload_n (pc' := 56) 2 dX12_chain_55 rfl rfl rfl ?_
      refine v_iload_n (pc' := 57) 1 dX12_chain_56 rfl rfl rfl ?_
      refine v_callS (vs := [.int x3, .int x2]) (pc' := 60) (h_X12_has g x3 x2) ms_X12_has wl_X12_246 (Nat.le_of_ble_eq_true rfl) (by omega) (by decide) (Nat.le_of_ble_eq_true rfl) rfl dX12_chain_57 rfl fun v5 => ?_
      refine v_ifeq (t := 66) (pc' := 63) dX12_chain_60 (by decide) rfl ?_ ?_
      · refine v_iload_n (pc' := 67) 2 dX12_chain_66 rfl rfl rfl ?_
        refine v_istore (lv' := [(5, .int x3), (0, rf g a0), (2, .int x2), (3, .int x3), (4, .int x4)]) (pc' := 69) dX12_chain_67 (by decide) rfl rfl ?_
        refine v_iconst (v := 0) (pc' := 70) dX12_chain_69 rfl rfl ?_
        refine v_istore (lv' := [(6, .int 0), (5, .int x3), (0, rf g a0), (2, .int x2), (3, .int x3), (4, .int x4)]) (pc' := 72) dX12_chain_70 (by decide) rfl rfl ?_
        refine V.sub [2, 3, 4, 5, 1, 0] rfl ?_
        exact h_X12_chain_b72 g (f_X12_chain_b48 n) ih NF a0 x2 x3 x4 x3 0
      · refine v_iload (pc' := 65) 3 dX12_chain_63 rfl rfl ?_
        exact v_ireturn rfl dX12_chain_65
set_option maxRecDepth 20000 in
theorem h_X12_chain_b27 (g : GW) (a0 : Nat) (x1 : Int32) (x2 : Int32) (xs0 : Int32) (as1 : Nat) : V g mX12_chain 14 rtI 27 [(0, rf g a0), (1, .int x1), (2, .int x2)] [.int xs0, rf g as1] (f_X12_chain_b27 a0 x1 x2 xs0 as1) := by
  unfold f_X12_chain_b27
  refine v_iconst (v := 1) (pc' := 28) dX12_chain_27 rfl rfl ?_
  refine v_iconst (v := 0) (pc' := 29) dX12_chain_28 rfl rfl ?_
  refine v_callV (vs := [.int xs0, .int 1, .int 0]) (pc' := 32) (h_X12_bad g as1 xs0 1 0) mv_X12_bad wl_X12_167 rfl (Nat.le_of_ble_eq_true rfl) (by omega) (by decide) (Nat.le_of_ble_eq_true rfl) rfl dX12_chain_29 rfl fun v6 => ?_
  refine v_ifeq (t := 37) (pc' := 35) dX12_chain_32 (by decide) rfl ?_ ?_
  · refine v_iconst (v := 1) (pc' := 38) dX12_chain_37 rfl rfl ?_
    refine v_iload_n (pc' := 39) 1 dX12_chain_38 rfl rfl rfl ?_
    refine v_ishl (pc' := 40) dX12_chain_39 rfl ?_
    refine v_istore_n (lv' := [(3, .int ((1 : Int32) <<< (x1 &&& 31))), (0, rf g a0), (1, .int x1), (2, .int x2)]) (pc' := 41) dX12_chain_40 rfl (by decide) rfl rfl ?_
    refine v_aload_n (pc' := 42) 1 dX12_chain_41 rfl rfl rfl ?_
    refine v_callV (vs := []) (pc' := 45) (h_X12_laysCans g a0) mv_X12_laysCans wl_X12_324 rfl (Nat.le_of_ble_eq_true rfl) (by omega) (by decide) (Nat.le_of_ble_eq_true rfl) rfl dX12_chain_42 rfl fun _ => ?_
    refine v_iconst (v := 0) (pc' := 46) dX12_chain_45 rfl rfl ?_
    refine v_istore (lv' := [(4, .int 0), (3, .int ((1 : Int32) <<< (x1 &&& 31))), (0, rf g a0), (1, .int x1), (2, .int x2)]) (pc' := 48) dX12_chain_46 (by decide) rfl rfl ?_
    refine V.sub [2, 4, 1, 0] rfl ?_
    exact h_X12_chain_b48 g NF a0 x2 ((1 : Int32) <<< (x1 &&& 31)) 0
  · refine v_iconst (v := 0) (pc' := 36) dX12_chain_35 rfl rfl ?_
    exact v_ireturn rfl dX12_chain_36
set_option maxRecDepth 20000 in
theorem h_X12_chain_b22 (g : GW) (a0 : Nat) (x1 : Int32) (x2 : Int32) (as0 : Nat) : V g mX12_chain 14 rtI 22 [(0, rf g a0), (1, .int x1), (2, .int x2)] [rf g as0] (f_X12_chain_b22 a0 x1 x2 as0) := by
  unfold f_X12_chain_b22
  refine v_iconst (v := 1) (pc' := 23) dX12_chain_22 rfl rfl ?_
  refine v_goto (t := 27) dX12_chain_23 (by decide) ?_
  refine V.sub [0, 1, 2] rfl ?_
  exact h_X12_chain_b27 g a0 x1 x2 1 as0
set_option maxRecDepth 20000 in
theorem h_X12_chain (g : GW) (a0 : Nat) (x1 : Int32) (x2 : Int32) : V g mX12_chain 14 rtI 0 [(0, rf g a0), (1, .int x1), (2, .int x2)] [] (f_X12_chain a0 x1 x2) := by
  unfold f_X12_chain
  refine v_aload_n (pc' := 1) 0 dX12_chain_0 rfl rfl rfl ?_
  refine v_iconst (v := 0) (pc' := 2) dX12_chain_1 rfl rfl ?_
  refine v_put (v := (.int 0)) (v' := .int 0) (pc' := 5) fw_X12_94 rfl rfl rfl (fun h => nomatch h) dX12_chain_2 rfl ?_
  refine v_aload_n (pc' := 6) 0 dX12_chain_5 rfl rfl rfl ?_
  refine v_aload_n (pc' := 7) 0 dX12_chain_6 rfl rfl rfl ?_
  refine v_iload_n (pc' := 8) 1 dX12_chain_7 rfl rfl rfl ?_
  refine v_callV (vs := [.int x1]) (pc' := 11) (h_X12_isPerson g a0 x1) mv_X12_isPerson wl_X12_296 rfl (Nat.le_of_ble_eq_true rfl) (by omega) (by decide) (Nat.le_of_ble_eq_true rfl) rfl dX12_chain_8 rfl fun v7 => ?_
  refine v_ifeq (t := 22) (pc' := 14) dX12_chain_11 (by decide) rfl ?_ ?_
  · refine V.sub [0, 1, 2] rfl ?_
    exact h_X12_chain_b22 g a0 x1 x2 a0
  · refine v_aload_n (pc' := 15) 0 dX12_chain_14 rfl rfl rfl ?_
    refine v_iload_n (pc' := 16) 2 dX12_chain_15 rfl rfl rfl ?_
    refine v_callV (vs := [.int x2]) (pc' := 19) (h_X12_isPerson g a0 x2) mv_X12_isPerson wl_X12_296 rfl (Nat.le_of_ble_eq_true rfl) (by omega) (by decide) (Nat.le_of_ble_eq_true rfl) rfl dX12_chain_16 rfl fun v8 => ?_
    refine v_ifne (t := 26) (pc' := 22) dX12_chain_19 (by decide) rfl ?_ ?_
    · refine v_iconst (v := 0) (pc' := 27) dX12_chain_26 rfl rfl ?_
      refine V.sub [0, 1, 2] rfl ?_
      exact h_X12_chain_b27 g a0 x1 x2 0 a0
    · refine V.sub [0, 1, 2] rfl ?_
      exact h_X12_chain_b22 g a0 x1 x2 a0
-- moodFor
def f_X12_moodFor_b103 (k50 : Nat → Int32 → Int32 → Int32 → Mo Int32) (a0 : Nat) (x1 : Int32) (x2 : Int32) (x3 : Int32) : Mo Int32 := k50 a0 x1 x2 (x3 + 1)
def f_X12_moodFor_b50 : Nat → Nat → Int32 → Int32 → Int32 → Mo Int32
  | 0, _, _, _, _ => fl
  | n + 1, a0, x1, x2, x3 => if (10 ≤ x3 : Prop) then (pu (-1)) else bd (gR 12 28 a0) fun r1 => bd (as_ r1 ((0 : Int32) + x1) x3) fun _ => bd (gR 12 14 a0) fun r2 => bd (al 0 r2 x1) fun v3 => bd (f_X12_has v3 x2) fun v4 => if (v4 = 0 : Prop) then (bd (gR 12 28 a0) fun r5 => bd (cv 12 a0 (f_X12_shownBy a0 r5 x1 x2 0)) fun v6 => bd (cv 12 a0 (f_X12_faceOf a0 x2)) fun v7 => bd (cv 12 a0 (f_X12_isAlike a0 v6 v7)) fun v8 => if (v8 = 0 : Prop) then (f_X12_moodFor_b103 (f_X12_moodFor_b50 n) a0 x1 x2 x3) else pu x3) else f_X12_moodFor_b103 (f_X12_moodFor_b50 n) a0 x1 x2 x3
def f_X12_moodFor_b27 (a0 : Nat) (x1 : Int32) (x2 : Int32) (xs0 : Int32) (as1 : Nat) : Mo Int32 := bd (cv 12 as1 (f_X12_bad as1 xs0 1 0)) fun v9 => if (v9 = 0 : Prop) then (bd (gR 12 27 a0) fun r10 => bd (gR 12 28 a0) fun r11 => bd (f_X12_copies r10 r11) fun _ => f_X12_moodFor_b50 NF a0 x1 x2 0) else pu 0
def f_X12_moodFor_b22 (a0 : Nat) (x1 : Int32) (x2 : Int32) (as0 : Nat) : Mo Int32 := f_X12_moodFor_b27 a0 x1 x2 1 as0
def f_X12_moodFor (a0 : Nat) (x1 : Int32) (x2 : Int32) : Mo Int32 := bd (pf 12 0 a0 (.int 0)) fun _ => bd (cv 12 a0 (f_X12_isPerson a0 x1)) fun v12 => if (v12 = 0 : Prop) then (f_X12_moodFor_b22 a0 x1 x2 a0) else bd (cv 12 a0 (f_X12_isPerson a0 x2)) fun v13 => if (v13 = 0 : Prop) then (f_X12_moodFor_b22 a0 x1 x2 a0) else f_X12_moodFor_b27 a0 x1 x2 0 a0
set_option maxRecDepth 20000 in
theorem h_X12_moodFor_b103 (g : GW) (k50 : Nat → Int32 → Int32 → Int32 → Mo Int32) (hk50 : ∀ a0 x1 x2 x3, V g mX12_moodFor 12 rtI 50 [(0, rf g a0), (1, .int x1), (2, .int x2), (3, .int x3)] [] (k50 a0 x1 x2 x3)) (a0 : Nat) (x1 : Int32) (x2 : Int32) (x3 : Int32) : V g mX12_moodFor 12 rtI 103 [(0, rf g a0), (1, .int x1), (2, .int x2), (3, .int x3)] [] (f_X12_moodFor_b103 k50 a0 x1 x2 x3) := by
  unfold f_X12_moodFor_b103
  refine v_iinc (v := x3 + 1) (lv' := [(3, .int (x3 + 1)), (0, rf g a0), (1, .int x1), (2, .int x2)]) (pc' := 106) 3 dX12_moodFor_103 rfl rfl (by decide) rfl rfl ?_
  refine v_goto (t := 50) dX12_moodFor_106 (by decide) ?_
  refine V.sub [1, 2, 3, 0] rfl ?_
  exact hk50 a0 x1 x2 (x3 + 1)
set_option maxRecDepth 20000 in
theorem h_X12_moodFor_b50 (g : GW) : ∀ n : Nat, ∀ a0 x1 x2 x3, V g mX12_moodFor 12 rtI 50 [(0, rf g a0), (1, .int x1), (2, .int x2), (3, .int x3)] [] (f_X12_moodFor_b50 n a0 x1 x2 x3) := by
  intro n
  induction n with
  | zero => intro a0 x1 x2 x3; exact V.vain
  | succ n ih =>
    intro a0 x1 x2 x3
    unfold f_X12_moodFor_b50
    refine v_iload_n (pc' := 51) 3 dX12_moodFor_50 rfl rfl rfl ?_
    refine v_bipush (v := 10) (pc' := 53) dX12_moodFor_51 rfl rfl ?_
    refine v_icmpge (t := 109) (pc' := 56) dX12_moodFor_53 (by decide) rfl ?_ ?_
    · refine v_iconst (v := -1) (pc' := 110) dX12_moodFor_109 rfl rfl ?_
      exact v_ireturn rfl dX12_moodFor_110
    · refine v_aload_n (pc' := 57) 0 dX12_moodFor_56 rfl rfl rfl ?_
      refine v_getR (pc' := 60) fl_X12_64 dX12_moodFor_57 rfl fun r1 => ?_
      refine v_iconst (v := 0) (pc' := 61) dX12_moodFor_60 rfl rfl ?_
      refine v_iload_n (pc' := 62) 1 dX12_moodFor_61 rfl rfl rfl ?_
      refine v_iadd (pc' := 63) dX12_moodFor_62 rfl ?_
      refine v_iload_n (pc' := 64) 3 dX12_moodFor_63 rfl rfl rfl ?_
      refine v_iast (pc' := 65) dX12_moodFor_64 rfl ?_
      refine v_aload_n (pc' := 66) 0 dX12_moodFor_65 rfl rfl rfl ?_
      refine v_getR (pc' := 69) fl_X12_29 dX12_moodFor_66 rfl fun r2 => ?_
      refine v_iload_n (pc' := 70) 1 dX12_moodFor_69 rfl rfl rfl ?_
      refine v_iald (pc' := 71) dX12_moodFor_70 rfl fun v3 => ?_
      refine v_iload_n (pc' := 72) 2 dX12_moodFor_71 rfl rfl rfl ?_
      refine v_callS (vs := [.int v3, .int x2]) (pc' := 75) (h_X12_has g v3 x2) ms_X12_has wl_X12_246 (Nat.le_of_ble_eq_true rfl) (by omega) (by decide) (Nat.le_of_ble_eq_true rfl) rfl dX12_moodFor_72 rfl fun v4 => ?_
      refine v_ifne (t := 103) (pc' := 78) dX12_moodFor_75 (by decide) rfl ?_ ?_
      · refine V.sub [0, 1, 2, 3] rfl ?_
        exact h_X12_moodFor_b103 g (f_X12_moodFor_b50 n) ih a0 x1 x2 x3
      · refine v_aload_n (pc' := 79) 0 dX12_moodFor_78 rfl rfl rfl ?_
        refine v_aload_n (pc' := 80) 0 dX12_moodFor_79 rfl rfl rfl ?_
        refine v_aload_n (pc' := 81) 0 dX12_moodFor_80 rfl rfl rfl ?_
        refine v_getR (pc' := 84) fl_X12_64 dX12_moodFor_81 rfl fun r5 => ?_
        refine v_iload_n (pc' := 85) 1 dX12_moodFor_84 rfl rfl rfl ?_
        refine v_iload_n (pc' := 86) 2 dX12_moodFor_85 rfl rfl rfl ?_
        refine v_iconst (v := 0) (pc' := 87) dX12_moodFor_86 rfl rfl ?_
        refine v_callV (vs := [rf g r5, .int x1, .int x2, .int 0]) (pc' := 90) (h_X12_shownBy g a0 r5 x1 x2 0) mv_X12_shownBy wl_X12_259 rfl (Nat.le_of_ble_eq_true rfl) (by omega) (by decide) (Nat.le_of_ble_eq_true rfl) rfl dX12_moodFor_87 rfl fun v6 => ?_
        refine v_aload_n (pc' := 91) 0 dX12_moodFor_90 rfl rfl rfl ?_
        refine v_iload_n (pc' := 92) 2 dX12_moodFor_91 rfl rfl rfl ?_
        refine v_callV (vs := [.int x2]) (pc' := 95) (h_X12_faceOf g a0 x2) mv_X12_faceOf wl_X12_253 rfl (Nat.le_of_ble_eq_true rfl) (by omega) (by decide) (Nat.le_of_ble_eq_true rfl) rfl dX12_moodFor_92 rfl fun v7 => ?_
        refine v_callV (vs := [.int v6, .int v7]) (pc' := 98) (h_X12_isAlike g a0 v6 v7) mv_X12_isAlike wl_X12_311 rfl (Nat.le_of_ble_eq_true rfl) (by omega) (by decide) (Nat.le_of_ble_eq_true rfl) rfl dX12_moodFor_95 rfl fun v8 => ?_
        refine v_ifeq (t := 103) (pc' := 101) dX12_moodFor_98 (by decide) rfl ?_ ?_
        · refine V.sub [0, 1, 2, 3] rfl ?_
          exact h_X12_moodFor_b103 g (f_X12_moodFor_b50 n) ih a0 x1 x2 x3
        · refine v_iload_n (pc' := 102) 3 dX12_moodFor_101 rfl rfl rfl ?_
          exact v_ireturn rfl dX12_moodFor_102
set_option maxRecDepth 20000 in
theorem h_X12_moodFor_b27 (g : GW) (a0 : Nat) (x1 : Int32) (x2 : Int32) (xs0 : Int32) (as1 : Nat) : V g mX12_moodFor 12 rtI 27 [(0, rf g a0), (1, .int x1), (2, .int x2)] [.int xs0, rf g as1] (f_X12_moodFor_b27 a0 x1 x2 xs0 as1) := by
  unfold f_X12_moodFor_b27
  refine v_iconst (v := 1) (pc' := 28) dX12_moodFor_27 rfl rfl ?_
  refine v_iconst (v := 0) (pc' := 29) dX12_moodFor_28 rfl rfl ?_
  refine v_callV (vs := [.int xs0, .int 1, .int 0]) (pc' := 32) (h_X12_bad g as1 xs0 1 0) mv_X12_bad wl_X12_167 rfl (Nat.le_of_ble_eq_true rfl) (by omega) (by decide) (Nat.le_of_ble_eq_true rfl) rfl dX12_moodFor_29 rfl fun v9 => ?_
  refine v_ifeq (t := 37) (pc' := 35) dX12_moodFor_32 (by decide) rfl ?_ ?_
  · refine v_aload_n (pc' := 38) 0 dX12_moodFor_37 rfl rfl rfl ?_
    refine v_getR (pc' := 41) fl_X12_61 dX12_moodFor_38 rfl fun r10 => ?_
    refine v_aload_n (pc' := 42) 0 dX12_moodFor_41 rfl rfl rfl ?_
    refine v_getR (pc' := 45) fl_X12_64 dX12_moodFor_42 rfl fun r11 => ?_
    refine v_callS (vs := [rf g r10, rf g r11]) (pc' := 48) (h_X12_copies g r10 r11) ms_X12_copies wl_X12_292 (Nat.le_of_ble_eq_true rfl) (by omega) (by decide) (Nat.le_of_ble_eq_true rfl) rfl dX12_moodFor_45 rfl fun _ => ?_
    refine v_iconst (v := 0) (pc' := 49) dX12_moodFor_48 rfl rfl ?_
    refine v_istore_n (lv' := [(3, .int 0), (0, rf g a0), (1, .int x1), (2, .int x2)]) (pc' := 50) dX12_moodFor_49 rfl (by decide) rfl rfl ?_
    refine V.sub [1, 2, 3, 0] rfl ?_
    exact h_X12_moodFor_b50 g NF a0 x1 x2 0
  · refine v_iconst (v := 0) (pc' := 36) dX12_moodFor_35 rfl rfl ?_
    exact v_ireturn rfl dX12_moodFor_36
set_option maxRecDepth 20000 in
theorem h_X12_moodFor_b22 (g : GW) (a0 : Nat) (x1 : Int32) (x2 : Int32) (as0 : Nat) : V g mX12_moodFor 12 rtI 22 [(0, rf g a0), (1, .int x1), (2, .int x2)] [rf g as0] (f_X12_moodFor_b22 a0 x1 x2 as0) := by
  unfold f_X12_moodFor_b22
  refine v_iconst (v := 1) (pc' := 23) dX12_moodFor_22 rfl rfl ?_
  refine v_goto (t := 27) dX12_moodFor_23 (by decide) ?_
  refine V.sub [0, 1, 2] rfl ?_
  exact h_X12_moodFor_b27 g a0 x1 x2 1 as0
set_option maxRecDepth 20000 in
theorem h_X12_moodFor (g : GW) (a0 : Nat) (x1 : Int32) (x2 : Int32) : V g mX12_moodFor 12 rtI 0 [(0, rf g a0), (1, .int x1), (2, .int x2)] [] (f_X12_moodFor a0 x1 x2) := by
  unfold f_X12_moodFor
  refine v_aload_n (pc' := 1) 0 dX12_moodFor_0 rfl rfl rfl ?_
  refine v_iconst (v := 0) (pc' := 2) dX12_moodFor_1 rfl rfl ?_
  refine v_put (v := (.int 0)) (v' := .int 0) (pc' := 5) fw_X12_94 rfl rfl rfl (fun h => nomatch h) dX12_moodFor_2 rfl ?_
  refine v_aload_n (pc' := 6) 0 dX12_moodFor_5 rfl rfl rfl ?_
  refine v_aload_n (pc' := 7) 0 dX12_moodFor_6 rfl rfl rfl ?_
  refine v_iload_n (pc' := 8) 1 dX12_moodFor_7 rfl rfl rfl ?_
  refine v_callV (vs := [.int x1]) (pc' := 11) (h_X12_isPerson g a0 x1) mv_X12_isPerson wl_X12_296 rfl (Nat.le_of_ble_eq_true rfl) (by omega) (by decide) (Nat.le_of_ble_eq_true rfl) rfl dX12_moodFor_8 rfl fun v12 => ?_
  refine v_ifeq (t := 22) (pc' := 14) dX12_moodFor_11 (by decide) rfl ?_ ?_
  · refine V.sub [0, 1, 2] rfl ?_
    exact h_X12_moodFor_b22 g a0 x1 x2 a0
  · refine v_aload_n (pc' := 15) 0 dX12_moodFor_14 rfl rfl rfl ?_
    refine v_iload_n (pc' := 16) 2 dX12_moodFor_15 rfl rfl rfl ?_
    refine v_callV (vs := [.int x2]) (pc' := 19) (h_X12_isPerson g a0 x2) mv_X12_isPerson wl_X12_296 rfl (Nat.le_of_ble_eq_true rfl) (by omega) (by decide) (Nat.le_of_ble_eq_true rfl) rfl dX12_moodFor_16 rfl fun v13 => ?_
    refine v_ifne (t := 26) (pc' := 22) dX12_moodFor_19 (by decide) rfl ?_ ?_
    · refine v_iconst (v := 0) (pc' := 27) dX12_moodFor_26 rfl rfl ?_
      refine V.sub [0, 1, 2] rfl ?_
      exact h_X12_moodFor_b27 g a0 x1 x2 0 a0
    · refine V.sub [0, 1, 2] rfl ?_
      exact h_X12_moodFor_b22 g a0 x1 x2 a0
-- rings
def f_X12_rings_b114 (rec : Nat → Int32 → Int32 → Int32 → Int32 → Int32 → Mo Unit) (k55 : Nat → Int32 → Int32 → Int32 → Int32 → Int32 → Int32 → Mo Unit) (a0 : Nat) (x1 : Int32) (x2 : Int32) (x3 : Int32) (x4 : Int32) (x5 : Int32) (x6 : Int32) : Mo Unit := k55 a0 x1 x2 x3 x4 x5 (x6 + 1)
def f_X12_rings_b55 (rec : Nat → Int32 → Int32 → Int32 → Int32 → Int32 → Mo Unit) : Nat → Nat → Int32 → Int32 → Int32 → Int32 → Int32 → Int32 → Mo Unit
  | 0, _, _, _, _, _, _, _ => fl
  | n + 1, a0, x1, x2, x3, x4, x5, x6 => bd (gR 12 12 a0) fun r1 => bd (al 0 r1 0) fun v2 => if (v2 ≤ x6 : Prop) then (pu ()) else bd (f_X12_has x3 x6) fun v3 => if (v3 = 0 : Prop) then (bd (gR 12 38 a0) fun r4 => bd (al 0 r4 x6) fun v5 => bd (f_X12_has v5 x2) fun v6 => if (v6 = 0 : Prop) then (f_X12_rings_b114 rec (f_X12_rings_b55 rec n) a0 x1 x2 x3 x4 x5 x6) else bd (cv 12 a0 (rec a0 x1 x6 (x3 ||| ((1 : Int32) <<< (x6 &&& 31))) (x4 - (1 : Int32)) (((10 : Int32) * x5) + x6))) fun _ => f_X12_rings_b114 rec (f_X12_rings_b55 rec n) a0 x1 x2 x3 x4 x5 x6) else f_X12_rings_b114 rec (f_X12_rings_b55 rec n) a0 x1 x2 x3 x4 x5 x6
def f_X12_rings_b36 (rec : Nat → Int32 → Int32 → Int32 → Int32 → Int32 → Mo Unit) (a0 : Nat) (xs0 : Int32) (as1 : Nat) : Mo Unit := bd (pf 12 40 as1 (.int xs0)) fun _ => bd (gI 12 39 a0) fun v7 => bd (pf 12 39 a0 (.int (v7 + (1 : Int32)))) fun _ => pu ()
def f_X12_rings (rec : Nat → Int32 → Int32 → Int32 → Int32 → Int32 → Mo Unit) (a0 : Nat) (x1 : Int32) (x2 : Int32) (x3 : Int32) (x4 : Int32) (x5 : Int32) : Mo Unit := if (x4 = 0 : Prop) then (bd (gR 12 38 a0) fun r8 => bd (al 0 r8 x1) fun v9 => bd (f_X12_has v9 x2) fun v10 => if (v10 = 0 : Prop) then (pu ()) else bd (gI 12 39 a0) fun v11 => if (v11 = 0 : Prop) then (f_X12_rings_b36 rec a0 x5 a0) else bd (gI 12 40 a0) fun v12 => f_X12_rings_b36 rec a0 v12 a0) else f_X12_rings_b55 rec NF a0 x1 x2 x3 x4 x5 (x1 + (1 : Int32))
def F_X12_rings : Nat → Nat → Int32 → Int32 → Int32 → Int32 → Int32 → Mo Unit
  | 0, _, _, _, _, _, _ => fl
  | D + 1, a0, x1, x2, x3, x4, x5 => f_X12_rings (F_X12_rings D) a0 x1 x2 x3 x4 x5
set_option maxRecDepth 20000 in
theorem h_X12_rings_b114 (g : GW) (rec : Nat → Int32 → Int32 → Int32 → Int32 → Int32 → Mo Unit) (e : Nat) (he : 8 ≤ e) (hrec : ∀ a0 x1 x2 x3 x4 x5, V g mX12_rings e rtU 0 [(0, rf g a0), (1, .int x1), (2, .int x2), (3, .int x3), (4, .int x4), (5, .int x5)] [] (rec a0 x1 x2 x3 x4 x5)) (k55 : Nat → Int32 → Int32 → Int32 → Int32 → Int32 → Int32 → Mo Unit) (hk55 : ∀ a0 x1 x2 x3 x4 x5 x6, V g mX12_rings (e + 1) rtU 55 [(0, rf g a0), (1, .int x1), (2, .int x2), (3, .int x3), (4, .int x4), (5, .int x5), (6, .int x6)] [] (k55 a0 x1 x2 x3 x4 x5 x6)) (a0 : Nat) (x1 : Int32) (x2 : Int32) (x3 : Int32) (x4 : Int32) (x5 : Int32) (x6 : Int32) : V g mX12_rings (e + 1) rtU 114 [(0, rf g a0), (1, .int x1), (2, .int x2), (3, .int x3), (4, .int x4), (5, .int x5), (6, .int x6)] [] (f_X12_rings_b114 rec k55 a0 x1 x2 x3 x4 x5 x6) := by
  unfold f_X12_rings_b114
  refine v_iinc (v := x6 + 1) (lv' := [(6, .int (x6 + 1)), (0, rf g a0), (1, .int x1), (2, .int x2), (3, .int x3), (4, .int x4), (5, .int x5)]) (pc' := 117) 6 dX12_rings_114 rfl rfl (by decide) rfl rfl ?_
  refine v_goto (t := 55) dX12_rings_117 (by decide) ?_
  refine V.sub [1, 2, 3, 4, 5, 6, 0] rfl ?_
  exact hk55 a0 x1 x2 x3 x4 x5 (x6 + 1)
set_option maxRecDepth 20000 in
theorem h_X12_rings_b55 (g : GW) (rec : Nat → Int32 → Int32 → Int32 → Int32 → Int32 → Mo Unit) (e : Nat) (he : 8 ≤ e) (hrec : ∀ a0 x1 x2 x3 x4 x5, V g mX12_rings e rtU 0 [(0, rf g a0), (1, .int x1), (2, .int x2), (3, .int x3), (4, .int x4), (5, .int x5)] [] (rec a0 x1 x2 x3 x4 x5)) : ∀ n : Nat, ∀ a0 x1 x2 x3 x4 x5 x6, V g mX12_rings (e + 1) rtU 55 [(0, rf g a0), (1, .int x1), (2, .int x2), (3, .int x3), (4, .int x4), (5, .int x5), (6, .int x6)] [] (f_X12_rings_b55 rec n a0 x1 x2 x3 x4 x5 x6) := by
  intro n
  induction n with
  | zero => intro a0 x1 x2 x3 x4 x5 x6; exact V.vain
  | succ n ih =>
    intro a0 x1 x2 x3 x4 x5 x6
    unfold f_X12_rings_b55
    refine v_iload (pc' := 57) 6 dX12_rings_55 rfl rfl ?_
    refine v_aload_n (pc' := 58) 0 dX12_rings_57 rfl rfl rfl ?_
    refine v_getR (pc' := 61) fl_X12_23 dX12_rings_58 rfl fun r1 => ?_
    refine v_iconst (v := 0) (pc' := 62) dX12_rings_61 rfl rfl ?_
    refine v_iald (pc' := 63) dX12_rings_62 rfl fun v2 => ?_
    refine v_icmpge (t := 120) (pc' := 66) dX12_rings_63 (by decide) rfl ?_ ?_
    · exact v_return rfl dX12_rings_120
    · refine v_iload_n (pc' := 67) 3 dX12_rings_66 rfl rfl rfl ?_
      refine v_iload (pc' := 69) 6 dX12_rings_67 rfl rfl ?_
      refine v_callS (vs := [.int x3, .int x6]) (pc' := 72) (h_X12_has g x3 x6) ms_X12_has wl_X12_246 (Nat.le_of_ble_eq_true rfl) (by omega) (by decide) (Nat.le_of_ble_eq_true rfl) rfl dX12_rings_69 rfl fun v3 => ?_
      refine v_ifne (t := 114) (pc' := 75) dX12_rings_72 (by decide) rfl ?_ ?_
      · refine V.sub [0, 1, 2, 3, 4, 5, 6] rfl ?_
        exact h_X12_rings_b114 g rec e he hrec (f_X12_rings_b55 rec n) ih a0 x1 x2 x3 x4 x5 x6
      · refine v_aload_n (pc' := 76) 0 dX12_rings_75 rfl rfl rfl ?_
        refine v_getR (pc' := 79) fl_X12_73 dX12_rings_76 rfl fun r4 => ?_
        refine v_iload (pc' := 81) 6 dX12_rings_79 rfl rfl ?_
        refine v_iald (pc' := 82) dX12_rings_81 rfl fun v5 => ?_
        refine v_iload_n (pc' := 83) 2 dX12_rings_82 rfl rfl rfl ?_
        refine v_callS (vs := [.int v5, .int x2]) (pc' := 86) (h_X12_has g v5 x2) ms_X12_has wl_X12_246 (Nat.le_of_ble_eq_true rfl) (by omega) (by decide) (Nat.le_of_ble_eq_true rfl) rfl dX12_rings_83 rfl fun v6 => ?_
        refine v_ifeq (t := 114) (pc' := 89) dX12_rings_86 (by decide) rfl ?_ ?_
        · refine V.sub [0, 1, 2, 3, 4, 5, 6] rfl ?_
          exact h_X12_rings_b114 g rec e he hrec (f_X12_rings_b55 rec n) ih a0 x1 x2 x3 x4 x5 x6
        · refine v_aload_n (pc' := 90) 0 dX12_rings_89 rfl rfl rfl ?_
          refine v_iload_n (pc' := 91) 1 dX12_rings_90 rfl rfl rfl ?_
          refine v_iload (pc' := 93) 6 dX12_rings_91 rfl rfl ?_
          refine v_iload_n (pc' := 94) 3 dX12_rings_93 rfl rfl rfl ?_
          refine v_iconst (v := 1) (pc' := 95) dX12_rings_94 rfl rfl ?_
          refine v_iload (pc' := 97) 6 dX12_rings_95 rfl rfl ?_
          refine v_ishl (pc' := 98) dX12_rings_97 rfl ?_
          refine v_ior (pc' := 99) dX12_rings_98 rfl ?_
          refine v_iload (pc' := 101) 4 dX12_rings_99 rfl rfl ?_
          refine v_iconst (v := 1) (pc' := 102) dX12_rings_101 rfl rfl ?_
          refine v_isub (pc' := 103) dX12_rings_102 rfl ?_
          refine v_bipush (v := 10) (pc' := 105) dX12_rings_103 rfl rfl ?_
          refine v_iload (pc' := 107) 5 dX12_rings_105 rfl rfl ?_
          refine v_imul (pc' := 108) dX12_rings_107 rfl ?_
          refine v_iload (pc' := 110) 6 dX12_rings_108 rfl rfl ?_
          refine v_iadd (pc' := 111) dX12_rings_110 rfl ?_
          refine v_callV (vs := [.int x1, .int x6, .int (x3 ||| ((1 : Int32) <<< (x6 &&& 31))), .int (x4 - (1 : Int32)), .int (((10 : Int32) * x5) + x6)]) (pc' := 114) (hrec a0 x1 x6 (x3 ||| ((1 : Int32) <<< (x6 &&& 31))) (x4 - (1 : Int32)) (((10 : Int32) * x5) + x6)) mv_X12_rings wl_X12_339 rfl (Nat.le_of_ble_eq_true rfl) (by omega) (by decide) (Nat.le_of_ble_eq_true rfl) rfl dX12_rings_111 rfl fun _ => ?_
          refine V.sub [0, 1, 2, 3, 4, 5, 6] rfl ?_
          exact h_X12_rings_b114 g rec e he hrec (f_X12_rings_b55 rec n) ih a0 x1 x2 x3 x4 x5 x6
set_option maxRecDepth 20000 in
theorem h_X12_rings_b36 (g : GW) (rec : Nat → Int32 → Int32 → Int32 → Int32 → Int32 → Mo Unit) (e : Nat) (he : 8 ≤ e) (hrec : ∀ a0 x1 x2 x3 x4 x5, V g mX12_rings e rtU 0 [(0, rf g a0), (1, .int x1), (2, .int x2), (3, .int x3), (4, .int x4), (5, .int x5)] [] (rec a0 x1 x2 x3 x4 x5)) (a0 : Nat) (xs0 : Int32) (as1 : Nat) : V g mX12_rings (e + 1) rtU 36 [(0, rf g a0)] [.int xs0, rf g as1] (f_X12_rings_b36 rec a0 xs0 as1) := by
  unfold f_X12_rings_b36
  refine v_put (v := (.int xs0)) (v' := .int xs0) (pc' := 39) fw_X12_336 rfl rfl rfl (fun h => nomatch h) dX12_rings_36 rfl ?_
  refine v_aload_n (pc' := 40) 0 dX12_rings_39 rfl rfl rfl ?_
  refine v_dup (pc' := 41) dX12_rings_40 rfl rfl ?_
  refine v_getI (pc' := 44) fl_X12_333 dX12_rings_41 rfl fun v7 => ?_
  refine v_iconst (v := 1) (pc' := 45) dX12_rings_44 rfl rfl ?_
  refine v_iadd (pc' := 46) dX12_rings_45 rfl ?_
  refine v_put (v := (.int (v7 + (1 : Int32)))) (v' := .int (v7 + (1 : Int32))) (pc' := 49) fw_X12_333 rfl rfl rfl (fun h => nomatch h) dX12_rings_46 rfl ?_
  exact v_return rfl dX12_rings_49
set_option maxRecDepth 20000 in
theorem h_X12_rings (g : GW) (rec : Nat → Int32 → Int32 → Int32 → Int32 → Int32 → Mo Unit) (e : Nat) (he : 8 ≤ e) (hrec : ∀ a0 x1 x2 x3 x4 x5, V g mX12_rings e rtU 0 [(0, rf g a0), (1, .int x1), (2, .int x2), (3, .int x3), (4, .int x4), (5, .int x5)] [] (rec a0 x1 x2 x3 x4 x5)) (a0 : Nat) (x1 : Int32) (x2 : Int32) (x3 : Int32) (x4 : Int32) (x5 : Int32) : V g mX12_rings (e + 1) rtU 0 [(0, rf g a0), (1, .int x1), (2, .int x2), (3, .int x3), (4, .int x4), (5, .int x5)] [] (f_X12_rings rec a0 x1 x2 x3 x4 x5) := by
  unfold f_X12_rings
  refine v_iload (pc' := 2) 4 dX12_rings_0 rfl rfl ?_
  refine v_ifne (t := 50) (pc' := 5) dX12_rings_2 (by decide) rfl ?_ ?_
  · refine v_iload_n (pc' := 51) 1 dX12_rings_50 rfl rfl rfl ?_
    refine v_iconst (v := 1) (pc' := 52) dX12_rings_51 rfl rfl ?_
    refine v_iadd (pc' := 53) dX12_rings_52 rfl ?_
    refine v_istore (lv' := [(6, .int (x1 + (1 : Int32))), (0, rf g a0), (1, .int x1), (2, .int x2), (3, .int x3), (4, .int x4), (5, .int x5)]) (pc' := 55) dX12_rings_53 (by decide) rfl rfl ?_
    refine V.sub [1, 2, 3, 4, 5, 6, 0] rfl ?_
    exact h_X12_rings_b55 g rec e he hrec NF a0 x1 x2 x3 x4 x5 (x1 + (1 : Int32))
  · refine v_aload_n (pc' := 6) 0 dX12_rings_5 rfl rfl rfl ?_
    refine v_getR (pc' := 9) fl_X12_73 dX12_rings_6 rfl fun r8 => ?_
    refine v_iload_n (pc' := 10) 1 dX12_rings_9 rfl rfl rfl ?_
    refine v_iald (pc' := 11) dX12_rings_10 rfl fun v9 => ?_
    refine v_iload_n (pc' := 12) 2 dX12_rings_11 rfl rfl rfl ?_
    refine v_callS (vs := [.int v9, .int x2]) (pc' := 15) (h_X12_has g v9 x2) ms_X12_has wl_X12_246 (Nat.le_of_ble_eq_true rfl) (by omega) (by decide) (Nat.le_of_ble_eq_true rfl) rfl dX12_rings_12 rfl fun v10 => ?_
    refine v_ifne (t := 19) (pc' := 18) dX12_rings_15 (by decide) rfl ?_ ?_
    · refine v_aload_n (pc' := 20) 0 dX12_rings_19 rfl rfl rfl ?_
      refine v_aload_n (pc' := 21) 0 dX12_rings_20 rfl rfl rfl ?_
      refine v_getI (pc' := 24) fl_X12_333 dX12_rings_21 rfl fun v11 => ?_
      refine v_ifne (t := 32) (pc' := 27) dX12_rings_24 (by decide) rfl ?_ ?_
      · refine v_aload_n (pc' := 33) 0 dX12_rings_32 rfl rfl rfl ?_
        refine v_getI (pc' := 36) fl_X12_336 dX12_rings_33 rfl fun v12 => ?_
        refine V.sub [0] rfl ?_
        exact h_X12_rings_b36 g rec e he hrec a0 v12 a0
      · refine v_iload (pc' := 29) 5 dX12_rings_27 rfl rfl ?_
        refine v_goto (t := 36) dX12_rings_29 (by decide) ?_
        refine V.sub [0] rfl ?_
        exact h_X12_rings_b36 g rec e he hrec a0 x5 a0
    · exact v_return rfl dX12_rings_18
theorem H_X12_rings (g : GW) : ∀ (D : Nat) a0 x1 x2 x3 x4 x5, V g mX12_rings (8 + D * 1) rtU 0 [(0, rf g a0), (1, .int x1), (2, .int x2), (3, .int x3), (4, .int x4), (5, .int x5)] [] (F_X12_rings D a0 x1 x2 x3 x4 x5)
  | 0, _, _, _, _, _, _ => V.vain
  | D + 1, a0, x1, x2, x3, x4, x5 => by
    have h := h_X12_rings g (F_X12_rings D) (8 + D * 1) (Nat.le_add_right _ _) (fun a0 x1 x2 x3 x4 x5 => H_X12_rings g D a0 x1 x2 x3 x4 x5) a0 x1 x2 x3 x4 x5
    rw [show 8 + (D + 1) * 1 = 8 + D * 1 + 1 by omega]
    exact h
-- ring
def f_X12_ring_b55 : Nat → Nat → Int32 → Int32 → Int32 → Mo Int32
  | 0, _, _, _, _ => fl
  | n + 1, a0, x1, x2, x3 => bd (gR 12 12 a0) fun r1 => bd (al 0 r1 0) fun v2 => if (v2 ≤ x3 : Prop) then (if (x2 = 0 : Prop) then (bd (gI 12 39 a0) fun v4 => pu v4) else bd (gI 12 40 a0) fun v3 => pu v3) else bd (cv 12 a0 (F_X12_rings 12 a0 x3 x3 ((1 : Int32) <<< (x3 &&& 31)) (x1 - (1 : Int32)) x3)) fun _ => (f_X12_ring_b55 n) a0 x1 x2 (x3 + 1)
def f_X12_ring_b29 (a0 : Nat) (x1 : Int32) (x2 : Int32) (xs0 : Int32) (as1 : Nat) : Mo Int32 := bd (cv 12 as1 (f_X12_bad as1 xs0 1 1)) fun v5 => if (v5 = 0 : Prop) then (bd (pf 12 39 a0 (.int 0)) fun _ => bd (pf 12 40 a0 (.int (-1))) fun _ => bd (cv 12 a0 (f_X12_laysCans a0)) fun _ => f_X12_ring_b55 NF a0 x1 x2 0) else pu 0
def f_X12_ring_b24 (a0 : Nat) (x1 : Int32) (x2 : Int32) (as0 : Nat) : Mo Int32 := f_X12_ring_b29 a0 x1 x2 1 as0
def f_X12_ring (a0 : Nat) (x1 : Int32) (x2 : Int32) : Mo Int32 := bd (pf 12 0 a0 (.int 0)) fun _ => bd (f_X12_in x1 2 5) fun v6 => if (v6 = 0 : Prop) then (f_X12_ring_b24 a0 x1 x2 a0) else bd (f_X12_in x2 0 1) fun v7 => if (v7 = 0 : Prop) then (f_X12_ring_b24 a0 x1 x2 a0) else f_X12_ring_b29 a0 x1 x2 0 a0
set_option maxRecDepth 20000 in
theorem h_X12_ring_b55 (g : GW) : ∀ n : Nat, ∀ a0 x1 x2 x3, V g mX12_ring 21 rtI 55 [(0, rf g a0), (1, .int x1), (2, .int x2), (3, .int x3)] [] (f_X12_ring_b55 n a0 x1 x2 x3) := by
  intro n
  induction n with
  | zero => intro a0 x1 x2 x3; exact V.vain
  | succ n ih =>
    intro a0 x1 x2 x3
    unfold f_X12_ring_b55
    refine v_iload_n (pc' := 56) 3 dX12_ring_55 rfl rfl rfl ?_
    refine v_aload_n (pc' := 57) 0 dX12_ring_56 rfl rfl rfl ?_
    refine v_getR (pc' := 60) fl_X12_23 dX12_ring_57 rfl fun r1 => ?_
    refine v_iconst (v := 0) (pc' := 61) dX12_ring_60 rfl rfl ?_
    refine v_iald (pc' := 62) dX12_ring_61 rfl fun v2 => ?_
    refine v_icmpge (t := 84) (pc' := 65) dX12_ring_62 (by decide) rfl ?_ ?_
    · refine v_iload_n (pc' := 85) 2 dX12_ring_84 rfl rfl rfl ?_
      refine v_ifne (t := 95) (pc' := 88) dX12_ring_85 (by decide) rfl ?_ ?_
      · refine v_aload_n (pc' := 96) 0 dX12_ring_95 rfl rfl rfl ?_
        refine v_getI (pc' := 99) fl_X12_336 dX12_ring_96 rfl fun v3 => ?_
        exact v_ireturn rfl dX12_ring_99
      · refine v_aload_n (pc' := 89) 0 dX12_ring_88 rfl rfl rfl ?_
        refine v_getI (pc' := 92) fl_X12_333 dX12_ring_89 rfl fun v4 => ?_
        refine v_goto (t := 99) dX12_ring_92 (by decide) ?_
        exact v_ireturn rfl dX12_ring_99
    · refine v_aload_n (pc' := 66) 0 dX12_ring_65 rfl rfl rfl ?_
      refine v_iload_n (pc' := 67) 3 dX12_ring_66 rfl rfl rfl ?_
      refine v_iload_n (pc' := 68) 3 dX12_ring_67 rfl rfl rfl ?_
      refine v_iconst (v := 1) (pc' := 69) dX12_ring_68 rfl rfl ?_
      refine v_iload_n (pc' := 70) 3 dX12_ring_69 rfl rfl rfl ?_
      refine v_ishl (pc' := 71) dX12_ring_70 rfl ?_
      refine v_iload_n (pc' := 72) 1 dX12_ring_71 rfl rfl rfl ?_
      refine v_iconst (v := 1) (pc' := 73) dX12_ring_72 rfl rfl ?_
      refine v_isub (pc' := 74) dX12_ring_73 rfl ?_
      refine v_iload_n (pc' := 75) 3 dX12_ring_74 rfl rfl rfl ?_
      refine v_callV (vs := [.int x3, .int x3, .int ((1 : Int32) <<< (x3 &&& 31)), .int (x1 - (1 : Int32)), .int x3]) (pc' := 78) (H_X12_rings g 12 a0 x3 x3 ((1 : Int32) <<< (x3 &&& 31)) (x1 - (1 : Int32)) x3) mv_X12_rings wl_X12_339 rfl (Nat.le_of_ble_eq_true rfl) (by omega) (by decide) (Nat.le_of_ble_eq_true rfl) rfl dX12_ring_75 rfl fun _ => ?_
      refine v_iinc (v := x3 + 1) (lv' := [(3, .int (x3 + 1)), (0, rf g a0), (1, .int x1), (2, .int x2)]) (pc' := 81) 3 dX12_ring_78 rfl rfl (by decide) rfl rfl ?_
      refine v_goto (t := 55) dX12_ring_81 (by decide) ?_
      refine V.sub [1, 2, 3, 0] rfl ?_
      exact ih a0 x1 x2 (x3 + 1)
set_option maxRecDepth 20000 in
theorem h_X12_ring_b29 (g : GW) (a0 : Nat) (x1 : Int32) (x2 : Int32) (xs0 : Int32) (as1 : Nat) : V g mX12_ring 21 rtI 29 [(0, rf g a0), (1, .int x1), (2, .int x2)] [.int xs0, rf g as1] (f_X12_ring_b29 a0 x1 x2 xs0 as1) := by
  unfold f_X12_ring_b29
  refine v_iconst (v := 1) (pc' := 30) dX12_ring_29 rfl rfl ?_
  refine v_iconst (v := 1) (pc' := 31) dX12_ring_30 rfl rfl ?_
  refine v_callV (vs := [.int xs0, .int 1, .int 1]) (pc' := 34) (h_X12_bad g as1 xs0 1 1) mv_X12_bad wl_X12_167 rfl (Nat.le_of_ble_eq_true rfl) (by omega) (by decide) (Nat.le_of_ble_eq_true rfl) rfl dX12_ring_31 rfl fun v5 => ?_
  refine v_ifeq (t := 39) (pc' := 37) dX12_ring_34 (by decide) rfl ?_ ?_
  · refine v_aload_n (pc' := 40) 0 dX12_ring_39 rfl rfl rfl ?_
    refine v_iconst (v := 0) (pc' := 41) dX12_ring_40 rfl rfl ?_
    refine v_put (v := (.int 0)) (v' := .int 0) (pc' := 44) fw_X12_333 rfl rfl rfl (fun h => nomatch h) dX12_ring_41 rfl ?_
    refine v_aload_n (pc' := 45) 0 dX12_ring_44 rfl rfl rfl ?_
    refine v_iconst (v := -1) (pc' := 46) dX12_ring_45 rfl rfl ?_
    refine v_put (v := (.int (-1))) (v' := .int (-1)) (pc' := 49) fw_X12_336 rfl rfl rfl (fun h => nomatch h) dX12_ring_46 rfl ?_
    refine v_aload_n (pc' := 50) 0 dX12_ring_49 rfl rfl rfl ?_
    refine v_callV (vs := []) (pc' := 53) (h_X12_laysCans g a0) mv_X12_laysCans wl_X12_324 rfl (Nat.le_of_ble_eq_true rfl) (by omega) (by decide) (Nat.le_of_ble_eq_true rfl) rfl dX12_ring_50 rfl fun _ => ?_
    refine v_iconst (v := 0) (pc' := 54) dX12_ring_53 rfl rfl ?_
    refine v_istore_n (lv' := [(3, .int 0), (0, rf g a0), (1, .int x1), (2, .int x2)]) (pc' := 55) dX12_ring_54 rfl (by decide) rfl rfl ?_
    refine V.sub [1, 2, 3, 0] rfl ?_
    exact h_X12_ring_b55 g NF a0 x1 x2 0
  · refine v_iconst (v := 0) (pc' := 38) dX12_ring_37 rfl rfl ?_
    exact v_ireturn rfl dX12_ring_38
set_option maxRecDepth 20000 in
theorem h_X12_ring_b24 (g : GW) (a0 : Nat) (x1 : Int32) (x2 : Int32) (as0 : Nat) : V g mX12_ring 21 rtI 24 [(0, rf g a0), (1, .int x1), (2, .int x2)] [rf g as0] (f_X12_ring_b24 a0 x1 x2 as0) := by
  unfold f_X12_ring_b24
  refine v_iconst (v := 1) (pc' := 25) dX12_ring_24 rfl rfl ?_
  refine v_goto (t := 29) dX12_ring_25 (by decide) ?_
  refine V.sub [0, 1, 2] rfl ?_
  exact h_X12_ring_b29 g a0 x1 x2 1 as0
set_option maxRecDepth 20000 in
theorem h_X12_ring (g : GW) (a0 : Nat) (x1 : Int32) (x2 : Int32) : V g mX12_ring 21 rtI 0 [(0, rf g a0), (1, .int x1), (2, .int x2)] [] (f_X12_ring a0 x1 x2) := by
  unfold f_X12_ring
  refine v_aload_n (pc' := 1) 0 dX12_ring_0 rfl rfl rfl ?_
  refine v_iconst (v := 0) (pc' := 2) dX12_ring_1 rfl rfl ?_
  refine v_put (v := (.int 0)) (v' := .int 0) (pc' := 5) fw_X12_94 rfl rfl rfl (fun h => nomatch h) dX12_ring_2 rfl ?_
  refine v_aload_n (pc' := 6) 0 dX12_ring_5 rfl rfl rfl ?_
  refine v_iload_n (pc' := 7) 1 dX12_ring_6 rfl rfl rfl ?_
  refine v_iconst (v := 2) (pc' := 8) dX12_ring_7 rfl rfl ?_
  refine v_iconst (v := 5) (pc' := 9) dX12_ring_8 rfl rfl ?_
  refine v_callS (vs := [.int x1, .int 2, .int 5]) (pc' := 12) (h_X12_in g x1 2 5) ms_X12_in wl_X12_128 (Nat.le_of_ble_eq_true rfl) (by omega) (by decide) (Nat.le_of_ble_eq_true rfl) rfl dX12_ring_9 rfl fun v6 => ?_
  refine v_ifeq (t := 24) (pc' := 15) dX12_ring_12 (by decide) rfl ?_ ?_
  · refine V.sub [0, 1, 2] rfl ?_
    exact h_X12_ring_b24 g a0 x1 x2 a0
  · refine v_iload_n (pc' := 16) 2 dX12_ring_15 rfl rfl rfl ?_
    refine v_iconst (v := 0) (pc' := 17) dX12_ring_16 rfl rfl ?_
    refine v_iconst (v := 1) (pc' := 18) dX12_ring_17 rfl rfl ?_
    refine v_callS (vs := [.int x2, .int 0, .int 1]) (pc' := 21) (h_X12_in g x2 0 1) ms_X12_in wl_X12_128 (Nat.le_of_ble_eq_true rfl) (by omega) (by decide) (Nat.le_of_ble_eq_true rfl) rfl dX12_ring_18 rfl fun v7 => ?_
    refine v_ifne (t := 28) (pc' := 24) dX12_ring_21 (by decide) rfl ?_ ?_
    · refine v_iconst (v := 0) (pc' := 29) dX12_ring_28 rfl rfl ?_
      refine V.sub [0, 1, 2] rfl ?_
      exact h_X12_ring_b29 g a0 x1 x2 0 a0
    · refine V.sub [0, 1, 2] rfl ?_
      exact h_X12_ring_b24 g a0 x1 x2 a0
-- who
def f_X12_who_b105 (k55 : Nat → Int32 → Int32 → Int32 → Int32 → Mo Int32) (a0 : Nat) (x1 : Int32) (x2 : Int32) (x4 : Int32) (xs0 : Int32) (xs1 : Int32) : Mo Int32 := k55 a0 x1 x2 (xs1 ||| xs0) (x4 + 1)
def f_X12_who_b104 (k55 : Nat → Int32 → Int32 → Int32 → Int32 → Mo Int32) (a0 : Nat) (x1 : Int32) (x2 : Int32) (x4 : Int32) (xs0 : Int32) : Mo Int32 := f_X12_who_b105 k55 a0 x1 x2 x4 0 xs0
def f_X12_who_b55 : Nat → Nat → Int32 → Int32 → Int32 → Int32 → Mo Int32
  | 0, _, _, _, _, _ => fl
  | n + 1, a0, x1, x2, x3, x4 => bd (gR 12 12 a0) fun r1 => bd (al 0 r1 0) fun v2 => if (v2 ≤ x4 : Prop) then (pu x3) else bd (gR 12 14 a0) fun r3 => bd (al 0 r3 x4) fun v4 => bd (f_X12_has v4 x2) fun v5 => if (v5 = 0 : Prop) then (bd (gR 12 27 a0) fun r6 => bd (cv 12 a0 (f_X12_shownBy a0 r6 x4 x2 0)) fun v7 => if (v7 = x1 : Prop) then (f_X12_who_b105 (f_X12_who_b55 n) a0 x1 x2 x4 ((1 : Int32) <<< (x4 &&& 31)) x3) else f_X12_who_b104 (f_X12_who_b55 n) a0 x1 x2 x4 x3) else f_X12_who_b104 (f_X12_who_b55 n) a0 x1 x2 x4 x3
def f_X12_who_b40 (a0 : Nat) (x1 : Int32) (x2 : Int32) (xs0 : Int32) (as1 : Nat) : Mo Int32 := bd (cv 12 as1 (f_X12_bad as1 xs0 2 1)) fun v8 => if (v8 = 0 : Prop) then (f_X12_who_b55 NF a0 x1 x2 0 0) else pu 0
def f_X12_who_b19 (a0 : Nat) (x1 : Int32) (x2 : Int32) (xs0 : Int32) (as1 : Nat) : Mo Int32 := bd (cv 12 as1 (f_X12_bad as1 xs0 1 0)) fun v9 => if (v9 = 0 : Prop) then (bd (f_X12_isFace x1) fun v10 => if (v10 = 0 : Prop) then (f_X12_who_b40 a0 x1 x2 1 a0) else f_X12_who_b40 a0 x1 x2 0 a0) else pu 0
def f_X12_who (a0 : Nat) (x1 : Int32) (x2 : Int32) : Mo Int32 := bd (pf 12 0 a0 (.int 0)) fun _ => bd (cv 12 a0 (f_X12_isPerson a0 x2)) fun v11 => if (v11 = 0 : Prop) then (f_X12_who_b19 a0 x1 x2 1 a0) else f_X12_who_b19 a0 x1 x2 0 a0
set_option maxRecDepth 20000 in
theorem h_X12_who_b105 (g : GW) (k55 : Nat → Int32 → Int32 → Int32 → Int32 → Mo Int32) (hk55 : ∀ a0 x1 x2 x3 x4, V g mX12_who 12 rtI 55 [(0, rf g a0), (1, .int x1), (2, .int x2), (3, .int x3), (4, .int x4)] [] (k55 a0 x1 x2 x3 x4)) (a0 : Nat) (x1 : Int32) (x2 : Int32) (x4 : Int32) (xs0 : Int32) (xs1 : Int32) : V g mX12_who 12 rtI 105 [(0, rf g a0), (1, .int x1), (2, .int x2), (4, .int x4)] [.int xs0, .int xs1] (f_X12_who_b105 k55 a0 x1 x2 x4 xs0 xs1) := by
  unfold f_X12_who_b105
  refine v_ior (pc' := 106) dX12_who_105 rfl ?_
  refine v_istore_n (lv' := [(3, .int (xs1 ||| xs0)), (0, rf g a0), (1, .int x1), (2, .int x2), (4, .int x4)]) (pc' := 107) dX12_who_106 rfl (by decide) rfl rfl ?_
  refine v_iinc (v := x4 + 1) (lv' := [(4, .int (x4 + 1)), (3, .int (xs1 ||| xs0)), (0, rf g a0), (1, .int x1), (2, .int x2)]) (pc' := 110) 4 dX12_who_107 rfl rfl (by decide) rfl rfl ?_
  refine v_goto (t := 55) dX12_who_110 (by decide) ?_
  refine V.sub [2, 3, 4, 1, 0] rfl ?_
  exact hk55 a0 x1 x2 (xs1 ||| xs0) (x4 + 1)
set_option maxRecDepth 20000 in
theorem h_X12_who_b104 (g : GW) (k55 : Nat → Int32 → Int32 → Int32 → Int32 → Mo Int32) (hk55 : ∀ a0 x1 x2 x3 x4, V g mX12_who 12 rtI 55 [(0, rf g a0), (1, .int x1), (2, .int x2), (3, .int x3), (4, .int x4)] [] (k55 a0 x1 x2 x3 x4)) (a0 : Nat) (x1 : Int32) (x2 : Int32) (x4 : Int32) (xs0 : Int32) : V g mX12_who 12 rtI 104 [(0, rf g a0), (1, .int x1), (2, .int x2), (4, .int x4)] [.int xs0] (f_X12_who_b104 k55 a0 x1 x2 x4 xs0) := by
  unfold f_X12_who_b104
  refine v_iconst (v := 0) (pc' := 105) dX12_who_104 rfl rfl ?_
  refine V.sub [0, 1, 2, 3] rfl ?_
  exact h_X12_who_b105 g k55 hk55 a0 x1 x2 x4 0 xs0
set_option maxRecDepth 20000 in
theorem h_X12_who_b55 (g : GW) : ∀ n : Nat, ∀ a0 x1 x2 x3 x4, V g mX12_who 12 rtI 55 [(0, rf g a0), (1, .int x1), (2, .int x2), (3, .int x3), (4, .int x4)] [] (f_X12_who_b55 n a0 x1 x2 x3 x4) := by
  intro n
  induction n with
  | zero => intro a0 x1 x2 x3 x4; exact V.vain
  | succ n ih =>
    intro a0 x1 x2 x3 x4
    unfold f_X12_who_b55
    refine v_iload (pc' := 57) 4 dX12_who_55 rfl rfl ?_
    refine v_aload_n (pc' := 58) 0 dX12_who_57 rfl rfl rfl ?_
    refine v_getR (pc' := 61) fl_X12_23 dX12_who_58 rfl fun r1 => ?_
    refine v_iconst (v := 0) (pc' := 62) dX12_who_61 rfl rfl ?_
    refine v_iald (pc' := 63) dX12_who_62 rfl fun v2 => ?_
    refine v_icmpge (t := 113) (pc' := 66) dX12_who_63 (by decide) rfl ?_ ?_
    · refine v_iload_n (pc' := 114) 3 dX12_who_113 rfl rfl rfl ?_
      exact v_ireturn rfl dX12_who_114
    · refine v_iload_n (pc' := 67) 3 dX12_who_66 rfl rfl rfl ?_
      refine v_aload_n (pc' := 68) 0 dX12_who_67 rfl rfl rfl ?_
      refine v_getR (pc' := 71) fl_X12_29 dX12_who_68 rfl fun r3 => ?_
      refine v_iload (pc' := 73) 4 dX12_who_71 rfl rfl ?_
      refine v_iald (pc' := 74) dX12_who_73 rfl fun v4 => ?_
      refine v_iload_n (pc' := 75) 2 dX12_who_74 rfl rfl rfl ?_
      refine v_callS (vs := [.int v4, .int x2]) (pc' := 78) (h_X12_has g v4 x2) ms_X12_has wl_X12_246 (Nat.le_of_ble_eq_true rfl) (by omega) (by decide) (Nat.le_of_ble_eq_true rfl) rfl dX12_who_75 rfl fun v5 => ?_
      refine v_ifne (t := 104) (pc' := 81) dX12_who_78 (by decide) rfl ?_ ?_
      · refine V.sub [0, 1, 2, 4] rfl ?_
        exact h_X12_who_b104 g (f_X12_who_b55 n) ih a0 x1 x2 x4 x3
      · refine v_aload_n (pc' := 82) 0 dX12_who_81 rfl rfl rfl ?_
        refine v_aload_n (pc' := 83) 0 dX12_who_82 rfl rfl rfl ?_
        refine v_getR (pc' := 86) fl_X12_61 dX12_who_83 rfl fun r6 => ?_
        refine v_iload (pc' := 88) 4 dX12_who_86 rfl rfl ?_
        refine v_iload_n (pc' := 89) 2 dX12_who_88 rfl rfl rfl ?_
        refine v_iconst (v := 0) (pc' := 90) dX12_who_89 rfl rfl ?_
        refine v_callV (vs := [rf g r6, .int x4, .int x2, .int 0]) (pc' := 93) (h_X12_shownBy g a0 r6 x4 x2 0) mv_X12_shownBy wl_X12_259 rfl (Nat.le_of_ble_eq_true rfl) (by omega) (by decide) (Nat.le_of_ble_eq_true rfl) rfl dX12_who_90 rfl fun v7 => ?_
        refine v_iload_n (pc' := 94) 1 dX12_who_93 rfl rfl rfl ?_
        refine v_icmpne (t := 104) (pc' := 97) dX12_who_94 (by decide) rfl ?_ ?_
        · refine V.sub [0, 1, 2, 4] rfl ?_
          exact h_X12_who_b104 g (f_X12_who_b55 n) ih a0 x1 x2 x4 x3
        · refine v_iconst (v := 1) (pc' := 98) dX12_who_97 rfl rfl ?_
          refine v_iload (pc' := 100) 4 dX12_who_98 rfl rfl ?_
          refine v_ishl (pc' := 101) dX12_who_100 rfl ?_
          refine v_goto (t := 105) dX12_who_101 (by decide) ?_
          refine V.sub [0, 1, 2, 4] rfl ?_
          exact h_X12_who_b105 g (f_X12_who_b55 n) ih a0 x1 x2 x4 ((1 : Int32) <<< (x4 &&& 31)) x3
set_option maxRecDepth 20000 in
theorem h_X12_who_b40 (g : GW) (a0 : Nat) (x1 : Int32) (x2 : Int32) (xs0 : Int32) (as1 : Nat) : V g mX12_who 12 rtI 40 [(0, rf g a0), (1, .int x1), (2, .int x2)] [.int xs0, rf g as1] (f_X12_who_b40 a0 x1 x2 xs0 as1) := by
  unfold f_X12_who_b40
  refine v_iconst (v := 2) (pc' := 41) dX12_who_40 rfl rfl ?_
  refine v_iconst (v := 1) (pc' := 42) dX12_who_41 rfl rfl ?_
  refine v_callV (vs := [.int xs0, .int 2, .int 1]) (pc' := 45) (h_X12_bad g as1 xs0 2 1) mv_X12_bad wl_X12_167 rfl (Nat.le_of_ble_eq_true rfl) (by omega) (by decide) (Nat.le_of_ble_eq_true rfl) rfl dX12_who_42 rfl fun v8 => ?_
  refine v_ifeq (t := 50) (pc' := 48) dX12_who_45 (by decide) rfl ?_ ?_
  · refine v_iconst (v := 0) (pc' := 51) dX12_who_50 rfl rfl ?_
    refine v_istore_n (lv' := [(3, .int 0), (0, rf g a0), (1, .int x1), (2, .int x2)]) (pc' := 52) dX12_who_51 rfl (by decide) rfl rfl ?_
    refine v_iconst (v := 0) (pc' := 53) dX12_who_52 rfl rfl ?_
    refine v_istore (lv' := [(4, .int 0), (3, .int 0), (0, rf g a0), (1, .int x1), (2, .int x2)]) (pc' := 55) dX12_who_53 (by decide) rfl rfl ?_
    refine V.sub [2, 3, 4, 1, 0] rfl ?_
    exact h_X12_who_b55 g NF a0 x1 x2 0 0
  · refine v_iconst (v := 0) (pc' := 49) dX12_who_48 rfl rfl ?_
    exact v_ireturn rfl dX12_who_49
set_option maxRecDepth 20000 in
theorem h_X12_who_b19 (g : GW) (a0 : Nat) (x1 : Int32) (x2 : Int32) (xs0 : Int32) (as1 : Nat) : V g mX12_who 12 rtI 19 [(0, rf g a0), (1, .int x1), (2, .int x2)] [.int xs0, rf g as1] (f_X12_who_b19 a0 x1 x2 xs0 as1) := by
  unfold f_X12_who_b19
  refine v_iconst (v := 1) (pc' := 20) dX12_who_19 rfl rfl ?_
  refine v_iconst (v := 0) (pc' := 21) dX12_who_20 rfl rfl ?_
  refine v_callV (vs := [.int xs0, .int 1, .int 0]) (pc' := 24) (h_X12_bad g as1 xs0 1 0) mv_X12_bad wl_X12_167 rfl (Nat.le_of_ble_eq_true rfl) (by omega) (by decide) (Nat.le_of_ble_eq_true rfl) rfl dX12_who_21 rfl fun v9 => ?_
  refine v_ifne (t := 48) (pc' := 27) dX12_who_24 (by decide) rfl ?_ ?_
  · refine v_iconst (v := 0) (pc' := 49) dX12_who_48 rfl rfl ?_
    exact v_ireturn rfl dX12_who_49
  · refine v_aload_n (pc' := 28) 0 dX12_who_27 rfl rfl rfl ?_
    refine v_iload_n (pc' := 29) 1 dX12_who_28 rfl rfl rfl ?_
    refine v_callS (vs := [.int x1]) (pc' := 32) (h_X12_isFace g x1) ms_X12_isFace wl_X12_308 (Nat.le_of_ble_eq_true rfl) (by omega) (by decide) (Nat.le_of_ble_eq_true rfl) rfl dX12_who_29 rfl fun v10 => ?_
    refine v_ifne (t := 39) (pc' := 35) dX12_who_32 (by decide) rfl ?_ ?_
    · refine v_iconst (v := 0) (pc' := 40) dX12_who_39 rfl rfl ?_
      refine V.sub [0, 1, 2] rfl ?_
      exact h_X12_who_b40 g a0 x1 x2 0 a0
    · refine v_iconst (v := 1) (pc' := 36) dX12_who_35 rfl rfl ?_
      refine v_goto (t := 40) dX12_who_36 (by decide) ?_
      refine V.sub [0, 1, 2] rfl ?_
      exact h_X12_who_b40 g a0 x1 x2 1 a0
set_option maxRecDepth 20000 in
theorem h_X12_who (g : GW) (a0 : Nat) (x1 : Int32) (x2 : Int32) : V g mX12_who 12 rtI 0 [(0, rf g a0), (1, .int x1), (2, .int x2)] [] (f_X12_who a0 x1 x2) := by
  unfold f_X12_who
  refine v_aload_n (pc' := 1) 0 dX12_who_0 rfl rfl rfl ?_
  refine v_iconst (v := 0) (pc' := 2) dX12_who_1 rfl rfl ?_
  refine v_put (v := (.int 0)) (v' := .int 0) (pc' := 5) fw_X12_94 rfl rfl rfl (fun h => nomatch h) dX12_who_2 rfl ?_
  refine v_aload_n (pc' := 6) 0 dX12_who_5 rfl rfl rfl ?_
  refine v_aload_n (pc' := 7) 0 dX12_who_6 rfl rfl rfl ?_
  refine v_iload_n (pc' := 8) 2 dX12_who_7 rfl rfl rfl ?_
  refine v_callV (vs := [.int x2]) (pc' := 11) (h_X12_isPerson g a0 x2) mv_X12_isPerson wl_X12_296 rfl (Nat.le_of_ble_eq_true rfl) (by omega) (by decide) (Nat.le_of_ble_eq_true rfl) rfl dX12_who_8 rfl fun v11 => ?_
  refine v_ifne (t := 18) (pc' := 14) dX12_who_11 (by decide) rfl ?_ ?_
  · refine v_iconst (v := 0) (pc' := 19) dX12_who_18 rfl rfl ?_
    refine V.sub [0, 1, 2] rfl ?_
    exact h_X12_who_b19 g a0 x1 x2 0 a0
  · refine v_iconst (v := 1) (pc' := 15) dX12_who_14 rfl rfl ?_
    refine v_goto (t := 19) dX12_who_15 (by decide) ?_
    refine V.sub [0, 1, 2] rfl ?_
    exact h_X12_who_b19 g a0 x1 x2 1 a0
-- made
def f_X12_made_b119 (k41 : Nat → Int32 → Int32 → Int32 → Mo Int32) (a0 : Nat) (x1 : Int32) (x3 : Int32) (xs0 : Int32) : Mo Int32 := k41 a0 x1 xs0 (x3 + (-1))
def f_X12_made_b118 (k41 : Nat → Int32 → Int32 → Int32 → Mo Int32) (a0 : Nat) (x1 : Int32) (x2 : Int32) (x3 : Int32) : Mo Int32 := f_X12_made_b119 k41 a0 x1 x3 x2
def f_X12_made_b114 (k41 : Nat → Int32 → Int32 → Int32 → Mo Int32) (a0 : Nat) (x1 : Int32) (x3 : Int32) : Mo Int32 := f_X12_made_b119 k41 a0 x1 x3 x3
def f_X12_made_b83 (k41 : Nat → Int32 → Int32 → Int32 → Mo Int32) (k51 : Nat → Int32 → Int32 → Int32 → Int32 → Int32 → Mo Int32) (a0 : Nat) (x1 : Int32) (x2 : Int32) (x3 : Int32) (x5 : Int32) (xs0 : Int32) (xs1 : Int32) : Mo Int32 := k51 a0 x1 x2 x3 (xs1 ||| xs0) (x5 + 1)
def f_X12_made_b51 (k41 : Nat → Int32 → Int32 → Int32 → Mo Int32) : Nat → Nat → Int32 → Int32 → Int32 → Int32 → Int32 → Mo Int32
  | 0, _, _, _, _, _, _ => fl
  | n + 1, a0, x1, x2, x3, x4, x5 => bd (gR 12 12 a0) fun r1 => bd (al 0 r1 0) fun v2 => if (v2 ≤ x5 : Prop) then (if (x4 = x1 : Prop) then (if (x2 = (-1) : Prop) then (f_X12_made_b114 k41 a0 x1 x3) else bd (f_X12_ones x3) fun v3 => bd (f_X12_ones x2) fun v4 => if (v4 < v3 : Prop) then (f_X12_made_b118 k41 a0 x1 x2 x3) else f_X12_made_b114 k41 a0 x1 x3) else f_X12_made_b118 k41 a0 x1 x2 x3) else bd (f_X12_has x3 x5) fun v5 => if (v5 = 0 : Prop) then (f_X12_made_b83 k41 (f_X12_made_b51 k41 n) a0 x1 x2 x3 x5 0 x4) else bd (cv 12 a0 (f_X12_faceOf a0 x5)) fun v6 => f_X12_made_b83 k41 (f_X12_made_b51 k41 n) a0 x1 x2 x3 x5 v6 x4
def f_X12_made_b41 : Nat → Nat → Int32 → Int32 → Int32 → Mo Int32
  | 0, _, _, _, _ => fl
  | n + 1, a0, x1, x2, x3 => if (x3 < 0 : Prop) then (pu x2) else f_X12_made_b51 (f_X12_made_b41 n) NF a0 x1 x2 x3 0 0
def f_X12_made_b18 (a0 : Nat) (x1 : Int32) (xs0 : Int32) (as1 : Nat) : Mo Int32 := bd (cv 12 as1 (f_X12_bad as1 xs0 1 1)) fun v7 => if (v7 = 0 : Prop) then (bd (gR 12 12 a0) fun r8 => bd (al 0 r8 0) fun v9 => f_X12_made_b41 NF a0 x1 (-1) (((1 : Int32) <<< (v9 &&& 31)) - (1 : Int32))) else pu 0
def f_X12_made (a0 : Nat) (x1 : Int32) : Mo Int32 := bd (pf 12 0 a0 (.int 0)) fun _ => bd (f_X12_isFace x1) fun v10 => if (v10 = 0 : Prop) then (f_X12_made_b18 a0 x1 1 a0) else f_X12_made_b18 a0 x1 0 a0
set_option maxRecDepth 20000 in
theorem h_X12_made_b119 (g : GW) (k41 : Nat → Int32 → Int32 → Int32 → Mo Int32) (hk41 : ∀ a0 x1 x2 x3, V g mX12_made 10 rtI 41 [(0, rf g a0), (1, .int x1), (2, .int x2), (3, .int x3)] [] (k41 a0 x1 x2 x3)) (a0 : Nat) (x1 : Int32) (x3 : Int32) (xs0 : Int32) : V g mX12_made 10 rtI 119 [(0, rf g a0), (1, .int x1), (3, .int x3)] [.int xs0] (f_X12_made_b119 k41 a0 x1 x3 xs0) := by
  unfold f_X12_made_b119
  refine v_istore_n (lv' := [(2, .int xs0), (0, rf g a0), (1, .int x1), (3, .int x3)]) (pc' := 120) dX12_made_119 rfl (by decide) rfl rfl ?_
  refine v_iinc (v := x3 + (-1)) (lv' := [(3, .int (x3 + (-1))), (2, .int xs0), (0, rf g a0), (1, .int x1)]) (pc' := 123) 3 dX12_made_120 rfl rfl (by decide) rfl rfl ?_
  refine v_goto (t := 41) dX12_made_123 (by decide) ?_
  refine V.sub [2, 3, 1, 0] rfl ?_
  exact hk41 a0 x1 xs0 (x3 + (-1))
set_option maxRecDepth 20000 in
theorem h_X12_made_b118 (g : GW) (k41 : Nat → Int32 → Int32 → Int32 → Mo Int32) (hk41 : ∀ a0 x1 x2 x3, V g mX12_made 10 rtI 41 [(0, rf g a0), (1, .int x1), (2, .int x2), (3, .int x3)] [] (k41 a0 x1 x2 x3)) (a0 : Nat) (x1 : Int32) (x2 : Int32) (x3 : Int32) : V g mX12_made 10 rtI 118 [(0, rf g a0), (1, .int x1), (2, .int x2), (3, .int x3)] [] (f_X12_made_b118 k41 a0 x1 x2 x3) := by
  unfold f_X12_made_b118
  refine v_iload_n (pc' := 119) 2 dX12_made_118 rfl rfl rfl ?_
  refine V.sub [0, 1, 3] rfl ?_
  exact h_X12_made_b119 g k41 hk41 a0 x1 x3 x2
set_option maxRecDepth 20000 in
theorem h_X12_made_b114 (g : GW) (k41 : Nat → Int32 → Int32 → Int32 → Mo Int32) (hk41 : ∀ a0 x1 x2 x3, V g mX12_made 10 rtI 41 [(0, rf g a0), (1, .int x1), (2, .int x2), (3, .int x3)] [] (k41 a0 x1 x2 x3)) (a0 : Nat) (x1 : Int32) (x3 : Int32) : V g mX12_made 10 rtI 114 [(0, rf g a0), (1, .int x1), (3, .int x3)] [] (f_X12_made_b114 k41 a0 x1 x3) := by
  unfold f_X12_made_b114
  refine v_iload_n (pc' := 115) 2 dX12_made_114 rfl rfl rfl ?_
  refine v_goto (t := 119) dX12_made_115 (by decide) ?_
  refine V.sub [0, 1, 2] rfl ?_
  exact h_X12_made_b119 g k41 hk41 a0 x1 x3 x3
set_option maxRecDepth 20000 in
theorem h_X12_made_b83 (g : GW) (k41 : Nat → Int32 → Int32 → Int32 → Mo Int32) (k51 : Nat → Int32 → Int32 → Int32 → Int32 → Int32 → Mo Int32) (hk41 : ∀ a0 x1 x2 x3, V g mX12_made 10 rtI 41 [(0, rf g a0), (1, .int x1), (2, .int x2), (3, .int x3)] [] (k41 a0 x1 x2 x3)) (hk51 : ∀ a0 x1 x2 x3 x4 x5, V g mX12_made 10 rtI 51 [(0, rf g a0), (1, .int x1), (2, .int x2), (3, .int x3), (4, .int x4), (5, .int x5)] [] (k51 a0 x1 x2 x3 x4 x5)) (a0 : Nat) (x1 : Int32) (x2 : Int32) (x3 : Int32) (x5 : Int32) (xs0 : Int32) (xs1 : Int32) : V g mX12_made 10 rtI 83 [(0, rf g a0), (1, .int x1), (2, .int x2), (3, .int x3), (5, .int x5)] [.int xs0, .int xs1] (f_X12_made_b83 k41 k51 a0 x1 x2 x3 x5 xs0 xs1) := by
  unfold f_X12_made_b83
  refine v_ior (pc' := 84) dX12_made_83 rfl ?_
  refine v_istore (lv' := [(4, .int (xs1 ||| xs0)), (0, rf g a0), (1, .int x1), (2, .int x2), (3, .int x3), (5, .int x5)]) (pc' := 86) dX12_made_84 (by decide) rfl rfl ?_
  refine v_iinc (v := x5 + 1) (lv' := [(5, .int (x5 + 1)), (4, .int (xs1 ||| xs0)), (0, rf g a0), (1, .int x1), (2, .int x2), (3, .int x3)]) (pc' := 89) 5 dX12_made_86 rfl rfl (by decide) rfl rfl ?_
  refine v_goto (t := 51) dX12_made_89 (by decide) ?_
  refine V.sub [2, 3, 4, 5, 1, 0] rfl ?_
  exact hk51 a0 x1 x2 x3 (xs1 ||| xs0) (x5 + 1)
set_option maxRecDepth 20000 in
theorem h_X12_made_b51 (g : GW) (k41 : Nat → Int32 → Int32 → Int32 → Mo Int32) (hk41 : ∀ a0 x1 x2 x3, V g mX12_made 10 rtI 41 [(0, rf g a0), (1, .int x1), (2, .int x2), (3, .int x3)] [] (k41 a0 x1 x2 x3)) : ∀ n : Nat, ∀ a0 x1 x2 x3 x4 x5, V g mX12_made 10 rtI 51 [(0, rf g a0), (1, .int x1), (2, .int x2), (3, .int x3), (4, .int x4), (5, .int x5)] [] (f_X12_made_b51 k41 n a0 x1 x2 x3 x4 x5) := by
  intro n
  induction n with
  | zero => intro a0 x1 x2 x3 x4 x5; exact V.vain
  | succ n ih =>
    intro a0 x1 x2 x3 x4 x5
    unfold f_X12_made_b51
    refine v_iload (pc' := 53) 5 dX12_made_51 rfl rfl ?_
    refine v_aload_n (pc' := 54) 0 dX12_made_53 rfl rfl rfl ?_
    refine v_getR (pc' := 57) fl_X12_23 dX12_made_54 rfl fun r1 => ?_
    refine v_iconst (v := 0) (pc' := 58) dX12_made_57 rfl rfl ?_
    refine v_iald (pc' := 59) dX12_made_58 rfl fun v2 => ?_
    refine v_icmpge (t := 92) (pc' := 62) dX12_made_59 (by decide) rfl ?_ ?_
    · refine v_iload (pc' := 94) 4 dX12_made_92 rfl rfl ?_
      refine v_iload_n (pc' := 95) 1 dX12_made_94 rfl rfl rfl ?_
      refine v_icmpne (t := 118) (pc' := 98) dX12_made_95 (by decide) rfl ?_ ?_
      · refine V.sub [0, 1, 2, 3] rfl ?_
        exact h_X12_made_b118 g k41 hk41 a0 x1 x2 x3
      · refine v_iload_n (pc' := 99) 2 dX12_made_98 rfl rfl rfl ?_
        refine v_iconst (v := -1) (pc' := 100) dX12_made_99 rfl rfl ?_
        refine v_icmpeq (t := 114) (pc' := 103) dX12_made_100 (by decide) rfl ?_ ?_
        · refine V.sub [0, 1, 3] rfl ?_
          exact h_X12_made_b114 g k41 hk41 a0 x1 x3
        · refine v_iload_n (pc' := 104) 3 dX12_made_103 rfl rfl rfl ?_
          refine v_callS (vs := [.int x3]) (pc' := 107) (h_X12_ones g x3) ms_X12_ones wl_X12_250 (Nat.le_of_ble_eq_true rfl) (by omega) (by decide) (Nat.le_of_ble_eq_true rfl) rfl dX12_made_104 rfl fun v3 => ?_
          refine v_iload_n (pc' := 108) 2 dX12_made_107 rfl rfl rfl ?_
          refine v_callS (vs := [.int x2]) (pc' := 111) (h_X12_ones g x2) ms_X12_ones wl_X12_250 (Nat.le_of_ble_eq_true rfl) (by omega) (by decide) (Nat.le_of_ble_eq_true rfl) rfl dX12_made_108 rfl fun v4 => ?_
          refine v_icmpgt (t := 118) (pc' := 114) dX12_made_111 (by decide) rfl ?_ ?_
          · refine V.sub [0, 1, 2, 3] rfl ?_
            exact h_X12_made_b118 g k41 hk41 a0 x1 x2 x3
          · refine V.sub [0, 1, 3] rfl ?_
            exact h_X12_made_b114 g k41 hk41 a0 x1 x3
    · refine v_iload (pc' := 64) 4 dX12_made_62 rfl rfl ?_
      refine v_iload_n (pc' := 65) 3 dX12_made_64 rfl rfl rfl ?_
      refine v_iload (pc' := 67) 5 dX12_made_65 rfl rfl ?_
      refine v_callS (vs := [.int x3, .int x5]) (pc' := 70) (h_X12_has g x3 x5) ms_X12_has wl_X12_246 (Nat.le_of_ble_eq_true rfl) (by omega) (by decide) (Nat.le_of_ble_eq_true rfl) rfl dX12_made_67 rfl fun v5 => ?_
      refine v_ifeq (t := 82) (pc' := 73) dX12_made_70 (by decide) rfl ?_ ?_
      · refine v_iconst (v := 0) (pc' := 83) dX12_made_82 rfl rfl ?_
        refine V.sub [0, 1, 2, 3, 5] rfl ?_
        exact h_X12_made_b83 g k41 (f_X12_made_b51 k41 n) hk41 ih a0 x1 x2 x3 x5 0 x4
      · refine v_aload_n (pc' := 74) 0 dX12_made_73 rfl rfl rfl ?_
        refine v_iload (pc' := 76) 5 dX12_made_74 rfl rfl ?_
        refine v_callV (vs := [.int x5]) (pc' := 79) (h_X12_faceOf g a0 x5) mv_X12_faceOf wl_X12_253 rfl (Nat.le_of_ble_eq_true rfl) (by omega) (by decide) (Nat.le_of_ble_eq_true rfl) rfl dX12_made_76 rfl fun v6 => ?_
        refine v_goto (t := 83) dX12_made_79 (by decide) ?_
        refine V.sub [0, 1, 2, 3, 5] rfl ?_
        exact h_X12_made_b83 g k41 (f_X12_made_b51 k41 n) hk41 ih a0 x1 x2 x3 x5 v6 x4
set_option maxRecDepth 20000 in
theorem h_X12_made_b41 (g : GW) : ∀ n : Nat, ∀ a0 x1 x2 x3, V g mX12_made 10 rtI 41 [(0, rf g a0), (1, .int x1), (2, .int x2), (3, .int x3)] [] (f_X12_made_b41 n a0 x1 x2 x3) := by
  intro n
  induction n with
  | zero => intro a0 x1 x2 x3; exact V.vain
  | succ n ih =>
    intro a0 x1 x2 x3
    unfold f_X12_made_b41
    refine v_iload_n (pc' := 42) 3 dX12_made_41 rfl rfl rfl ?_
    refine v_iflt (t := 126) (pc' := 45) dX12_made_42 (by decide) rfl ?_ ?_
    · refine v_iload_n (pc' := 127) 2 dX12_made_126 rfl rfl rfl ?_
      exact v_ireturn rfl dX12_made_127
    · refine v_iconst (v := 0) (pc' := 46) dX12_made_45 rfl rfl ?_
      refine v_istore (lv' := [(4, .int 0), (0, rf g a0), (1, .int x1), (2, .int x2), (3, .int x3)]) (pc' := 48) dX12_made_46 (by decide) rfl rfl ?_
      refine v_iconst (v := 0) (pc' := 49) dX12_made_48 rfl rfl ?_
      refine v_istore (lv' := [(5, .int 0), (4, .int 0), (0, rf g a0), (1, .int x1), (2, .int x2), (3, .int x3)]) (pc' := 51) dX12_made_49 (by decide) rfl rfl ?_
      refine V.sub [2, 3, 4, 5, 1, 0] rfl ?_
      exact h_X12_made_b51 g (f_X12_made_b41 n) ih NF a0 x1 x2 x3 0 0
set_option maxRecDepth 20000 in
theorem h_X12_made_b18 (g : GW) (a0 : Nat) (x1 : Int32) (xs0 : Int32) (as1 : Nat) : V g mX12_made 10 rtI 18 [(0, rf g a0), (1, .int x1)] [.int xs0, rf g as1] (f_X12_made_b18 a0 x1 xs0 as1) := by
  unfold f_X12_made_b18
  refine v_iconst (v := 1) (pc' := 19) dX12_made_18 rfl rfl ?_
  refine v_iconst (v := 1) (pc' := 20) dX12_made_19 rfl rfl ?_
  refine v_callV (vs := [.int xs0, .int 1, .int 1]) (pc' := 23) (h_X12_bad g as1 xs0 1 1) mv_X12_bad wl_X12_167 rfl (Nat.le_of_ble_eq_true rfl) (by omega) (by decide) (Nat.le_of_ble_eq_true rfl) rfl dX12_made_20 rfl fun v7 => ?_
  refine v_ifeq (t := 28) (pc' := 26) dX12_made_23 (by decide) rfl ?_ ?_
  · refine v_iconst (v := -1) (pc' := 29) dX12_made_28 rfl rfl ?_
    refine v_istore_n (lv' := [(2, .int (-1)), (0, rf g a0), (1, .int x1)]) (pc' := 30) dX12_made_29 rfl (by decide) rfl rfl ?_
    refine v_iconst (v := 1) (pc' := 31) dX12_made_30 rfl rfl ?_
    refine v_aload_n (pc' := 32) 1 dX12_made_31 rfl rfl rfl ?_
    refine v_getR (pc' := 35) fl_X12_23 dX12_made_32 rfl fun r8 => ?_
    refine v_iconst (v := 0) (pc' := 36) dX12_made_35 rfl rfl ?_
    refine v_iald (pc' := 37) dX12_made_36 rfl fun v9 => ?_
    refine v_ishl (pc' := 38) dX12_made_37 rfl ?_
    refine v_iconst (v := 1) (pc' := 39) dX12_made_38 rfl rfl ?_
    refine v_isub (pc' := 40) dX12_made_39 rfl ?_
    refine v_istore_n (lv' := [(3, .int (((1 : Int32) <<< (v9 &&& 31)) - (1 : Int32))), (2, .int (-1)), (0, rf g a0), (1, .int x1)]) (pc' := 41) dX12_made_40 rfl (by decide) rfl rfl ?_
    refine V.sub [2, 3, 1, 0] rfl ?_
    exact h_X12_made_b41 g NF a0 x1 (-1) (((1 : Int32) <<< (v9 &&& 31)) - (1 : Int32))
  · refine v_iconst (v := 0) (pc' := 27) dX12_made_26 rfl rfl ?_
    exact v_ireturn rfl dX12_made_27
set_option maxRecDepth 20000 in
theorem h_X12_made (g : GW) (a0 : Nat) (x1 : Int32) : V g mX12_made 10 rtI 0 [(0, rf g a0), (1, .int x1)] [] (f_X12_made a0 x1) := by
  unfold f_X12_made
  refine v_aload_n (pc' := 1) 0 dX12_made_0 rfl rfl rfl ?_
  refine v_iconst (v := 0) (pc' := 2) dX12_made_1 rfl rfl ?_
  refine v_put (v := (.int 0)) (v' := .int 0) (pc' := 5) fw_X12_94 rfl rfl rfl (fun h => nomatch h) dX12_made_2 rfl ?_
  refine v_aload_n (pc' := 6) 0 dX12_made_5 rfl rfl rfl ?_
  refine v_iload_n (pc' := 7) 1 dX12_made_6 rfl rfl rfl ?_
  refine v_callS (vs := [.int x1]) (pc' := 10) (h_X12_isFace g x1) ms_X12_isFace wl_X12_308 (Nat.le_of_ble_eq_true rfl) (by omega) (by decide) (Nat.le_of_ble_eq_true rfl) rfl dX12_made_7 rfl fun v10 => ?_
  refine v_ifne (t := 17) (pc' := 13) dX12_made_10 (by decide) rfl ?_ ?_
  · refine v_iconst (v := 0) (pc' := 18) dX12_made_17 rfl rfl ?_
    refine V.sub [0, 1] rfl ?_
    exact h_X12_made_b18 g a0 x1 0 a0
  · refine v_iconst (v := 1) (pc' := 14) dX12_made_13 rfl rfl ?_
    refine v_goto (t := 18) dX12_made_14 (by decide) ?_
    refine V.sub [0, 1] rfl ?_
    exact h_X12_made_b18 g a0 x1 1 a0
-- isSaid
def f_X12_isSaid_b2 : Nat → Nat → Int32 → Int32 → Mo Int32
  | 0, _, _, _ => fl
  | n + 1, a0, x1, x2 => bd (gI 12 31 a0) fun v1 => if (v1 ≤ x2 : Prop) then (pu 1) else bd (gR 12 21 a0) fun r2 => bd (aR 3 r2 x2) fun r3 => bd (al 0 r3 0) fun v4 => bd (cv 12 a0 (f_X12_faceOf a0 v4)) fun v5 => bd (f_X12_ones (x1 ^^^ v5)) fun v6 => bd (gR 12 21 a0) fun r7 => bd (aR 3 r7 x2) fun r8 => bd (al 0 r8 1) fun v9 => if (((6 : Int32) - v6) = v9 : Prop) then ((f_X12_isSaid_b2 n) a0 x1 (x2 + 1)) else pu 0
def f_X12_isSaid (a0 : Nat) (x1 : Int32) : Mo Int32 := f_X12_isSaid_b2 NF a0 x1 0
set_option maxRecDepth 20000 in
theorem h_X12_isSaid_b2 (g : GW) : ∀ n : Nat, ∀ a0 x1 x2, V g mX12_isSaid 9 rtI 2 [(0, rf g a0), (1, .int x1), (2, .int x2)] [] (f_X12_isSaid_b2 n a0 x1 x2) := by
  intro n
  induction n with
  | zero => intro a0 x1 x2; exact V.vain
  | succ n ih =>
    intro a0 x1 x2
    unfold f_X12_isSaid_b2
    refine v_iload_n (pc' := 3) 2 dX12_isSaid_2 rfl rfl rfl ?_
    refine v_aload_n (pc' := 4) 0 dX12_isSaid_3 rfl rfl rfl ?_
    refine v_getI (pc' := 7) fl_X12_187 dX12_isSaid_4 rfl fun v1 => ?_
    refine v_icmpge (t := 49) (pc' := 10) dX12_isSaid_7 (by decide) rfl ?_ ?_
    · refine v_iconst (v := 1) (pc' := 50) dX12_isSaid_49 rfl rfl ?_
      exact v_zret rfl rfl dX12_isSaid_50
    · refine v_bipush (v := 6) (pc' := 12) dX12_isSaid_10 rfl rfl ?_
      refine v_iload_n (pc' := 13) 1 dX12_isSaid_12 rfl rfl rfl ?_
      refine v_aload_n (pc' := 14) 0 dX12_isSaid_13 rfl rfl rfl ?_
      refine v_aload_n (pc' := 15) 0 dX12_isSaid_14 rfl rfl rfl ?_
      refine v_getR (pc' := 18) fl_X12_46 dX12_isSaid_15 rfl fun r2 => ?_
      refine v_iload_n (pc' := 19) 2 dX12_isSaid_18 rfl rfl rfl ?_
      refine v_aaldR (pc' := 20) dX12_isSaid_19 rfl fun r3 => ?_
      refine v_iconst (v := 0) (pc' := 21) dX12_isSaid_20 rfl rfl ?_
      refine v_iald (pc' := 22) dX12_isSaid_21 rfl fun v4 => ?_
      refine v_callV (vs := [.int v4]) (pc' := 25) (h_X12_faceOf g a0 v4) mv_X12_faceOf wl_X12_253 rfl (Nat.le_of_ble_eq_true rfl) (by omega) (by decide) (Nat.le_of_ble_eq_true rfl) rfl dX12_isSaid_22 rfl fun v5 => ?_
      refine v_ixor (pc' := 26) dX12_isSaid_25 rfl ?_
      refine v_callS (vs := [.int (x1 ^^^ v5)]) (pc' := 29) (h_X12_ones g (x1 ^^^ v5)) ms_X12_ones wl_X12_250 (Nat.le_of_ble_eq_true rfl) (by omega) (by decide) (Nat.le_of_ble_eq_true rfl) rfl dX12_isSaid_26 rfl fun v6 => ?_
      refine v_isub (pc' := 30) dX12_isSaid_29 rfl ?_
      refine v_aload_n (pc' := 31) 0 dX12_isSaid_30 rfl rfl rfl ?_
      refine v_getR (pc' := 34) fl_X12_46 dX12_isSaid_31 rfl fun r7 => ?_
      refine v_iload_n (pc' := 35) 2 dX12_isSaid_34 rfl rfl rfl ?_
      refine v_aaldR (pc' := 36) dX12_isSaid_35 rfl fun r8 => ?_
      refine v_iconst (v := 1) (pc' := 37) dX12_isSaid_36 rfl rfl ?_
      refine v_iald (pc' := 38) dX12_isSaid_37 rfl fun v9 => ?_
      refine v_icmpeq (t := 43) (pc' := 41) dX12_isSaid_38 (by decide) rfl ?_ ?_
      · refine v_iinc (v := x2 + 1) (lv' := [(2, .int (x2 + 1)), (0, rf g a0), (1, .int x1)]) (pc' := 46) 2 dX12_isSaid_43 rfl rfl (by decide) rfl rfl ?_
        refine v_goto (t := 2) dX12_isSaid_46 (by decide) ?_
        refine V.sub [1, 2, 0] rfl ?_
        exact ih a0 x1 (x2 + 1)
      · refine v_iconst (v := 0) (pc' := 42) dX12_isSaid_41 rfl rfl ?_
        exact v_zret rfl rfl dX12_isSaid_42
set_option maxRecDepth 20000 in
theorem h_X12_isSaid (g : GW) (a0 : Nat) (x1 : Int32) : V g mX12_isSaid 9 rtI 0 [(0, rf g a0), (1, .int x1)] [] (f_X12_isSaid a0 x1) := by
  unfold f_X12_isSaid
  refine v_iconst (v := 0) (pc' := 1) dX12_isSaid_0 rfl rfl ?_
  refine v_istore_n (lv' := [(2, .int 0), (0, rf g a0), (1, .int x1)]) (pc' := 2) dX12_isSaid_1 rfl (by decide) rfl rfl ?_
  refine V.sub [1, 2, 0] rfl ?_
  exact h_X12_isSaid_b2 g NF a0 x1 0
