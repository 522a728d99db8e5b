-- unknown
def f_X12_unknown_b91 (k44 : Nat → Int32 → Int32 → Int32 → Int32 → Int32 → Int32 → Mo Int32) (a0 : Nat) (x1 : Int32) (x2 : Int32) (x3 : Int32) (x4 : Int32) (x5 : Int32) (x6 : Int32) : Mo Int32 := k44 a0 x1 x2 x3 x4 x5 (x6 + 1)
def f_X12_unknown_b73 (k44 : Nat → Int32 → Int32 → Int32 → Int32 → Int32 → Int32 → Mo Int32) (a0 : Nat) (x1 : Int32) (x2 : Int32) (x4 : Int32) (x5 : Int32) (x6 : Int32) (xs0 : Int32) : Mo Int32 := f_X12_unknown_b91 k44 a0 x1 (x2 + 1) xs0 (x4 &&& x6) (x5 ||| x6) x6
def f_X12_unknown_b44 : Nat → Nat → Int32 → Int32 → Int32 → Int32 → Int32 → Int32 → Mo Int32
  | 0, _, _, _, _, _, _, _ => fl
  | n + 1, a0, x1, x2, x3, x4, x5, x6 => if (64 ≤ x6 : Prop) then (if (2 ≤ x1 : Prop) then (if (x2 = 0 : Prop) then (pu 0) else if (x1 = 2 : Prop) then (pu x4) else pu ((63 : Int32) - x5)) else if (x1 = 0 : Prop) then (pu x2) else pu x3) else bd (cv 12 a0 (f_X12_isSaid a0 x6)) fun v1 => if (v1 = 0 : Prop) then (f_X12_unknown_b91 (f_X12_unknown_b44 n) a0 x1 x2 x3 x4 x5 x6) else if (x2 = 0 : Prop) then (f_X12_unknown_b73 (f_X12_unknown_b44 n) a0 x1 x2 x4 x5 x6 x6) else f_X12_unknown_b73 (f_X12_unknown_b44 n) a0 x1 x2 x4 x5 x6 x3
def f_X12_unknown_b20 (a0 : Nat) (x1 : Int32) (xs0 : Int32) (as1 : Nat) : Mo Int32 := bd (cv 12 as1 (f_X12_bad as1 xs0 1 1)) fun v2 => if (v2 = 0 : Prop) then (f_X12_unknown_b44 NF a0 x1 0 (-1) 63 0 0) else pu 0
def f_X12_unknown (a0 : Nat) (x1 : Int32) : Mo Int32 := bd (pf 12 0 a0 (.int 0)) fun _ => bd (f_X12_in x1 0 3) fun v3 => if (v3 = 0 : Prop) then (f_X12_unknown_b20 a0 x1 1 a0) else f_X12_unknown_b20 a0 x1 0 a0
set_option maxRecDepth 20000 in
theorem h_X12_unknown_b91 (g : GW) (k44 : Nat → Int32 → Int32 → Int32 → Int32 → Int32 → Int32 → Mo Int32) (hk44 : ∀ a0 x1 x2 x3 x4 x5 x6, V g mX12_unknown 10 rtI 44 [(0, rf g a0), (1, .int x1), (2, .int x2), (3, .int x3), (4, .int x4), (5, .int x5), (6, .int x6)] [] (k44 a0 x1 x2 x3 x4 x5 x6)) (a0 : Nat) (x1 : Int32) (x2 : Int32) (x3 : Int32) (x4 : Int32) (x5 : Int32) (x6 : Int32) : V g mX12_unknown 10 rtI 91 [(0, rf g a0), (1, .int x1), (2, .int x2), (3, .int x3), (4, .int x4), (5, .int x5), (6, .int x6)] [] (f_X12_unknown_b91 k44 a0 x1 x2 x3 x4 x5 x6) := by
  unfold f_X12_unknown_b91
  refine v_iinc (v := x6 + 1) (lv' := [(6, .int (x6 + 1)), (0, rf g a0), (1, .int x1), (2, .int x2), (3, .int x3), (4, .int x4), (5, .int x5)]) (pc' := 94) 6 dX12_unknown_91 rfl rfl (by decide) rfl rfl ?_
  refine v_goto (t := 44) dX12_unknown_94 (by decide) ?_
  refine V.sub [1, 2, 3, 4, 5, 6, 0] rfl ?_
  exact hk44 a0 x1 x2 x3 x4 x5 (x6 + 1)
set_option maxRecDepth 20000 in
theorem h_X12_unknown_b73 (g : GW) (k44 : Nat → Int32 → Int32 → Int32 → Int32 → Int32 → Int32 → Mo Int32) (hk44 : ∀ a0 x1 x2 x3 x4 x5 x6, V g mX12_unknown 10 rtI 44 [(0, rf g a0), (1, .int x1), (2, .int x2), (3, .int x3), (4, .int x4), (5, .int x5), (6, .int x6)] [] (k44 a0 x1 x2 x3 x4 x5 x6)) (a0 : Nat) (x1 : Int32) (x2 : Int32) (x4 : Int32) (x5 : Int32) (x6 : Int32) (xs0 : Int32) : V g mX12_unknown 10 rtI 73 [(0, rf g a0), (1, .int x1), (2, .int x2), (4, .int x4), (5, .int x5), (6, .int x6)] [.int xs0] (f_X12_unknown_b73 k44 a0 x1 x2 x4 x5 x6 xs0) := by
  unfold f_X12_unknown_b73
  refine v_istore_n (lv' := [(3, .int xs0), (0, rf g a0), (1, .int x1), (2, .int x2), (4, .int x4), (5, .int x5), (6, .int x6)]) (pc' := 74) dX12_unknown_73 rfl (by decide) rfl rfl ?_
  refine v_iload (pc' := 76) 4 dX12_unknown_74 rfl rfl ?_
  refine v_iload (pc' := 78) 6 dX12_unknown_76 rfl rfl ?_
  refine v_iand (pc' := 79) dX12_unknown_78 rfl ?_
  refine v_istore (lv' := [(4, .int (x4 &&& x6)), (3, .int xs0), (0, rf g a0), (1, .int x1), (2, .int x2), (5, .int x5), (6, .int x6)]) (pc' := 81) dX12_unknown_79 (by decide) rfl rfl ?_
  refine v_iload (pc' := 83) 5 dX12_unknown_81 rfl rfl ?_
  refine v_iload (pc' := 85) 6 dX12_unknown_83 rfl rfl ?_
  refine v_ior (pc' := 86) dX12_unknown_85 rfl ?_
  refine v_istore (lv' := [(5, .int (x5 ||| x6)), (4, .int (x4 &&& x6)), (3, .int xs0), (0, rf g a0), (1, .int x1), (2, .int x2), (6, .int x6)]) (pc' := 88) dX12_unknown_86 (by decide) rfl rfl ?_
  refine v_iinc (v := x2 + 1) (lv' := [(2, .int (x2 + 1)), (5, .int (x5 ||| x6)), (4, .int (x4 &&& x6)), (3, .int xs0), (0, rf g a0), (1, .int x1), (6, .int x6)]) (pc' := 91) 5 dX12_unknown_88 rfl rfl (by decide) rfl rfl ?_
  refine V.sub [4, 5, 0, 3, 2, 1, 6] rfl ?_
  exact h_X12_unknown_b91 g k44 hk44 a0 x1 (x2 + 1) xs0 (x4 &&& x6) (x5 ||| x6) x6
set_option maxRecDepth 20000 in
theorem h_X12_unknown_b44 (g : GW) : ∀ n : Nat, ∀ a0 x1 x2 x3 x4 x5 x6, V g mX12_unknown 10 rtI 44 [(0, rf g a0), (1, .int x1), (2, .int x2), (3, .int x3), (4, .int x4), (5, .int x5), (6, .int x6)] [] (f_X12_unknown_b44 n a0 x1 x2 x3 x4 x5 x6) := by
  intro n
  induction n with
  | zero => intro a0 x1 x2 x3 x4 x5 x6; exact V.vain
  | succ n ih =>
    intro a0 x1 x2 x3 x4 x5 x6
    unfold f_X12_unknown_b44
    refine v_iload (pc' := 46) 6 dX12_unknown_44 rfl rfl ?_
    refine v_bipush (v := 64) (pc' := 48) dX12_unknown_46 rfl rfl ?_
    refine v_icmpge (t := 97) (pc' := 51) dX12_unknown_48 (by decide) rfl ?_ ?_
    · refine v_iload_n (pc' := 98) 1 dX12_unknown_97 rfl rfl rfl ?_
      refine v_iconst (v := 2) (pc' := 99) dX12_unknown_98 rfl rfl ?_
      refine v_icmpge (t := 112) (pc' := 102) dX12_unknown_99 (by decide) rfl ?_ ?_
      · refine v_iload_n (pc' := 113) 2 dX12_unknown_112 rfl rfl rfl ?_
        refine v_ifne (t := 120) (pc' := 116) dX12_unknown_113 (by decide) rfl ?_ ?_
        · refine v_iload_n (pc' := 121) 1 dX12_unknown_120 rfl rfl rfl ?_
          refine v_iconst (v := 2) (pc' := 122) dX12_unknown_121 rfl rfl ?_
          refine v_icmpne (t := 130) (pc' := 125) dX12_unknown_122 (by decide) rfl ?_ ?_
          · refine v_bipush (v := 63) (pc' := 132) dX12_unknown_130 rfl rfl ?_
            refine v_iload (pc' := 134) 5 dX12_unknown_132 rfl rfl ?_
            refine v_isub (pc' := 135) dX12_unknown_134 rfl ?_
            exact v_ireturn rfl dX12_unknown_135
          · refine v_iload (pc' := 127) 4 dX12_unknown_125 rfl rfl ?_
            refine v_goto (t := 135) dX12_unknown_127 (by decide) ?_
            exact v_ireturn rfl dX12_unknown_135
        · refine v_iconst (v := 0) (pc' := 117) dX12_unknown_116 rfl rfl ?_
          refine v_goto (t := 135) dX12_unknown_117 (by decide) ?_
          exact v_ireturn rfl dX12_unknown_135
      · refine v_iload_n (pc' := 103) 1 dX12_unknown_102 rfl rfl rfl ?_
        refine v_ifne (t := 110) (pc' := 106) dX12_unknown_103 (by decide) rfl ?_ ?_
        · refine v_iload_n (pc' := 111) 3 dX12_unknown_110 rfl rfl rfl ?_
          exact v_ireturn rfl dX12_unknown_111
        · refine v_iload_n (pc' := 107) 2 dX12_unknown_106 rfl rfl rfl ?_
          refine v_goto (t := 111) dX12_unknown_107 (by decide) ?_
          exact v_ireturn rfl dX12_unknown_111
    · refine v_aload_n (pc' := 52) 0 dX12_unknown_51 rfl rfl rfl ?_
      refine v_iload (pc' := 54) 6 dX12_unknown_52 rfl rfl ?_
      refine v_callV (vs := [.int x6]) (pc' := 57) (h_X12_isSaid g a0 x6) mv_X12_isSaid wl_X12_343 rfl (Nat.le_of_ble_eq_true rfl) (by omega) (by decide) (Nat.le_of_ble_eq_true rfl) rfl dX12_unknown_54 rfl fun v1 => ?_
      refine v_ifne (t := 63) (pc' := 60) dX12_unknown_57 (by decide) rfl ?_ ?_
      · refine v_iload_n (pc' := 64) 2 dX12_unknown_63 rfl rfl rfl ?_
        refine v_ifne (t := 72) (pc' := 67) dX12_unknown_64 (by decide) rfl ?_ ?_
        · refine v_iload_n (pc' := 73) 3 dX12_unknown_72 rfl rfl rfl ?_
          refine V.sub [0, 1, 2, 4, 5, 6] rfl ?_
          exact h_X12_unknown_b73 g (f_X12_unknown_b44 n) ih a0 x1 x2 x4 x5 x6 x3
        · refine v_iload (pc' := 69) 6 dX12_unknown_67 rfl rfl ?_
          refine v_goto (t := 73) dX12_unknown_69 (by decide) ?_
          refine V.sub [0, 1, 2, 4, 5, 6] rfl ?_
          exact h_X12_unknown_b73 g (f_X12_unknown_b44 n) ih a0 x1 x2 x4 x5 x6 x6
      · refine v_goto (t := 91) dX12_unknown_60 (by decide) ?_
        refine V.sub [0, 1, 2, 3, 4, 5, 6] rfl ?_
        exact h_X12_unknown_b91 g (f_X12_unknown_b44 n) ih a0 x1 x2 x3 x4 x5 x6
set_option maxRecDepth 20000 in
theorem h_X12_unknown_b20 (g : GW) (a0 : Nat) (x1 : Int32) (xs0 : Int32) (as1 : Nat) : V g mX12_unknown 10 rtI 20 [(0, rf g a0), (1, .int x1)] [.int xs0, rf g as1] (f_X12_unknown_b20 a0 x1 xs0 as1) := by
  unfold f_X12_unknown_b20
  refine v_iconst (v := 1) (pc' := 21) dX12_unknown_20 rfl rfl ?_
  refine v_iconst (v := 1) (pc' := 22) dX12_unknown_21 rfl rfl ?_
  refine v_callV (vs := [.int xs0, .int 1, .int 1]) (pc' := 25) (h_X12_bad g as1 xs0 1 1) mv_X12_bad wl_X12_167 rfl (Nat.le_of_ble_eq_true rfl) (by omega) (by decide) (Nat.le_of_ble_eq_true rfl) rfl dX12_unknown_22 rfl fun v2 => ?_
  refine v_ifeq (t := 30) (pc' := 28) dX12_unknown_25 (by decide) rfl ?_ ?_
  · refine v_iconst (v := 0) (pc' := 31) dX12_unknown_30 rfl rfl ?_
    refine v_istore_n (lv' := [(2, .int 0), (0, rf g a0), (1, .int x1)]) (pc' := 32) dX12_unknown_31 rfl (by decide) rfl rfl ?_
    refine v_iconst (v := -1) (pc' := 33) dX12_unknown_32 rfl rfl ?_
    refine v_istore_n (lv' := [(3, .int (-1)), (2, .int 0), (0, rf g a0), (1, .int x1)]) (pc' := 34) dX12_unknown_33 rfl (by decide) rfl rfl ?_
    refine v_bipush (v := 63) (pc' := 36) dX12_unknown_34 rfl rfl ?_
    refine v_istore (lv' := [(4, .int 63), (3, .int (-1)), (2, .int 0), (0, rf g a0), (1, .int x1)]) (pc' := 38) dX12_unknown_36 (by decide) rfl rfl ?_
    refine v_iconst (v := 0) (pc' := 39) dX12_unknown_38 rfl rfl ?_
    refine v_istore (lv' := [(5, .int 0), (4, .int 63), (3, .int (-1)), (2, .int 0), (0, rf g a0), (1, .int x1)]) (pc' := 41) dX12_unknown_39 (by decide) rfl rfl ?_
    refine v_iconst (v := 0) (pc' := 42) dX12_unknown_41 rfl rfl ?_
    refine v_istore (lv' := [(6, .int 0), (5, .int 0), (4, .int 63), (3, .int (-1)), (2, .int 0), (0, rf g a0), (1, .int x1)]) (pc' := 44) dX12_unknown_42 (by decide) rfl rfl ?_
    refine V.sub [5, 6, 4, 3, 2, 1, 0] rfl ?_
    exact h_X12_unknown_b44 g NF a0 x1 0 (-1) 63 0 0
  · refine v_iconst (v := 0) (pc' := 29) dX12_unknown_28 rfl rfl ?_
    exact v_ireturn rfl dX12_unknown_29
set_option maxRecDepth 20000 in
theorem h_X12_unknown (g : GW) (a0 : Nat) (x1 : Int32) : V g mX12_unknown 10 rtI 0 [(0, rf g a0), (1, .int x1)] [] (f_X12_unknown a0 x1) := by
  unfold f_X12_unknown
  refine v_aload_n (pc' := 1) 0 dX12_unknown_0 rfl rfl rfl ?_
  refine v_iconst (v := 0) (pc' := 2) dX12_unknown_1 rfl rfl ?_
  refine v_put (v := (.int 0)) (v' := .int 0) (pc' := 5) fw_X12_94 rfl rfl rfl (fun h => nomatch h) dX12_unknown_2 rfl ?_
  refine v_aload_n (pc' := 6) 0 dX12_unknown_5 rfl rfl rfl ?_
  refine v_iload_n (pc' := 7) 1 dX12_unknown_6 rfl rfl rfl ?_
  refine v_iconst (v := 0) (pc' := 8) dX12_unknown_7 rfl rfl ?_
  refine v_iconst (v := 3) (pc' := 9) dX12_unknown_8 rfl rfl ?_
  refine v_callS (vs := [.int x1, .int 0, .int 3]) (pc' := 12) (h_X12_in g x1 0 3) ms_X12_in wl_X12_128 (Nat.le_of_ble_eq_true rfl) (by omega) (by decide) (Nat.le_of_ble_eq_true rfl) rfl dX12_unknown_9 rfl fun v3 => ?_
  refine v_ifne (t := 19) (pc' := 15) dX12_unknown_12 (by decide) rfl ?_ ?_
  · refine v_iconst (v := 0) (pc' := 20) dX12_unknown_19 rfl rfl ?_
    refine V.sub [0, 1] rfl ?_
    exact h_X12_unknown_b20 g a0 x1 0 a0
  · refine v_iconst (v := 1) (pc' := 16) dX12_unknown_15 rfl rfl ?_
    refine v_goto (t := 20) dX12_unknown_16 (by decide) ?_
    refine V.sub [0, 1] rfl ?_
    exact h_X12_unknown_b20 g a0 x1 1 a0
-- worstAt
def f_X12_worstAt_b66 : Nat → Nat → Int32 → Int32 → Mo Int32
  | 0, _, _, _ => fl
  | n + 1, a0, x2, x3 => if (6 < x3 : Prop) then (pu x2) else bd (gR 12 41 a0) fun r1 => bd (al 0 r1 x3) fun v2 => bd (f_X12_more x2 v2) fun v3 => (f_X12_worstAt_b66 n) a0 v3 (x3 + 1)
def f_X12_worstAt_b58 (k25 : Nat → Int32 → Int32 → Int32 → Mo Int32) (a0 : Nat) (x1 : Int32) (x2 : Int32) (x3 : Int32) : Mo Int32 := k25 a0 x1 x2 (x3 + 1)
def f_X12_worstAt_b25 : Nat → Nat → Int32 → Int32 → Int32 → Mo Int32
  | 0, _, _, _, _ => fl
  | n + 1, a0, x1, x2, x3 => if (64 ≤ x3 : Prop) then (f_X12_worstAt_b66 NF a0 x2 0) else bd (cv 12 a0 (f_X12_isSaid a0 x3)) fun v4 => if (v4 = 0 : Prop) then (f_X12_worstAt_b58 (f_X12_worstAt_b25 n) a0 x1 x2 x3) else bd (gR 12 41 a0) fun r5 => bd (cv 12 a0 (f_X12_faceOf a0 x1)) fun v6 => bd (f_X12_ones (x3 ^^^ v6)) fun v7 => bd (al 0 r5 v7) fun v8 => bd (as_ r5 v7 (v8 + (1 : Int32))) fun _ => f_X12_worstAt_b58 (f_X12_worstAt_b25 n) a0 x1 x2 x3
def f_X12_worstAt_b4 : Nat → Nat → Int32 → Int32 → Int32 → Mo Int32
  | 0, _, _, _, _ => fl
  | n + 1, a0, x1, x2, x3 => if (6 < x3 : Prop) then (f_X12_worstAt_b25 NF a0 x1 x2 0) else bd (gR 12 41 a0) fun r9 => bd (as_ r9 x3 0) fun _ => (f_X12_worstAt_b4 n) a0 x1 x2 (x3 + 1)
def f_X12_worstAt (a0 : Nat) (x1 : Int32) : Mo Int32 := f_X12_worstAt_b4 NF a0 x1 0 0
set_option maxRecDepth 20000 in
theorem h_X12_worstAt_b66 (g : GW) : ∀ n : Nat, ∀ a0 x2 x3, V g mX12_worstAt 10 rtI 66 [(0, rf g a0), (2, .int x2), (3, .int x3)] [] (f_X12_worstAt_b66 n a0 x2 x3) := by
  intro n
  induction n with
  | zero => intro a0 x2 x3; exact V.vain
  | succ n ih =>
    intro a0 x2 x3
    unfold f_X12_worstAt_b66
    refine v_iload_n (pc' := 67) 2 dX12_worstAt_66 rfl rfl rfl ?_
    refine v_bipush (v := 6) (pc' := 69) dX12_worstAt_67 rfl rfl ?_
    refine v_icmpgt (t := 89) (pc' := 72) dX12_worstAt_69 (by decide) rfl ?_ ?_
    · refine v_iload_n (pc' := 90) 1 dX12_worstAt_89 rfl rfl rfl ?_
      exact v_ireturn rfl dX12_worstAt_90
    · refine v_iload_n (pc' := 73) 1 dX12_worstAt_72 rfl rfl rfl ?_
      refine v_aload_n (pc' := 74) 0 dX12_worstAt_73 rfl rfl rfl ?_
      refine v_getR (pc' := 77) fl_X12_76 dX12_worstAt_74 rfl fun r1 => ?_
      refine v_iload_n (pc' := 78) 2 dX12_worstAt_77 rfl rfl rfl ?_
      refine v_iald (pc' := 79) dX12_worstAt_78 rfl fun v2 => ?_
      refine v_callS (vs := [.int x2, .int v2]) (pc' := 82) (h_X12_more g x2 v2) ms_X12_more wl_X12_230 (Nat.le_of_ble_eq_true rfl) (by omega) (by decide) (Nat.le_of_ble_eq_true rfl) rfl dX12_worstAt_79 rfl fun v3 => ?_
      refine v_istore_n (lv' := [(2, .int v3), (0, rf g a0), (3, .int x3)]) (pc' := 83) dX12_worstAt_82 rfl (by decide) rfl rfl ?_
      refine v_iinc (v := x3 + 1) (lv' := [(3, .int (x3 + 1)), (2, .int v3), (0, rf g a0)]) (pc' := 86) 2 dX12_worstAt_83 rfl rfl (by decide) rfl rfl ?_
      refine v_goto (t := 66) dX12_worstAt_86 (by decide) ?_
      refine V.sub [2, 1, 0] rfl ?_
      exact ih a0 v3 (x3 + 1)
set_option maxRecDepth 20000 in
theorem h_X12_worstAt_b58 (g : GW) (k25 : Nat → Int32 → Int32 → Int32 → Mo Int32) (hk25 : ∀ a0 x1 x2 x3, V g mX12_worstAt 10 rtI 25 [(0, rf g a0), (1, .int x1), (2, .int x2), (3, .int x3)] [] (k25 a0 x1 x2 x3)) (a0 : Nat) (x1 : Int32) (x2 : Int32) (x3 : Int32) : V g mX12_worstAt 10 rtI 58 [(0, rf g a0), (1, .int x1), (2, .int x2), (3, .int x3)] [] (f_X12_worstAt_b58 k25 a0 x1 x2 x3) := by
  unfold f_X12_worstAt_b58
  refine v_iinc (v := x3 + 1) (lv' := [(3, .int (x3 + 1)), (0, rf g a0), (1, .int x1), (2, .int x2)]) (pc' := 61) 3 dX12_worstAt_58 rfl rfl (by decide) rfl rfl ?_
  refine v_goto (t := 25) dX12_worstAt_61 (by decide) ?_
  refine V.sub [1, 2, 3, 0] rfl ?_
  exact hk25 a0 x1 x2 (x3 + 1)
set_option maxRecDepth 20000 in
theorem h_X12_worstAt_b25 (g : GW) : ∀ n : Nat, ∀ a0 x1 x2 x3, V g mX12_worstAt 10 rtI 25 [(0, rf g a0), (1, .int x1), (2, .int x2), (3, .int x3)] [] (f_X12_worstAt_b25 n a0 x1 x2 x3) := by
  intro n
  induction n with
  | zero => intro a0 x1 x2 x3; exact V.vain
  | succ n ih =>
    intro a0 x1 x2 x3
    unfold f_X12_worstAt_b25
    refine v_iload_n (pc' := 26) 3 dX12_worstAt_25 rfl rfl rfl ?_
    refine v_bipush (v := 64) (pc' := 28) dX12_worstAt_26 rfl rfl ?_
    refine v_icmpge (t := 64) (pc' := 31) dX12_worstAt_28 (by decide) rfl ?_ ?_
    · refine v_iconst (v := 0) (pc' := 65) dX12_worstAt_64 rfl rfl ?_
      refine v_istore_n (lv' := [(3, .int 0), (0, rf g a0), (1, .int x1), (2, .int x2)]) (pc' := 66) dX12_worstAt_65 rfl (by decide) rfl rfl ?_
      refine V.sub [1, 3, 0] rfl ?_
      exact h_X12_worstAt_b66 g NF a0 x2 0
    · refine v_aload_n (pc' := 32) 0 dX12_worstAt_31 rfl rfl rfl ?_
      refine v_iload_n (pc' := 33) 3 dX12_worstAt_32 rfl rfl rfl ?_
      refine v_callV (vs := [.int x3]) (pc' := 36) (h_X12_isSaid g a0 x3) mv_X12_isSaid wl_X12_343 rfl (Nat.le_of_ble_eq_true rfl) (by omega) (by decide) (Nat.le_of_ble_eq_true rfl) rfl dX12_worstAt_33 rfl fun v4 => ?_
      refine v_ifeq (t := 58) (pc' := 39) dX12_worstAt_36 (by decide) rfl ?_ ?_
      · refine V.sub [0, 1, 2, 3] rfl ?_
        exact h_X12_worstAt_b58 g (f_X12_worstAt_b25 n) ih a0 x1 x2 x3
      · refine v_aload_n (pc' := 40) 0 dX12_worstAt_39 rfl rfl rfl ?_
        refine v_getR (pc' := 43) fl_X12_76 dX12_worstAt_40 rfl fun r5 => ?_
        refine v_iload_n (pc' := 44) 3 dX12_worstAt_43 rfl rfl rfl ?_
        refine v_aload_n (pc' := 45) 0 dX12_worstAt_44 rfl rfl rfl ?_
        refine v_iload_n (pc' := 46) 1 dX12_worstAt_45 rfl rfl rfl ?_
        refine v_callV (vs := [.int x1]) (pc' := 49) (h_X12_faceOf g a0 x1) mv_X12_faceOf wl_X12_253 rfl (Nat.le_of_ble_eq_true rfl) (by omega) (by decide) (Nat.le_of_ble_eq_true rfl) rfl dX12_worstAt_46 rfl fun v6 => ?_
        refine v_ixor (pc' := 50) dX12_worstAt_49 rfl ?_
        refine v_callS (vs := [.int (x3 ^^^ v6)]) (pc' := 53) (h_X12_ones g (x3 ^^^ v6)) ms_X12_ones wl_X12_250 (Nat.le_of_ble_eq_true rfl) (by omega) (by decide) (Nat.le_of_ble_eq_true rfl) rfl dX12_worstAt_50 rfl fun v7 => ?_
        refine v_dup2 (pc' := 54) dX12_worstAt_53 rfl rfl rfl ?_
        refine v_iald (pc' := 55) dX12_worstAt_54 rfl fun v8 => ?_
        refine v_iconst (v := 1) (pc' := 56) dX12_worstAt_55 rfl rfl ?_
        refine v_iadd (pc' := 57) dX12_worstAt_56 rfl ?_
        refine v_iast (pc' := 58) dX12_worstAt_57 rfl ?_
        refine V.sub [0, 1, 2, 3] rfl ?_
        exact h_X12_worstAt_b58 g (f_X12_worstAt_b25 n) ih a0 x1 x2 x3
set_option maxRecDepth 20000 in
theorem h_X12_worstAt_b4 (g : GW) : ∀ n : Nat, ∀ a0 x1 x2 x3, V g mX12_worstAt 10 rtI 4 [(0, rf g a0), (1, .int x1), (2, .int x2), (3, .int x3)] [] (f_X12_worstAt_b4 n a0 x1 x2 x3) := by
  intro n
  induction n with
  | zero => intro a0 x1 x2 x3; exact V.vain
  | succ n ih =>
    intro a0 x1 x2 x3
    unfold f_X12_worstAt_b4
    refine v_iload_n (pc' := 5) 3 dX12_worstAt_4 rfl rfl rfl ?_
    refine v_bipush (v := 6) (pc' := 7) dX12_worstAt_5 rfl rfl ?_
    refine v_icmpgt (t := 23) (pc' := 10) dX12_worstAt_7 (by decide) rfl ?_ ?_
    · refine v_iconst (v := 0) (pc' := 24) dX12_worstAt_23 rfl rfl ?_
      refine v_istore_n (lv' := [(3, .int 0), (0, rf g a0), (1, .int x1), (2, .int x2)]) (pc' := 25) dX12_worstAt_24 rfl (by decide) rfl rfl ?_
      refine V.sub [1, 2, 3, 0] rfl ?_
      exact h_X12_worstAt_b25 g NF a0 x1 x2 0
    · refine v_aload_n (pc' := 11) 0 dX12_worstAt_10 rfl rfl rfl ?_
      refine v_getR (pc' := 14) fl_X12_76 dX12_worstAt_11 rfl fun r9 => ?_
      refine v_iload_n (pc' := 15) 3 dX12_worstAt_14 rfl rfl rfl ?_
      refine v_iconst (v := 0) (pc' := 16) dX12_worstAt_15 rfl rfl ?_
      refine v_iast (pc' := 17) dX12_worstAt_16 rfl ?_
      refine v_iinc (v := x3 + 1) (lv' := [(3, .int (x3 + 1)), (0, rf g a0), (1, .int x1), (2, .int x2)]) (pc' := 20) 3 dX12_worstAt_17 rfl rfl (by decide) rfl rfl ?_
      refine v_goto (t := 4) dX12_worstAt_20 (by decide) ?_
      refine V.sub [1, 2, 3, 0] rfl ?_
      exact ih a0 x1 x2 (x3 + 1)
set_option maxRecDepth 20000 in
theorem h_X12_worstAt (g : GW) (a0 : Nat) (x1 : Int32) : V g mX12_worstAt 10 rtI 0 [(0, rf g a0), (1, .int x1)] [] (f_X12_worstAt a0 x1) := by
  unfold f_X12_worstAt
  refine v_iconst (v := 0) (pc' := 1) dX12_worstAt_0 rfl rfl ?_
  refine v_istore_n (lv' := [(2, .int 0), (0, rf g a0), (1, .int x1)]) (pc' := 2) dX12_worstAt_1 rfl (by decide) rfl rfl ?_
  refine v_iconst (v := 0) (pc' := 3) dX12_worstAt_2 rfl rfl ?_
  refine v_istore_n (lv' := [(3, .int 0), (2, .int 0), (0, rf g a0), (1, .int x1)]) (pc' := 4) dX12_worstAt_3 rfl (by decide) rfl rfl ?_
  refine V.sub [2, 3, 1, 0] rfl ?_
  exact h_X12_worstAt_b4 g NF a0 x1 0 0
-- isTold
def f_X12_isTold_b2 : Nat → Nat → Int32 → Int32 → Mo Int32
  | 0, _, _, _ => fl
  | n + 1, a0, x1, x2 => bd (gI 12 31 a0) fun v1 => if (v1 ≤ x2 : Prop) then (pu 0) else bd (gR 12 21 a0) fun r2 => bd (aR 3 r2 x2) fun r3 => bd (al 0 r3 0) fun v4 => if (v4 = x1 : Prop) then (pu 1) else (f_X12_isTold_b2 n) a0 x1 (x2 + 1)
def f_X12_isTold (a0 : Nat) (x1 : Int32) : Mo Int32 := f_X12_isTold_b2 NF a0 x1 0
set_option maxRecDepth 20000 in
theorem h_X12_isTold_b2 (g : GW) : ∀ n : Nat, ∀ a0 x1 x2, V g mX12_isTold 8 rtI 2 [(0, rf g a0), (1, .int x1), (2, .int x2)] [] (f_X12_isTold_b2 n a0 x1 x2) := by
  intro n
  induction n with
  | zero => intro a0 x1 x2; exact V.vain
  | succ n ih =>
    intro a0 x1 x2
    unfold f_X12_isTold_b2
    refine v_iload_n (pc' := 3) 2 dX12_isTold_2 rfl rfl rfl ?_
    refine v_aload_n (pc' := 4) 0 dX12_isTold_3 rfl rfl rfl ?_
    refine v_getI (pc' := 7) fl_X12_187 dX12_isTold_4 rfl fun v1 => ?_
    refine v_icmpge (t := 30) (pc' := 10) dX12_isTold_7 (by decide) rfl ?_ ?_
    · refine v_iconst (v := 0) (pc' := 31) dX12_isTold_30 rfl rfl ?_
      exact v_zret rfl rfl dX12_isTold_31
    · refine v_aload_n (pc' := 11) 0 dX12_isTold_10 rfl rfl rfl ?_
      refine v_getR (pc' := 14) fl_X12_46 dX12_isTold_11 rfl fun r2 => ?_
      refine v_iload_n (pc' := 15) 2 dX12_isTold_14 rfl rfl rfl ?_
      refine v_aaldR (pc' := 16) dX12_isTold_15 rfl fun r3 => ?_
      refine v_iconst (v := 0) (pc' := 17) dX12_isTold_16 rfl rfl ?_
      refine v_iald (pc' := 18) dX12_isTold_17 rfl fun v4 => ?_
      refine v_iload_n (pc' := 19) 1 dX12_isTold_18 rfl rfl rfl ?_
      refine v_icmpne (t := 24) (pc' := 22) dX12_isTold_19 (by decide) rfl ?_ ?_
      · refine v_iinc (v := x2 + 1) (lv' := [(2, .int (x2 + 1)), (0, rf g a0), (1, .int x1)]) (pc' := 27) 2 dX12_isTold_24 rfl rfl (by decide) rfl rfl ?_
        refine v_goto (t := 2) dX12_isTold_27 (by decide) ?_
        refine V.sub [1, 2, 0] rfl ?_
        exact ih a0 x1 (x2 + 1)
      · refine v_iconst (v := 1) (pc' := 23) dX12_isTold_22 rfl rfl ?_
        exact v_zret rfl rfl dX12_isTold_23
set_option maxRecDepth 20000 in
theorem h_X12_isTold (g : GW) (a0 : Nat) (x1 : Int32) : V g mX12_isTold 8 rtI 0 [(0, rf g a0), (1, .int x1)] [] (f_X12_isTold a0 x1) := by
  unfold f_X12_isTold
  refine v_iconst (v := 0) (pc' := 1) dX12_isTold_0 rfl rfl ?_
  refine v_istore_n (lv' := [(2, .int 0), (0, rf g a0), (1, .int x1)]) (pc' := 2) dX12_isTold_1 rfl (by decide) rfl rfl ?_
  refine V.sub [1, 2, 0] rfl ?_
  exact h_X12_isTold_b2 g NF a0 x1 0
-- hold
def f_X12_hold_b88 (k37 : Nat → Int32 → Int32 → Int32 → Int32 → Mo Int32) (a0 : Nat) (x1 : Int32) (x2 : Int32) (x3 : Int32) (x4 : Int32) : Mo Int32 := k37 a0 x1 x2 x3 (x4 + 1)
def f_X12_hold_b82 (k37 : Nat → Int32 → Int32 → Int32 → Int32 → Mo Int32) (a0 : Nat) (x1 : Int32) (x4 : Int32) (x5 : Int32) : Mo Int32 := f_X12_hold_b88 k37 a0 x1 x4 x5 x4
def f_X12_hold_b37 : Nat → Nat → Int32 → Int32 → Int32 → Int32 → Mo Int32
  | 0, _, _, _, _, _ => fl
  | n + 1, a0, x1, x2, x3, x4 => bd (gR 12 12 a0) fun r1 => bd (al 0 r1 0) fun v2 => if (v2 ≤ x4 : Prop) then (if (x1 = 0 : Prop) then (pu x2) else pu x3) else bd (cv 12 a0 (f_X12_isTold a0 x4)) fun v3 => if (v3 = 0 : Prop) then (bd (cv 12 a0 (f_X12_worstAt a0 x4)) fun v4 => if (x2 = (-1) : Prop) then (f_X12_hold_b82 (f_X12_hold_b37 n) a0 x1 x4 v4) else if (v4 < x3 : Prop) then (f_X12_hold_b82 (f_X12_hold_b37 n) a0 x1 x4 v4) else f_X12_hold_b88 (f_X12_hold_b37 n) a0 x1 x2 x3 x4) else f_X12_hold_b88 (f_X12_hold_b37 n) a0 x1 x2 x3 x4
def f_X12_hold_b20 (a0 : Nat) (x1 : Int32) (xs0 : Int32) (as1 : Nat) : Mo Int32 := bd (cv 12 as1 (f_X12_bad as1 xs0 1 1)) fun v5 => if (v5 = 0 : Prop) then (f_X12_hold_b37 NF a0 x1 (-1) (-1) 0) else pu 0
def f_X12_hold (a0 : Nat) (x1 : Int32) : Mo Int32 := bd (pf 12 0 a0 (.int 0)) fun _ => bd (f_X12_in x1 0 1) fun v6 => if (v6 = 0 : Prop) then (f_X12_hold_b20 a0 x1 1 a0) else f_X12_hold_b20 a0 x1 0 a0
set_option maxRecDepth 20000 in
theorem h_X12_hold_b88 (g : GW) (k37 : Nat → Int32 → Int32 → Int32 → Int32 → Mo Int32) (hk37 : ∀ a0 x1 x2 x3 x4, V g mX12_hold 11 rtI 37 [(0, rf g a0), (1, .int x1), (2, .int x2), (3, .int x3), (4, .int x4)] [] (k37 a0 x1 x2 x3 x4)) (a0 : Nat) (x1 : Int32) (x2 : Int32) (x3 : Int32) (x4 : Int32) : V g mX12_hold 11 rtI 88 [(0, rf g a0), (1, .int x1), (2, .int x2), (3, .int x3), (4, .int x4)] [] (f_X12_hold_b88 k37 a0 x1 x2 x3 x4) := by
  unfold f_X12_hold_b88
  refine v_iinc (v := x4 + 1) (lv' := [(4, .int (x4 + 1)), (0, rf g a0), (1, .int x1), (2, .int x2), (3, .int x3)]) (pc' := 91) 4 dX12_hold_88 rfl rfl (by decide) rfl rfl ?_
  refine v_goto (t := 37) dX12_hold_91 (by decide) ?_
  refine V.sub [1, 2, 3, 4, 0] rfl ?_
  exact hk37 a0 x1 x2 x3 (x4 + 1)
set_option maxRecDepth 20000 in
theorem h_X12_hold_b82 (g : GW) (k37 : Nat → Int32 → Int32 → Int32 → Int32 → Mo Int32) (hk37 : ∀ a0 x1 x2 x3 x4, V g mX12_hold 11 rtI 37 [(0, rf g a0), (1, .int x1), (2, .int x2), (3, .int x3), (4, .int x4)] [] (k37 a0 x1 x2 x3 x4)) (a0 : Nat) (x1 : Int32) (x4 : Int32) (x5 : Int32) : V g mX12_hold 11 rtI 82 [(0, rf g a0), (1, .int x1), (4, .int x4), (5, .int x5)] [] (f_X12_hold_b82 k37 a0 x1 x4 x5) := by
  unfold f_X12_hold_b82
  refine v_iload (pc' := 84) 2 dX12_hold_82 rfl rfl ?_
  refine v_istore_n (lv' := [(2, .int x4), (0, rf g a0), (1, .int x1), (4, .int x4), (5, .int x5)]) (pc' := 85) dX12_hold_84 rfl (by decide) rfl rfl ?_
  refine v_iload (pc' := 87) 4 dX12_hold_85 rfl rfl ?_
  refine v_istore_n (lv' := [(3, .int x5), (2, .int x4), (0, rf g a0), (1, .int x1), (4, .int x4), (5, .int x5)]) (pc' := 88) dX12_hold_87 rfl (by decide) rfl rfl ?_
  refine V.sub [2, 3, 1, 0, 4] rfl ?_
  exact h_X12_hold_b88 g k37 hk37 a0 x1 x4 x5 x4
set_option maxRecDepth 20000 in
theorem h_X12_hold_b37 (g : GW) : ∀ n : Nat, ∀ a0 x1 x2 x3 x4, V g mX12_hold 11 rtI 37 [(0, rf g a0), (1, .int x1), (2, .int x2), (3, .int x3), (4, .int x4)] [] (f_X12_hold_b37 n a0 x1 x2 x3 x4) := by
  intro n
  induction n with
  | zero => intro a0 x1 x2 x3 x4; exact V.vain
  | succ n ih =>
    intro a0 x1 x2 x3 x4
    unfold f_X12_hold_b37
    refine v_iload (pc' := 39) 4 dX12_hold_37 rfl rfl ?_
    refine v_aload_n (pc' := 40) 0 dX12_hold_39 rfl rfl rfl ?_
    refine v_getR (pc' := 43) fl_X12_23 dX12_hold_40 rfl fun r1 => ?_
    refine v_iconst (v := 0) (pc' := 44) dX12_hold_43 rfl rfl ?_
    refine v_iald (pc' := 45) dX12_hold_44 rfl fun v2 => ?_
    refine v_icmpge (t := 94) (pc' := 48) dX12_hold_45 (by decide) rfl ?_ ?_
    · refine v_iload_n (pc' := 95) 1 dX12_hold_94 rfl rfl rfl ?_
      refine v_ifne (t := 102) (pc' := 98) dX12_hold_95 (by decide) rfl ?_ ?_
      · refine v_iload_n (pc' := 103) 3 dX12_hold_102 rfl rfl rfl ?_
        exact v_ireturn rfl dX12_hold_103
      · refine v_iload_n (pc' := 99) 2 dX12_hold_98 rfl rfl rfl ?_
        refine v_goto (t := 103) dX12_hold_99 (by decide) ?_
        exact v_ireturn rfl dX12_hold_103
    · refine v_aload_n (pc' := 49) 0 dX12_hold_48 rfl rfl rfl ?_
      refine v_iload (pc' := 51) 4 dX12_hold_49 rfl rfl ?_
      refine v_callV (vs := [.int x4]) (pc' := 54) (h_X12_isTold g a0 x4) mv_X12_isTold wl_X12_346 rfl (Nat.le_of_ble_eq_true rfl) (by omega) (by decide) (Nat.le_of_ble_eq_true rfl) rfl dX12_hold_51 rfl fun v3 => ?_
      refine v_ifeq (t := 60) (pc' := 57) dX12_hold_54 (by decide) rfl ?_ ?_
      · refine v_aload_n (pc' := 61) 0 dX12_hold_60 rfl rfl rfl ?_
        refine v_iload (pc' := 63) 4 dX12_hold_61 rfl rfl ?_
        refine v_callV (vs := [.int x4]) (pc' := 66) (h_X12_worstAt g a0 x4) mv_X12_worstAt wl_X12_349 rfl (Nat.le_of_ble_eq_true rfl) (by omega) (by decide) (Nat.le_of_ble_eq_true rfl) rfl dX12_hold_63 rfl fun v4 => ?_
        refine v_istore (lv' := [(5, .int v4), (0, rf g a0), (1, .int x1), (2, .int x2), (3, .int x3), (4, .int x4)]) (pc' := 68) dX12_hold_66 (by decide) rfl rfl ?_
        refine v_iload_n (pc' := 69) 3 dX12_hold_68 rfl rfl rfl ?_
        refine v_iconst (v := -1) (pc' := 70) dX12_hold_69 rfl rfl ?_
        refine v_icmpeq (t := 82) (pc' := 73) dX12_hold_70 (by decide) rfl ?_ ?_
        · refine V.sub [1, 2, 5, 0] rfl ?_
          exact h_X12_hold_b82 g (f_X12_hold_b37 n) ih a0 x1 x4 v4
        · refine v_iload (pc' := 75) 0 dX12_hold_73 rfl rfl ?_
          refine v_iload_n (pc' := 76) 4 dX12_hold_75 rfl rfl rfl ?_
          refine v_icmplt (t := 82) (pc' := 79) dX12_hold_76 (by decide) rfl ?_ ?_
          · refine V.sub [1, 2, 5, 0] rfl ?_
            exact h_X12_hold_b82 g (f_X12_hold_b37 n) ih a0 x1 x4 v4
          · refine v_goto (t := 88) dX12_hold_79 (by decide) ?_
            refine V.sub [1, 2, 3, 4, 5] rfl ?_
            exact h_X12_hold_b88 g (f_X12_hold_b37 n) ih a0 x1 x2 x3 x4
      · refine v_goto (t := 88) dX12_hold_57 (by decide) ?_
        refine V.sub [0, 1, 2, 3, 4] rfl ?_
        exact h_X12_hold_b88 g (f_X12_hold_b37 n) ih a0 x1 x2 x3 x4
set_option maxRecDepth 20000 in
theorem h_X12_hold_b20 (g : GW) (a0 : Nat) (x1 : Int32) (xs0 : Int32) (as1 : Nat) : V g mX12_hold 11 rtI 20 [(0, rf g a0), (1, .int x1)] [.int xs0, rf g as1] (f_X12_hold_b20 a0 x1 xs0 as1) := by
  unfold f_X12_hold_b20
  refine v_iconst (v := 1) (pc' := 21) dX12_hold_20 rfl rfl ?_
  refine v_iconst (v := 1) (pc' := 22) dX12_hold_21 rfl rfl ?_
  refine v_callV (vs := [.int xs0, .int 1, .int 1]) (pc' := 25) (h_X12_bad g as1 xs0 1 1) mv_X12_bad wl_X12_167 rfl (Nat.le_of_ble_eq_true rfl) (by omega) (by decide) (Nat.le_of_ble_eq_true rfl) rfl dX12_hold_22 rfl fun v5 => ?_
  refine v_ifeq (t := 30) (pc' := 28) dX12_hold_25 (by decide) rfl ?_ ?_
  · refine v_iconst (v := -1) (pc' := 31) dX12_hold_30 rfl rfl ?_
    refine v_istore_n (lv' := [(2, .int (-1)), (0, rf g a0), (1, .int x1)]) (pc' := 32) dX12_hold_31 rfl (by decide) rfl rfl ?_
    refine v_iconst (v := -1) (pc' := 33) dX12_hold_32 rfl rfl ?_
    refine v_istore_n (lv' := [(3, .int (-1)), (2, .int (-1)), (0, rf g a0), (1, .int x1)]) (pc' := 34) dX12_hold_33 rfl (by decide) rfl rfl ?_
    refine v_iconst (v := 0) (pc' := 35) dX12_hold_34 rfl rfl ?_
    refine v_istore (lv' := [(4, .int 0), (3, .int (-1)), (2, .int (-1)), (0, rf g a0), (1, .int x1)]) (pc' := 37) dX12_hold_35 (by decide) rfl rfl ?_
    refine V.sub [3, 4, 2, 1, 0] rfl ?_
    exact h_X12_hold_b37 g NF a0 x1 (-1) (-1) 0
  · refine v_iconst (v := 0) (pc' := 29) dX12_hold_28 rfl rfl ?_
    exact v_ireturn rfl dX12_hold_29
set_option maxRecDepth 20000 in
theorem h_X12_hold (g : GW) (a0 : Nat) (x1 : Int32) : V g mX12_hold 11 rtI 0 [(0, rf g a0), (1, .int x1)] [] (f_X12_hold a0 x1) := by
  unfold f_X12_hold
  refine v_aload_n (pc' := 1) 0 dX12_hold_0 rfl rfl rfl ?_
  refine v_iconst (v := 0) (pc' := 2) dX12_hold_1 rfl rfl ?_
  refine v_put (v := (.int 0)) (v' := .int 0) (pc' := 5) fw_X12_94 rfl rfl rfl (fun h => nomatch h) dX12_hold_2 rfl ?_
  refine v_aload_n (pc' := 6) 0 dX12_hold_5 rfl rfl rfl ?_
  refine v_iload_n (pc' := 7) 1 dX12_hold_6 rfl rfl rfl ?_
  refine v_iconst (v := 0) (pc' := 8) dX12_hold_7 rfl rfl ?_
  refine v_iconst (v := 1) (pc' := 9) dX12_hold_8 rfl rfl ?_
  refine v_callS (vs := [.int x1, .int 0, .int 1]) (pc' := 12) (h_X12_in g x1 0 1) ms_X12_in wl_X12_128 (Nat.le_of_ble_eq_true rfl) (by omega) (by decide) (Nat.le_of_ble_eq_true rfl) rfl dX12_hold_9 rfl fun v6 => ?_
  refine v_ifne (t := 19) (pc' := 15) dX12_hold_12 (by decide) rfl ?_ ?_
  · refine v_iconst (v := 0) (pc' := 20) dX12_hold_19 rfl rfl ?_
    refine V.sub [0, 1] rfl ?_
    exact h_X12_hold_b20 g a0 x1 0 a0
  · refine v_iconst (v := 1) (pc' := 16) dX12_hold_15 rfl rfl ?_
    refine v_goto (t := 20) dX12_hold_16 (by decide) ?_
    refine V.sub [0, 1] rfl ?_
    exact h_X12_hold_b20 g a0 x1 1 a0
-- carriesFrom
def f_X12_carriesFrom_b173 (rec : Nat → Int32 → Int32 → Int32 → Mo Unit) (a0 : Nat) (x1 : Int32) (x2 : Int32) (x3 : Int32) : Mo Unit := bd (gR 12 42 a0) fun r1 => bd (as_ r1 x1 (-1)) fun _ => bd (cv 12 a0 (rec a0 (x1 + (1 : Int32)) x2 x3)) fun _ => pu ()
def f_X12_carriesFrom_b167 (rec : Nat → Int32 → Int32 → Int32 → Mo Unit) (k90 : Nat → Int32 → Int32 → Int32 → Int32 → Mo Unit) (a0 : Nat) (x1 : Int32) (x2 : Int32) (x3 : Int32) (x5 : Int32) : Mo Unit := k90 a0 x1 x2 x3 (x5 + 1)
def f_X12_carriesFrom_b90 (rec : Nat → Int32 → Int32 → Int32 → Mo Unit) : Nat → Nat → Int32 → Int32 → Int32 → Int32 → Mo Unit
  | 0, _, _, _, _, _ => fl
  | n + 1, a0, x1, x2, x3, x5 => bd (gR 12 27 a0) fun r2 => bd (al 0 r2 24) fun v3 => if (v3 ≤ x5 : Prop) then (f_X12_carriesFrom_b173 rec a0 x1 x2 x3) else if (8 ≤ x5 : Prop) then (f_X12_carriesFrom_b173 rec a0 x1 x2 x3) else bd (f_X12_has x2 x5) fun v4 => if (v4 = 0 : Prop) then (bd (cv 12 a0 (f_X12_faceOf a0 x1)) fun v5 => bd (gR 12 27 a0) fun r6 => bd (f_X12_plateOf r6 x5 3) fun v7 => bd (cv 12 a0 (f_X12_isAlike a0 v5 v7)) fun v8 => if (v8 = 0 : Prop) then (f_X12_carriesFrom_b167 rec (f_X12_carriesFrom_b90 rec n) a0 x1 x2 x3 x5) else bd (gR 12 42 a0) fun r9 => bd (as_ r9 x1 x5) fun _ => bd (cv 12 a0 (rec a0 (x1 + (1 : Int32)) (x2 ||| ((1 : Int32) <<< (x5 &&& 31))) (x3 + (1 : Int32)))) fun _ => f_X12_carriesFrom_b167 rec (f_X12_carriesFrom_b90 rec n) a0 x1 x2 x3 x5) else f_X12_carriesFrom_b167 rec (f_X12_carriesFrom_b90 rec n) a0 x1 x2 x3 x5
def f_X12_carriesFrom_b60 (rec : Nat → Int32 → Int32 → Int32 → Mo Unit) : Nat → Nat → Int32 → Int32 → Mo Unit
  | 0, _, _, _ => fl
  | n + 1, a0, x1, x5 => if (x1 ≤ x5 : Prop) then (pu ()) else bd (gR 12 43 a0) fun r10 => bd (gR 12 42 a0) fun r11 => bd (al 0 r11 x5) fun v12 => bd (as_ r10 x5 v12) fun _ => (f_X12_carriesFrom_b60 rec n) a0 x1 (x5 + 1)
def f_X12_carriesFrom (rec : Nat → Int32 → Int32 → Int32 → Mo Unit) (a0 : Nat) (x1 : Int32) (x2 : Int32) (x3 : Int32) : Mo Unit := bd (gR 12 27 a0) fun r13 => bd (al 0 r13 24) fun v14 => bd (f_X12_less 8 v14) fun v15 => bd (f_X12_ones x2) fun v16 => bd (gR 12 12 a0) fun r17 => bd (al 0 r17 0) fun v18 => bd (f_X12_less (v18 - x1) (v15 - v16)) fun v19 => bd (gI 12 44 a0) fun v20 => if (v20 < (x3 + v19) : Prop) then (bd (gR 12 12 a0) fun r21 => bd (al 0 r21 0) fun v22 => if (x1 = v22 : Prop) then (bd (pf 12 44 a0 (.int x3)) fun _ => f_X12_carriesFrom_b60 rec NF a0 x1 0) else f_X12_carriesFrom_b90 rec NF a0 x1 x2 x3 0) else pu ()
def F_X12_carriesFrom : Nat → Nat → Int32 → Int32 → Int32 → Mo Unit
  | 0, _, _, _, _ => fl
  | D + 1, a0, x1, x2, x3 => f_X12_carriesFrom (F_X12_carriesFrom D) a0 x1 x2 x3
set_option maxRecDepth 20000 in
theorem h_X12_carriesFrom_b173 (g : GW) (rec : Nat → Int32 → Int32 → Int32 → Mo Unit) (e : Nat) (he : 9 ≤ e) (hrec : ∀ a0 x1 x2 x3, V g mX12_carriesFrom e rtU 0 [(0, rf g a0), (1, .int x1), (2, .int x2), (3, .int x3)] [] (rec a0 x1 x2 x3)) (a0 : Nat) (x1 : Int32) (x2 : Int32) (x3 : Int32) : V g mX12_carriesFrom (e + 1) rtU 173 [(0, rf g a0), (1, .int x1), (2, .int x2), (3, .int x3)] [] (f_X12_carriesFrom_b173 rec a0 x1 x2 x3) := by
  unfold f_X12_carriesFrom_b173
  refine v_aload_n (pc' := 174) 0 dX12_carriesFrom_173 rfl rfl rfl ?_
  refine v_getR (pc' := 177) fl_X12_79 dX12_carriesFrom_174 rfl fun r1 => ?_
  refine v_iload_n (pc' := 178) 1 dX12_carriesFrom_177 rfl rfl rfl ?_
  refine v_iconst (v := -1) (pc' := 179) dX12_carriesFrom_178 rfl rfl ?_
  refine v_iast (pc' := 180) dX12_carriesFrom_179 rfl ?_
  refine v_aload_n (pc' := 181) 0 dX12_carriesFrom_180 rfl rfl rfl ?_
  refine v_iload_n (pc' := 182) 1 dX12_carriesFrom_181 rfl rfl rfl ?_
  refine v_iconst (v := 1) (pc' := 183) dX12_carriesFrom_182 rfl rfl ?_
  refine v_iadd (pc' := 184) dX12_carriesFrom_183 rfl ?_
  refine v_iload_n (pc' := 185) 2 dX12_carriesFrom_184 rfl rfl rfl ?_
  refine v_iload_n (pc' := 186) 3 dX12_carriesFrom_185 rfl rfl rfl ?_
  refine v_callV (vs := [.int (x1 + (1 : Int32)), .int x2, .int x3]) (pc' := 189) (hrec a0 (x1 + (1 : Int32)) x2 x3) mv_X12_carriesFrom wl_X12_355 rfl (Nat.le_of_ble_eq_true rfl) (by omega) (by decide) (Nat.le_of_ble_eq_true rfl) rfl dX12_carriesFrom_186 rfl fun _ => ?_
  exact v_return rfl dX12_carriesFrom_189
set_option maxRecDepth 20000 in
theorem h_X12_carriesFrom_b167 (g : GW) (rec : Nat → Int32 → Int32 → Int32 → Mo Unit) (e : Nat) (he : 9 ≤ e) (hrec : ∀ a0 x1 x2 x3, V g mX12_carriesFrom e rtU 0 [(0, rf g a0), (1, .int x1), (2, .int x2), (3, .int x3)] [] (rec a0 x1 x2 x3)) (k90 : Nat → Int32 → Int32 → Int32 → Int32 → Mo Unit) (hk90 : ∀ a0 x1 x2 x3 x5, V g mX12_carriesFrom (e + 1) rtU 90 [(0, rf g a0), (1, .int x1), (2, .int x2), (3, .int x3), (5, .int x5)] [] (k90 a0 x1 x2 x3 x5)) (a0 : Nat) (x1 : Int32) (x2 : Int32) (x3 : Int32) (x5 : Int32) : V g mX12_carriesFrom (e + 1) rtU 167 [(0, rf g a0), (1, .int x1), (2, .int x2), (3, .int x3), (5, .int x5)] [] (f_X12_carriesFrom_b167 rec k90 a0 x1 x2 x3 x5) := by
  unfold f_X12_carriesFrom_b167
  refine v_iinc (v := x5 + 1) (lv' := [(5, .int (x5 + 1)), (0, rf g a0), (1, .int x1), (2, .int x2), (3, .int x3)]) (pc' := 170) 4 dX12_carriesFrom_167 rfl rfl (by decide) rfl rfl ?_
  refine v_goto (t := 90) dX12_carriesFrom_170 (by decide) ?_
  refine V.sub [1, 2, 3, 4, 0] rfl ?_
  exact hk90 a0 x1 x2 x3 (x5 + 1)
set_option maxRecDepth 20000 in
theorem h_X12_carriesFrom_b90 (g : GW) (rec : Nat → Int32 → Int32 → Int32 → Mo Unit) (e : Nat) (he : 9 ≤ e) (hrec : ∀ a0 x1 x2 x3, V g mX12_carriesFrom e rtU 0 [(0, rf g a0), (1, .int x1), (2, .int x2), (3, .int x3)] [] (rec a0 x1 x2 x3)) : ∀ n : Nat, ∀ a0 x1 x2 x3 x5, V g mX12_carriesFrom (e + 1) rtU 90 [(0, rf g a0), (1, .int x1), (2, .int x2), (3, .int x3), (5, .int x5)] [] (f_X12_carriesFrom_b90 rec n a0 x1 x2 x3 x5) := by
  intro n
  induction n with
  | zero => intro a0 x1 x2 x3 x5; exact V.vain
  | succ n ih =>
    intro a0 x1 x2 x3 x5
    unfold f_X12_carriesFrom_b90
    refine v_iload (pc' := 92) 4 dX12_carriesFrom_90 rfl rfl ?_
    refine v_aload_n (pc' := 93) 0 dX12_carriesFrom_92 rfl rfl rfl ?_
    refine v_getR (pc' := 96) fl_X12_61 dX12_carriesFrom_93 rfl fun r2 => ?_
    refine v_bipush (v := 24) (pc' := 98) dX12_carriesFrom_96 rfl rfl ?_
    refine v_iald (pc' := 99) dX12_carriesFrom_98 rfl fun v3 => ?_
    refine v_icmpge (t := 173) (pc' := 102) dX12_carriesFrom_99 (by decide) rfl ?_ ?_
    · refine V.sub [0, 1, 2, 3] rfl ?_
      exact h_X12_carriesFrom_b173 g rec e he hrec a0 x1 x2 x3
    · refine v_iload (pc' := 104) 4 dX12_carriesFrom_102 rfl rfl ?_
      refine v_bipush (v := 8) (pc' := 106) dX12_carriesFrom_104 rfl rfl ?_
      refine v_icmpge (t := 173) (pc' := 109) dX12_carriesFrom_106 (by decide) rfl ?_ ?_
      · refine V.sub [0, 1, 2, 3] rfl ?_
        exact h_X12_carriesFrom_b173 g rec e he hrec a0 x1 x2 x3
      · refine v_iload_n (pc' := 110) 2 dX12_carriesFrom_109 rfl rfl rfl ?_
        refine v_iload (pc' := 112) 4 dX12_carriesFrom_110 rfl rfl ?_
        refine v_callS (vs := [.int x2, .int x5]) (pc' := 115) (h_X12_has g x2 x5) ms_X12_has wl_X12_246 (Nat.le_of_ble_eq_true rfl) (by omega) (by decide) (Nat.le_of_ble_eq_true rfl) rfl dX12_carriesFrom_112 rfl fun v4 => ?_
        refine v_ifne (t := 167) (pc' := 118) dX12_carriesFrom_115 (by decide) rfl ?_ ?_
        · refine V.sub [0, 1, 2, 3, 4] rfl ?_
          exact h_X12_carriesFrom_b167 g rec e he hrec (f_X12_carriesFrom_b90 rec n) ih a0 x1 x2 x3 x5
        · refine v_aload_n (pc' := 119) 0 dX12_carriesFrom_118 rfl rfl rfl ?_
          refine v_aload_n (pc' := 120) 0 dX12_carriesFrom_119 rfl rfl rfl ?_
          refine v_iload_n (pc' := 121) 1 dX12_carriesFrom_120 rfl rfl rfl ?_
          refine v_callV (vs := [.int x1]) (pc' := 124) (h_X12_faceOf g a0 x1) mv_X12_faceOf wl_X12_253 rfl (Nat.le_of_ble_eq_true rfl) (by omega) (by decide) (Nat.le_of_ble_eq_true rfl) rfl dX12_carriesFrom_121 rfl fun v5 => ?_
          refine v_aload_n (pc' := 125) 0 dX12_carriesFrom_124 rfl rfl rfl ?_
          refine v_getR (pc' := 128) fl_X12_61 dX12_carriesFrom_125 rfl fun r6 => ?_
          refine v_iload (pc' := 130) 4 dX12_carriesFrom_128 rfl rfl ?_
          refine v_iconst (v := 3) (pc' := 131) dX12_carriesFrom_130 rfl rfl ?_
          refine v_callS (vs := [rf g r6, .int x5, .int 3]) (pc' := 134) (h_X12_plateOf g r6 x5 3) ms_X12_plateOf wl_X12_263 (Nat.le_of_ble_eq_true rfl) (by omega) (by decide) (Nat.le_of_ble_eq_true rfl) rfl dX12_carriesFrom_131 rfl fun v7 => ?_
          refine v_callV (vs := [.int v5, .int v7]) (pc' := 137) (h_X12_isAlike g a0 v5 v7) mv_X12_isAlike wl_X12_311 rfl (Nat.le_of_ble_eq_true rfl) (by omega) (by decide) (Nat.le_of_ble_eq_true rfl) rfl dX12_carriesFrom_134 rfl fun v8 => ?_
          refine v_ifne (t := 143) (pc' := 140) dX12_carriesFrom_137 (by decide) rfl ?_ ?_
          · refine v_aload_n (pc' := 144) 0 dX12_carriesFrom_143 rfl rfl rfl ?_
            refine v_getR (pc' := 147) fl_X12_79 dX12_carriesFrom_144 rfl fun r9 => ?_
            refine v_iload_n (pc' := 148) 1 dX12_carriesFrom_147 rfl rfl rfl ?_
            refine v_iload (pc' := 150) 4 dX12_carriesFrom_148 rfl rfl ?_
            refine v_iast (pc' := 151) dX12_carriesFrom_150 rfl ?_
            refine v_aload_n (pc' := 152) 0 dX12_carriesFrom_151 rfl rfl rfl ?_
            refine v_iload_n (pc' := 153) 1 dX12_carriesFrom_152 rfl rfl rfl ?_
            refine v_iconst (v := 1) (pc' := 154) dX12_carriesFrom_153 rfl rfl ?_
            refine v_iadd (pc' := 155) dX12_carriesFrom_154 rfl ?_
            refine v_iload_n (pc' := 156) 2 dX12_carriesFrom_155 rfl rfl rfl ?_
            refine v_iconst (v := 1) (pc' := 157) dX12_carriesFrom_156 rfl rfl ?_
            refine v_iload (pc' := 159) 4 dX12_carriesFrom_157 rfl rfl ?_
            refine v_ishl (pc' := 160) dX12_carriesFrom_159 rfl ?_
            refine v_ior (pc' := 161) dX12_carriesFrom_160 rfl ?_
            refine v_iload_n (pc' := 162) 3 dX12_carriesFrom_161 rfl rfl rfl ?_
            refine v_iconst (v := 1) (pc' := 163) dX12_carriesFrom_162 rfl rfl ?_
            refine v_iadd (pc' := 164) dX12_carriesFrom_163 rfl ?_
            refine v_callV (vs := [.int (x1 + (1 : Int32)), .int (x2 ||| ((1 : Int32) <<< (x5 &&& 31))), .int (x3 + (1 : Int32))]) (pc' := 167) (hrec a0 (x1 + (1 : Int32)) (x2 ||| ((1 : Int32) <<< (x5 &&& 31))) (x3 + (1 : Int32))) mv_X12_carriesFrom wl_X12_355 rfl (Nat.le_of_ble_eq_true rfl) (by omega) (by decide) (Nat.le_of_ble_eq_true rfl) rfl dX12_carriesFrom_164 rfl fun _ => ?_
            refine V.sub [0, 1, 2, 3, 4] rfl ?_
            exact h_X12_carriesFrom_b167 g rec e he hrec (f_X12_carriesFrom_b90 rec n) ih a0 x1 x2 x3 x5
          · refine v_goto (t := 167) dX12_carriesFrom_140 (by decide) ?_
            refine V.sub [0, 1, 2, 3, 4] rfl ?_
            exact h_X12_carriesFrom_b167 g rec e he hrec (f_X12_carriesFrom_b90 rec n) ih a0 x1 x2 x3 x5
set_option maxRecDepth 20000 in
theorem h_X12_carriesFrom_b60 (g : GW) (rec : Nat → Int32 → Int32 → Int32 → Mo Unit) (e : Nat) (he : 9 ≤ e) (hrec : ∀ a0 x1 x2 x3, V g mX12_carriesFrom e rtU 0 [(0, rf g a0), (1, .int x1), (2, .int x2), (3, .int x3)] [] (rec a0 x1 x2 x3)) : ∀ n : Nat, ∀ a0 x1 x5, V g mX12_carriesFrom (e + 1) rtU 60 [(0, rf g a0), (1, .int x1), (5, .int x5)] [] (f_X12_carriesFrom_b60 rec n a0 x1 x5) := by
  intro n
  induction n with
  | zero => intro a0 x1 x5; exact V.vain
  | succ n ih =>
    intro a0 x1 x5
    unfold f_X12_carriesFrom_b60
    refine v_iload (pc' := 62) 2 dX12_carriesFrom_60 rfl rfl ?_
    refine v_iload_n (pc' := 63) 1 dX12_carriesFrom_62 rfl rfl rfl ?_
    refine v_icmpge (t := 86) (pc' := 66) dX12_carriesFrom_63 (by decide) rfl ?_ ?_
    · exact v_return rfl dX12_carriesFrom_86
    · refine v_aload_n (pc' := 67) 0 dX12_carriesFrom_66 rfl rfl rfl ?_
      refine v_getR (pc' := 70) fl_X12_82 dX12_carriesFrom_67 rfl fun r10 => ?_
      refine v_iload (pc' := 72) 2 dX12_carriesFrom_70 rfl rfl ?_
      refine v_aload_n (pc' := 73) 0 dX12_carriesFrom_72 rfl rfl rfl ?_
      refine v_getR (pc' := 76) fl_X12_79 dX12_carriesFrom_73 rfl fun r11 => ?_
      refine v_iload (pc' := 78) 2 dX12_carriesFrom_76 rfl rfl ?_
      refine v_iald (pc' := 79) dX12_carriesFrom_78 rfl fun v12 => ?_
      refine v_iast (pc' := 80) dX12_carriesFrom_79 rfl ?_
      refine v_iinc (v := x5 + 1) (lv' := [(5, .int (x5 + 1)), (0, rf g a0), (1, .int x1)]) (pc' := 83) 2 dX12_carriesFrom_80 rfl rfl (by decide) rfl rfl ?_
      refine v_goto (t := 60) dX12_carriesFrom_83 (by decide) ?_
      refine V.sub [1, 2, 0] rfl ?_
      exact ih a0 x1 (x5 + 1)
set_option maxRecDepth 20000 in
theorem h_X12_carriesFrom (g : GW) (rec : Nat → Int32 → Int32 → Int32 → Mo Unit) (e : Nat) (he : 9 ≤ e) (hrec : ∀ a0 x1 x2 x3, V g mX12_carriesFrom e rtU 0 [(0, rf g a0), (1, .int x1), (2, .int x2), (3, .int x3)] [] (rec a0 x1 x2 x3)) (a0 : Nat) (x1 : Int32) (x2 : Int32) (x3 : Int32) : V g mX12_carriesFrom (e + 1) rtU 0 [(0, rf g a0), (1, .int x1), (2, .int x2), (3, .int x3)] [] (f_X12_carriesFrom rec a0 x1 x2 x3) := by
  unfold f_X12_carriesFrom
  refine v_bipush (v := 8) (pc' := 2) dX12_carriesFrom_0 rfl rfl ?_
  refine v_aload_n (pc' := 3) 0 dX12_carriesFrom_2 rfl rfl rfl ?_
  refine v_getR (pc' := 6) fl_X12_61 dX12_carriesFrom_3 rfl fun r13 => ?_
  refine v_bipush (v := 24) (pc' := 8) dX12_carriesFrom_6 rfl rfl ?_
  refine v_iald (pc' := 9) dX12_carriesFrom_8 rfl fun v14 => ?_
  refine v_callS (vs := [.int 8, .int v14]) (pc' := 12) (h_X12_less g 8 v14) ms_X12_less wl_X12_227 (Nat.le_of_ble_eq_true rfl) (by omega) (by decide) (Nat.le_of_ble_eq_true rfl) rfl dX12_carriesFrom_9 rfl fun v15 => ?_
  refine v_iload_n (pc' := 13) 2 dX12_carriesFrom_12 rfl rfl rfl ?_
  refine v_callS (vs := [.int x2]) (pc' := 16) (h_X12_ones g x2) ms_X12_ones wl_X12_250 (Nat.le_of_ble_eq_true rfl) (by omega) (by decide) (Nat.le_of_ble_eq_true rfl) rfl dX12_carriesFrom_13 rfl fun v16 => ?_
  refine v_isub (pc' := 17) dX12_carriesFrom_16 rfl ?_
  refine v_istore (lv' := [(4, .int (v15 - v16)), (0, rf g a0), (1, .int x1), (2, .int x2), (3, .int x3)]) (pc' := 19) dX12_carriesFrom_17 (by decide) rfl rfl ?_
  refine v_iload_n (pc' := 20) 4 dX12_carriesFrom_19 rfl rfl rfl ?_
  refine v_aload_n (pc' := 21) 1 dX12_carriesFrom_20 rfl rfl rfl ?_
  refine v_getR (pc' := 24) fl_X12_23 dX12_carriesFrom_21 rfl fun r17 => ?_
  refine v_iconst (v := 0) (pc' := 25) dX12_carriesFrom_24 rfl rfl ?_
  refine v_iald (pc' := 26) dX12_carriesFrom_25 rfl fun v18 => ?_
  refine v_iload_n (pc' := 27) 2 dX12_carriesFrom_26 rfl rfl rfl ?_
  refine v_isub (pc' := 28) dX12_carriesFrom_27 rfl ?_
  refine v_iload (pc' := 30) 0 dX12_carriesFrom_28 rfl rfl ?_
  refine v_callS (vs := [.int (v18 - x1), .int (v15 - v16)]) (pc' := 33) (h_X12_less g (v18 - x1) (v15 - v16)) ms_X12_less wl_X12_227 (Nat.le_of_ble_eq_true rfl) (by omega) (by decide) (Nat.le_of_ble_eq_true rfl) rfl dX12_carriesFrom_30 rfl fun v19 => ?_
  refine v_iadd (pc' := 34) dX12_carriesFrom_33 rfl ?_
  refine v_aload_n (pc' := 35) 1 dX12_carriesFrom_34 rfl rfl rfl ?_
  refine v_getI (pc' := 38) fl_X12_352 dX12_carriesFrom_35 rfl fun v20 => ?_
  refine v_icmpgt (t := 42) (pc' := 41) dX12_carriesFrom_38 (by decide) rfl ?_ ?_
  · refine v_iload_n (pc' := 43) 2 dX12_carriesFrom_42 rfl rfl rfl ?_
    refine v_aload_n (pc' := 44) 1 dX12_carriesFrom_43 rfl rfl rfl ?_
    refine v_getR (pc' := 47) fl_X12_23 dX12_carriesFrom_44 rfl fun r21 => ?_
    refine v_iconst (v := 0) (pc' := 48) dX12_carriesFrom_47 rfl rfl ?_
    refine v_iald (pc' := 49) dX12_carriesFrom_48 rfl fun v22 => ?_
    refine v_icmpne (t := 87) (pc' := 52) dX12_carriesFrom_49 (by decide) rfl ?_ ?_
    · refine v_iconst (v := 0) (pc' := 88) dX12_carriesFrom_87 rfl rfl ?_
      refine v_istore (lv' := [(5, .int 0), (4, .int (v15 - v16)), (0, rf g a0), (1, .int x1), (2, .int x2), (3, .int x3)]) (pc' := 90) dX12_carriesFrom_88 (by decide) rfl rfl ?_
      refine V.sub [2, 3, 4, 5, 0] rfl ?_
      exact h_X12_carriesFrom_b90 g rec e he hrec NF a0 x1 x2 x3 0
    · refine v_aload_n (pc' := 53) 1 dX12_carriesFrom_52 rfl rfl rfl ?_
      refine v_iload_n (pc' := 54) 4 dX12_carriesFrom_53 rfl rfl rfl ?_
      refine v_put (v := (.int x3)) (v' := .int x3) (pc' := 57) fw_X12_352 rfl rfl rfl (fun h => nomatch h) dX12_carriesFrom_54 rfl ?_
      refine v_iconst (v := 0) (pc' := 58) dX12_carriesFrom_57 rfl rfl ?_
      refine v_istore (lv' := [(5, .int 0), (4, .int (v15 - v16)), (0, rf g a0), (1, .int x1), (2, .int x2), (3, .int x3)]) (pc' := 60) dX12_carriesFrom_58 (by decide) rfl rfl ?_
      refine V.sub [2, 3, 0] rfl ?_
      exact h_X12_carriesFrom_b60 g rec e he hrec NF a0 x1 0
  · exact v_return rfl dX12_carriesFrom_41
theorem H_X12_carriesFrom (g : GW) : ∀ (D : Nat) a0 x1 x2 x3, V g mX12_carriesFrom (9 + D * 1) rtU 0 [(0, rf g a0), (1, .int x1), (2, .int x2), (3, .int x3)] [] (F_X12_carriesFrom D a0 x1 x2 x3)
  | 0, _, _, _, _ => V.vain
  | D + 1, a0, x1, x2, x3 => by
    have h := h_X12_carriesFrom g (F_X12_carriesFrom D) (9 + D * 1) (Nat.le_add_right _ _) (fun a0 x1 x2 x3 => H_X12_carriesFrom g D a0 x1 x2 x3) a0 x1 x2 x3
    rw [show 9 + (D + 1) * 1 = 9 + D * 1 + 1 by omega]
    exact h
-- laysPapers
def f_X12_laysPapers (a0 : Nat) : Mo Unit := bd (pf 12 44 a0 (.int (-1))) fun _ => bd (cv 12 a0 (F_X12_carriesFrom 12 a0 0 0 0)) fun _ => pu ()
set_option maxRecDepth 20000 in
theorem h_X12_laysPapers (g : GW) (a0 : Nat) : V g mX12_laysPapers 22 rtU 0 [(0, rf g a0)] [] (f_X12_laysPapers a0) := by
  unfold f_X12_laysPapers
  refine v_aload_n (pc' := 1) 0 dX12_laysPapers_0 rfl rfl rfl ?_
  refine v_iconst (v := -1) (pc' := 2) dX12_laysPapers_1 rfl rfl ?_
  refine v_put (v := (.int (-1))) (v' := .int (-1)) (pc' := 5) fw_X12_352 rfl rfl rfl (fun h => nomatch h) dX12_laysPapers_2 rfl ?_
  refine v_aload_n (pc' := 6) 0 dX12_laysPapers_5 rfl rfl rfl ?_
  refine v_iconst (v := 0) (pc' := 7) dX12_laysPapers_6 rfl rfl ?_
  refine v_iconst (v := 0) (pc' := 8) dX12_laysPapers_7 rfl rfl ?_
  refine v_iconst (v := 0) (pc' := 9) dX12_laysPapers_8 rfl rfl ?_
  refine v_callV (vs := [.int 0, .int 0, .int 0]) (pc' := 12) (H_X12_carriesFrom g 12 a0 0 0 0) mv_X12_carriesFrom wl_X12_355 rfl (Nat.le_of_ble_eq_true rfl) (by omega) (by decide) (Nat.le_of_ble_eq_true rfl) rfl dX12_laysPapers_9 rfl fun _ => ?_
  exact v_return rfl dX12_laysPapers_12
-- papers
def f_X12_papers (a0 : Nat) : Mo Int32 := bd (pf 12 0 a0 (.int 0)) fun _ => bd (cv 12 a0 (f_X12_laysPapers a0)) fun _ => bd (gI 12 44 a0) fun v1 => pu v1
set_option maxRecDepth 20000 in
theorem h_X12_papers (g : GW) (a0 : Nat) : V g mX12_papers 23 rtI 0 [(0, rf g a0)] [] (f_X12_papers a0) := by
  unfold f_X12_papers
  refine v_aload_n (pc' := 1) 0 dX12_papers_0 rfl rfl rfl ?_
  refine v_iconst (v := 0) (pc' := 2) dX12_papers_1 rfl rfl ?_
  refine v_put (v := (.int 0)) (v' := .int 0) (pc' := 5) fw_X12_94 rfl rfl rfl (fun h => nomatch h) dX12_papers_2 rfl ?_
  refine v_aload_n (pc' := 6) 0 dX12_papers_5 rfl rfl rfl ?_
  refine v_callV (vs := []) (pc' := 9) (h_X12_laysPapers g a0) mv_X12_laysPapers wl_X12_359 rfl (Nat.le_of_ble_eq_true rfl) (by omega) (by decide) (Nat.le_of_ble_eq_true rfl) rfl dX12_papers_6 rfl fun _ => ?_
  refine v_aload_n (pc' := 10) 0 dX12_papers_9 rfl rfl rfl ?_
  refine v_getI (pc' := 13) fl_X12_352 dX12_papers_10 rfl fun v1 => ?_
  exact v_ireturn rfl dX12_papers_13
-- paper
def f_X12_paper_b19 (a0 : Nat) (x1 : Int32) (xs0 : Int32) (as1 : Nat) : Mo Int32 := bd (cv 12 as1 (f_X12_bad as1 xs0 1 0)) fun v1 => if (v1 = 0 : Prop) then (bd (cv 12 a0 (f_X12_laysPapers a0)) fun _ => bd (gR 12 43 a0) fun r2 => bd (al 0 r2 x1) fun v3 => pu v3) else pu 0
def f_X12_paper (a0 : Nat) (x1 : Int32) : Mo Int32 := bd (pf 12 0 a0 (.int 0)) fun _ => bd (cv 12 a0 (f_X12_isPerson a0 x1)) fun v4 => if (v4 = 0 : Prop) then (f_X12_paper_b19 a0 x1 1 a0) else f_X12_paper_b19 a0 x1 0 a0
set_option maxRecDepth 20000 in
theorem h_X12_paper_b19 (g : GW) (a0 : Nat) (x1 : Int32) (xs0 : Int32) (as1 : Nat) : V g mX12_paper 23 rtI 19 [(0, rf g a0), (1, .int x1)] [.int xs0, rf g as1] (f_X12_paper_b19 a0 x1 xs0 as1) := by
  unfold f_X12_paper_b19
  refine v_iconst (v := 1) (pc' := 20) dX12_paper_19 rfl rfl ?_
  refine v_iconst (v := 0) (pc' := 21) dX12_paper_20 rfl rfl ?_
  refine v_callV (vs := [.int xs0, .int 1, .int 0]) (pc' := 24) (h_X12_bad g as1 xs0 1 0) mv_X12_bad wl_X12_167 rfl (Nat.le_of_ble_eq_true rfl) (by omega) (by decide) (Nat.le_of_ble_eq_true rfl) rfl dX12_paper_21 rfl fun v1 => ?_
  refine v_ifeq (t := 29) (pc' := 27) dX12_paper_24 (by decide) rfl ?_ ?_
  · refine v_aload_n (pc' := 30) 0 dX12_paper_29 rfl rfl rfl ?_
    refine v_callV (vs := []) (pc' := 33) (h_X12_laysPapers g a0) mv_X12_laysPapers wl_X12_359 rfl (Nat.le_of_ble_eq_true rfl) (by omega) (by decide) (Nat.le_of_ble_eq_true rfl) rfl dX12_paper_30 rfl fun _ => ?_
    refine v_aload_n (pc' := 34) 0 dX12_paper_33 rfl rfl rfl ?_
    refine v_getR (pc' := 37) fl_X12_82 dX12_paper_34 rfl fun r2 => ?_
    refine v_iload_n (pc' := 38) 1 dX12_paper_37 rfl rfl rfl ?_
    refine v_iald (pc' := 39) dX12_paper_38 rfl fun v3 => ?_
    exact v_ireturn rfl dX12_paper_39
  · refine v_iconst (v := 0) (pc' := 28) dX12_paper_27 rfl rfl ?_
    exact v_ireturn rfl dX12_paper_28
set_option maxRecDepth 20000 in
theorem h_X12_paper (g : GW) (a0 : Nat) (x1 : Int32) : V g mX12_paper 23 rtI 0 [(0, rf g a0), (1, .int x1)] [] (f_X12_paper a0 x1) := by
  unfold f_X12_paper
  refine v_aload_n (pc' := 1) 0 dX12_paper_0 rfl rfl rfl ?_
  refine v_iconst (v := 0) (pc' := 2) dX12_paper_1 rfl rfl ?_
  refine v_put (v := (.int 0)) (v' := .int 0) (pc' := 5) fw_X12_94 rfl rfl rfl (fun h => nomatch h) dX12_paper_2 rfl ?_
  refine v_aload_n (pc' := 6) 0 dX12_paper_5 rfl rfl rfl ?_
  refine v_aload_n (pc' := 7) 0 dX12_paper_6 rfl rfl rfl ?_
  refine v_iload_n (pc' := 8) 1 dX12_paper_7 rfl rfl rfl ?_
  refine v_callV (vs := [.int x1]) (pc' := 11) (h_X12_isPerson g a0 x1) mv_X12_isPerson wl_X12_296 rfl (Nat.le_of_ble_eq_true rfl) (by omega) (by decide) (Nat.le_of_ble_eq_true rfl) rfl dX12_paper_8 rfl fun v4 => ?_
  refine v_ifne (t := 18) (pc' := 14) dX12_paper_11 (by decide) rfl ?_ ?_
  · refine v_iconst (v := 0) (pc' := 19) dX12_paper_18 rfl rfl ?_
    refine V.sub [0, 1] rfl ?_
    exact h_X12_paper_b19 g a0 x1 0 a0
  · refine v_iconst (v := 1) (pc' := 15) dX12_paper_14 rfl rfl ?_
    refine v_goto (t := 19) dX12_paper_15 (by decide) ?_
    refine V.sub [0, 1] rfl ?_
    exact h_X12_paper_b19 g a0 x1 1 a0
-- hasFirst
def f_X12_hasFirst (x0 : Int32) (x1 : Int32) (x2 : Int32) : Mo Int32 := if (x0 < x1 : Prop) then (pu 0) else pu (x2 - x1)
set_option maxRecDepth 20000 in
theorem h_X12_hasFirst (g : GW) (x0 : Int32) (x1 : Int32) (x2 : Int32) : V g mX12_hasFirst 8 rtI 0 [(0, .int x0), (1, .int x1), (2, .int x2)] [] (f_X12_hasFirst x0 x1 x2) := by
  unfold f_X12_hasFirst
  refine v_iload_n (pc' := 1) 0 dX12_hasFirst_0 rfl rfl rfl ?_
  refine v_iload_n (pc' := 2) 1 dX12_hasFirst_1 rfl rfl rfl ?_
  refine v_icmplt (t := 11) (pc' := 5) dX12_hasFirst_2 (by decide) rfl ?_ ?_
  · refine v_iconst (v := 0) (pc' := 12) dX12_hasFirst_11 rfl rfl ?_
    exact v_ireturn rfl dX12_hasFirst_12
  · refine v_iload_n (pc' := 6) 2 dX12_hasFirst_5 rfl rfl rfl ?_
    refine v_iload_n (pc' := 7) 1 dX12_hasFirst_6 rfl rfl rfl ?_
    refine v_isub (pc' := 8) dX12_hasFirst_7 rfl ?_
    refine v_goto (t := 12) dX12_hasFirst_8 (by decide) ?_
    exact v_ireturn rfl dX12_hasFirst_12
-- hasSecond
def f_X12_hasSecond (x0 : Int32) (x1 : Int32) (x2 : Int32) : Mo Int32 := if (x1 ≤ x0 : Prop) then (pu 0) else pu (x2 - x0)
set_option maxRecDepth 20000 in
theorem h_X12_hasSecond (g : GW) (x0 : Int32) (x1 : Int32) (x2 : Int32) : V g mX12_hasSecond 8 rtI 0 [(0, .int x0), (1, .int x1), (2, .int x2)] [] (f_X12_hasSecond x0 x1 x2) := by
  unfold f_X12_hasSecond
  refine v_iload_n (pc' := 1) 1 dX12_hasSecond_0 rfl rfl rfl ?_
  refine v_iload_n (pc' := 2) 0 dX12_hasSecond_1 rfl rfl rfl ?_
  refine v_icmple (t := 11) (pc' := 5) dX12_hasSecond_2 (by decide) rfl ?_ ?_
  · refine v_iconst (v := 0) (pc' := 12) dX12_hasSecond_11 rfl rfl ?_
    exact v_ireturn rfl dX12_hasSecond_12
  · refine v_iload_n (pc' := 6) 2 dX12_hasSecond_5 rfl rfl rfl ?_
    refine v_iload_n (pc' := 7) 0 dX12_hasSecond_6 rfl rfl rfl ?_
    refine v_isub (pc' := 8) dX12_hasSecond_7 rfl ?_
    refine v_goto (t := 12) dX12_hasSecond_8 (by decide) ?_
    exact v_ireturn rfl dX12_hasSecond_12
-- isRest
def f_X12_isRest_b3 : Nat → Int32 → Int32 → Int32 → Int32 → Int32 → Int32 → Mo Int32
  | 0, _, _, _, _, _, _ => fl
  | n + 1, x0, x1, x2, x3, x4, x5 => if (x2 < x5 : Prop) then (pu 1) else bd (f_X12_hasFirst x5 x1 x3) fun v1 => bd (f_X12_hasFirst x0 x1 x3) fun v2 => if (v2 < v1 : Prop) then (pu 0) else bd (f_X12_hasSecond x0 x5 x4) fun v3 => bd (f_X12_hasSecond x0 x1 x4) fun v4 => if (v3 ≤ v4 : Prop) then ((f_X12_isRest_b3 n) x0 x1 x2 x3 x4 (x5 + 1)) else pu 0
def f_X12_isRest (x0 : Int32) (x1 : Int32) (x2 : Int32) (x3 : Int32) (x4 : Int32) : Mo Int32 := f_X12_isRest_b3 NF x0 x1 x2 x3 x4 0
set_option maxRecDepth 20000 in
theorem h_X12_isRest_b3 (g : GW) : ∀ n : Nat, ∀ x0 x1 x2 x3 x4 x5, V g mX12_isRest 9 rtI 3 [(0, .int x0), (1, .int x1), (2, .int x2), (3, .int x3), (4, .int x4), (5, .int x5)] [] (f_X12_isRest_b3 n x0 x1 x2 x3 x4 x5) := by
  intro n
  induction n with
  | zero => intro x0 x1 x2 x3 x4 x5; exact V.vain
  | succ n ih =>
    intro x0 x1 x2 x3 x4 x5
    unfold f_X12_isRest_b3
    refine v_iload (pc' := 5) 5 dX12_isRest_3 rfl rfl ?_
    refine v_iload_n (pc' := 6) 2 dX12_isRest_5 rfl rfl rfl ?_
    refine v_icmpgt (t := 51) (pc' := 9) dX12_isRest_6 (by decide) rfl ?_ ?_
    · refine v_iconst (v := 1) (pc' := 52) dX12_isRest_51 rfl rfl ?_
      exact v_zret rfl rfl dX12_isRest_52
    · refine v_iload (pc' := 11) 5 dX12_isRest_9 rfl rfl ?_
      refine v_iload_n (pc' := 12) 1 dX12_isRest_11 rfl rfl rfl ?_
      refine v_iload_n (pc' := 13) 3 dX12_isRest_12 rfl rfl rfl ?_
      refine v_callS (vs := [.int x5, .int x1, .int x3]) (pc' := 16) (h_X12_hasFirst g x5 x1 x3) ms_X12_hasFirst wl_X12_362 (Nat.le_of_ble_eq_true rfl) (by omega) (by decide) (Nat.le_of_ble_eq_true rfl) rfl dX12_isRest_13 rfl fun v1 => ?_
      refine v_iload_n (pc' := 17) 0 dX12_isRest_16 rfl rfl rfl ?_
      refine v_iload_n (pc' := 18) 1 dX12_isRest_17 rfl rfl rfl ?_
      refine v_iload_n (pc' := 19) 3 dX12_isRest_18 rfl rfl rfl ?_
      refine v_callS (vs := [.int x0, .int x1, .int x3]) (pc' := 22) (h_X12_hasFirst g x0 x1 x3) ms_X12_hasFirst wl_X12_362 (Nat.le_of_ble_eq_true rfl) (by omega) (by decide) (Nat.le_of_ble_eq_true rfl) rfl dX12_isRest_19 rfl fun v2 => ?_
      refine v_icmpgt (t := 43) (pc' := 25) dX12_isRest_22 (by decide) rfl ?_ ?_
      · refine v_iconst (v := 0) (pc' := 44) dX12_isRest_43 rfl rfl ?_
        exact v_zret rfl rfl dX12_isRest_44
      · refine v_iload_n (pc' := 26) 0 dX12_isRest_25 rfl rfl rfl ?_
        refine v_iload (pc' := 28) 5 dX12_isRest_26 rfl rfl ?_
        refine v_iload (pc' := 30) 4 dX12_isRest_28 rfl rfl ?_
        refine v_callS (vs := [.int x0, .int x5, .int x4]) (pc' := 33) (h_X12_hasSecond g x0 x5 x4) ms_X12_hasSecond wl_X12_365 (Nat.le_of_ble_eq_true rfl) (by omega) (by decide) (Nat.le_of_ble_eq_true rfl) rfl dX12_isRest_30 rfl fun v3 => ?_
        refine v_iload_n (pc' := 34) 0 dX12_isRest_33 rfl rfl rfl ?_
        refine v_iload_n (pc' := 35) 1 dX12_isRest_34 rfl rfl rfl ?_
        refine v_iload (pc' := 37) 4 dX12_isRest_35 rfl rfl ?_
        refine v_callS (vs := [.int x0, .int x1, .int x4]) (pc' := 40) (h_X12_hasSecond g x0 x1 x4) ms_X12_hasSecond wl_X12_365 (Nat.le_of_ble_eq_true rfl) (by omega) (by decide) (Nat.le_of_ble_eq_true rfl) rfl dX12_isRest_37 rfl fun v4 => ?_
        refine v_icmple (t := 45) (pc' := 43) dX12_isRest_40 (by decide) rfl ?_ ?_
        · refine v_iinc (v := x5 + 1) (lv' := [(5, .int (x5 + 1)), (0, .int x0), (1, .int x1), (2, .int x2), (3, .int x3), (4, .int x4)]) (pc' := 48) 5 dX12_isRest_45 rfl rfl (by decide) rfl rfl ?_
          refine v_goto (t := 3) dX12_isRest_48 (by decide) ?_
          refine V.sub [1, 2, 3, 4, 5, 0] rfl ?_
          exact ih x0 x1 x2 x3 x4 (x5 + 1)
        · refine v_iconst (v := 0) (pc' := 44) dX12_isRest_43 rfl rfl ?_
          exact v_zret rfl rfl dX12_isRest_44
set_option maxRecDepth 20000 in
theorem h_X12_isRest (g : GW) (x0 : Int32) (x1 : Int32) (x2 : Int32) (x3 : Int32) (x4 : Int32) : V g mX12_isRest 9 rtI 0 [(0, .int x0), (1, .int x1), (2, .int x2), (3, .int x3), (4, .int x4)] [] (f_X12_isRest x0 x1 x2 x3 x4) := by
  unfold f_X12_isRest
  refine v_iconst (v := 0) (pc' := 1) dX12_isRest_0 rfl rfl ?_
  refine v_istore (lv' := [(5, .int 0), (0, .int x0), (1, .int x1), (2, .int x2), (3, .int x3), (4, .int x4)]) (pc' := 3) dX12_isRest_1 (by decide) rfl rfl ?_
  refine V.sub [1, 2, 3, 4, 5, 0] rfl ?_
  exact h_X12_isRest_b3 g NF x0 x1 x2 x3 x4 0
-- bids
def f_X12_bids_b156 (k73 : Int32 → Int32 → Int32 → Int32 → Int32 → Int32 → Int32 → Int32 → Mo Int32) (k82 : Int32 → Int32 → Int32 → Int32 → Int32 → Int32 → Int32 → Int32 → Int32 → Mo Int32) (x1 : Int32) (x2 : Int32) (x3 : Int32) (x4 : Int32) (x5 : Int32) (x6 : Int32) (x7 : Int32) (x8 : Int32) (x9 : Int32) : Mo Int32 := k82 x1 x2 x3 x4 x5 x6 x7 x8 (x9 + 1)
def f_X12_bids_b151 (k73 : Int32 → Int32 → Int32 → Int32 → Int32 → Int32 → Int32 → Int32 → Mo Int32) (k82 : Int32 → Int32 → Int32 → Int32 → Int32 → Int32 → Int32 → Int32 → Int32 → Mo Int32) (x1 : Int32) (x2 : Int32) (x3 : Int32) (x4 : Int32) (x5 : Int32) (x6 : Int32) (x8 : Int32) (x9 : Int32) (xs0 : Int32) : Mo Int32 := f_X12_bids_b156 k73 k82 x1 x2 x3 x4 (x5 + 1) x6 xs0 x8 x9
def f_X12_bids_b122 (k73 : Int32 → Int32 → Int32 → Int32 → Int32 → Int32 → Int32 → Int32 → Mo Int32) (k82 : Int32 → Int32 → Int32 → Int32 → Int32 → Int32 → Int32 → Int32 → Int32 → Mo Int32) (x1 : Int32) (x2 : Int32) (x3 : Int32) (x4 : Int32) (x5 : Int32) (x7 : Int32) (x8 : Int32) (x9 : Int32) (xs0 : Int32) : Mo Int32 := if (x5 = 0 : Prop) then (bd (f_X12_hasFirst x8 x9 x2) fun v1 => bd (f_X12_hasSecond x8 x9 x3) fun v2 => f_X12_bids_b151 k73 k82 x1 x2 x3 x4 x5 xs0 x8 x9 (v1 + v2)) else f_X12_bids_b151 k73 k82 x1 x2 x3 x4 x5 xs0 x8 x9 x7
def f_X12_bids_b82 (k73 : Int32 → Int32 → Int32 → Int32 → Int32 → Int32 → Int32 → Int32 → Mo Int32) : Nat → Int32 → Int32 → Int32 → Int32 → Int32 → Int32 → Int32 → Int32 → Int32 → Mo Int32
  | 0, _, _, _, _, _, _, _, _, _ => fl
  | n + 1, x1, x2, x3, x4, x5, x6, x7, x8, x9 => if (x1 < x9 : Prop) then (k73 x1 x2 x3 x4 x5 x6 x7 (x8 + 1)) else bd (f_X12_isRest x8 x9 x1 x2 x3) fun v3 => if (v3 = 0 : Prop) then (f_X12_bids_b156 k73 (f_X12_bids_b82 k73 n) x1 x2 x3 x4 x5 x6 x7 x8 x9) else if (x5 = 0 : Prop) then (f_X12_bids_b122 k73 (f_X12_bids_b82 k73 n) x1 x2 x3 x4 x5 x7 x8 x9 (((10 : Int32) * x8) + x9)) else f_X12_bids_b122 k73 (f_X12_bids_b82 k73 n) x1 x2 x3 x4 x5 x7 x8 x9 x6
def f_X12_bids_b73 : Nat → Int32 → Int32 → Int32 → Int32 → Int32 → Int32 → Int32 → Int32 → Mo Int32
  | 0, _, _, _, _, _, _, _, _ => fl
  | n + 1, x1, x2, x3, x4, x5, x6, x7, x8 => if (x1 < x8 : Prop) then (if (x4 = 0 : Prop) then (pu x5) else if (x4 = 1 : Prop) then (pu x6) else pu x7) else f_X12_bids_b82 (f_X12_bids_b73 n) NF x1 x2 x3 x4 x5 x6 x7 x8 0
def f_X12_bids_b51 (x1 : Int32) (x2 : Int32) (x3 : Int32) (x4 : Int32) (xs0 : Int32) (as1 : Nat) : Mo Int32 := bd (cv 12 as1 (f_X12_bad as1 xs0 1 1)) fun v4 => if (v4 = 0 : Prop) then (f_X12_bids_b73 NF x1 x2 x3 x4 0 (-1) 0 0) else pu 0
def f_X12_bids_b46 (x1 : Int32) (x2 : Int32) (x3 : Int32) (x4 : Int32) (as0 : Nat) : Mo Int32 := f_X12_bids_b51 x1 x2 x3 x4 1 as0
def f_X12_bids (a0 : Nat) (x1 : Int32) (x2 : Int32) (x3 : Int32) (x4 : Int32) : Mo Int32 := bd (pf 12 0 a0 (.int 0)) fun _ => bd (f_X12_in x1 0 9) fun v5 => if (v5 = 0 : Prop) then (f_X12_bids_b46 x1 x2 x3 x4 a0) else bd (f_X12_in x2 0 40) fun v6 => if (v6 = 0 : Prop) then (f_X12_bids_b46 x1 x2 x3 x4 a0) else bd (f_X12_in x3 0 40) fun v7 => if (v7 = 0 : Prop) then (f_X12_bids_b46 x1 x2 x3 x4 a0) else bd (f_X12_in x4 0 2) fun v8 => if (v8 = 0 : Prop) then (f_X12_bids_b46 x1 x2 x3 x4 a0) else f_X12_bids_b51 x1 x2 x3 x4 0 a0
set_option maxRecDepth 20000 in
theorem h_X12_bids_b156 (g : GW) (k73 : Int32 → Int32 → Int32 → Int32 → Int32 → Int32 → Int32 → Int32 → Mo Int32) (k82 : Int32 → Int32 → Int32 → Int32 → Int32 → Int32 → Int32 → Int32 → Int32 → Mo Int32) (hk73 : ∀ x1 x2 x3 x4 x5 x6 x7 x8, V g mX12_bids 10 rtI 73 [(1, .int x1), (2, .int x2), (3, .int x3), (4, .int x4), (5, .int x5), (6, .int x6), (7, .int x7), (8, .int x8)] [] (k73 x1 x2 x3 x4 x5 x6 x7 x8)) (hk82 : ∀ x1 x2 x3 x4 x5 x6 x7 x8 x9, V g mX12_bids 10 rtI 82 [(1, .int x1), (2, .int x2), (3, .int x3), (4, .int x4), (5, .int x5), (6, .int x6), (7, .int x7), (8, .int x8), (9, .int x9)] [] (k82 x1 x2 x3 x4 x5 x6 x7 x8 x9)) (x1 : Int32) (x2 : Int32) (x3 : Int32) (x4 : Int32) (x5 : Int32) (x6 : Int32) (x7 : Int32) (x8 : Int32) (x9 : Int32) : V g mX12_bids 10 rtI 156 [(1, .int x1), (2, .int x2), (3, .int x3), (4, .int x4), (5, .int x5), (6, .int x6), (7, .int x7), (8, .int x8), (9, .int x9)] [] (f_X12_bids_b156 k73 k82 x1 x2 x3 x4 x5 x6 x7 x8 x9) := by
  unfold f_X12_bids_b156
  refine v_iinc (v := x9 + 1) (lv' := [(9, .int (x9 + 1)), (1, .int x1), (2, .int x2), (3, .int x3), (4, .int x4), (5, .int x5), (6, .int x6), (7, .int x7), (8, .int x8)]) (pc' := 159) 8 dX12_bids_156 rfl rfl (by decide) rfl rfl ?_
  refine v_goto (t := 82) dX12_bids_159 (by decide) ?_
  refine V.sub [1, 2, 3, 4, 5, 6, 7, 8, 0] rfl ?_
  exact hk82 x1 x2 x3 x4 x5 x6 x7 x8 (x9 + 1)
set_option maxRecDepth 20000 in
theorem h_X12_bids_b151 (g : GW) (k73 : Int32 → Int32 → Int32 → Int32 → Int32 → Int32 → Int32 → Int32 → Mo Int32) (k82 : Int32 → Int32 → Int32 → Int32 → Int32 → Int32 → Int32 → Int32 → Int32 → Mo Int32) (hk73 : ∀ x1 x2 x3 x4 x5 x6 x7 x8, V g mX12_bids 10 rtI 73 [(1, .int x1), (2, .int x2), (3, .int x3), (4, .int x4), (5, .int x5), (6, .int x6), (7, .int x7), (8, .int x8)] [] (k73 x1 x2 x3 x4 x5 x6 x7 x8)) (hk82 : ∀ x1 x2 x3 x4 x5 x6 x7 x8 x9, V g mX12_bids 10 rtI 82 [(1, .int x1), (2, .int x2), (3, .int x3), (4, .int x4), (5, .int x5), (6, .int x6), (7, .int x7), (8, .int x8), (9, .int x9)] [] (k82 x1 x2 x3 x4 x5 x6 x7 x8 x9)) (x1 : Int32) (x2 : Int32) (x3 : Int32) (x4 : Int32) (x5 : Int32) (x6 : Int32) (x8 : Int32) (x9 : Int32) (xs0 : Int32) : V g mX12_bids 10 rtI 151 [(1, .int x1), (2, .int x2), (3, .int x3), (4, .int x4), (5, .int x5), (6, .int x6), (8, .int x8), (9, .int x9)] [.int xs0] (f_X12_bids_b151 k73 k82 x1 x2 x3 x4 x5 x6 x8 x9 xs0) := by
  unfold f_X12_bids_b151
  refine v_istore (lv' := [(7, .int xs0), (1, .int x1), (2, .int x2), (3, .int x3), (4, .int x4), (5, .int x5), (6, .int x6), (8, .int x8), (9, .int x9)]) (pc' := 153) dX12_bids_151 (by decide) rfl rfl ?_
  refine v_iinc (v := x5 + 1) (lv' := [(5, .int (x5 + 1)), (7, .int xs0), (1, .int x1), (2, .int x2), (3, .int x3), (4, .int x4), (6, .int x6), (8, .int x8), (9, .int x9)]) (pc' := 156) 5 dX12_bids_153 rfl rfl (by decide) rfl rfl ?_
  refine V.sub [2, 3, 4, 5, 0, 6, 1, 7, 8] rfl ?_
  exact h_X12_bids_b156 g k73 k82 hk73 hk82 x1 x2 x3 x4 (x5 + 1) x6 xs0 x8 x9
set_option maxRecDepth 20000 in
theorem h_X12_bids_b122 (g : GW) (k73 : Int32 → Int32 → Int32 → Int32 → Int32 → Int32 → Int32 → Int32 → Mo Int32) (k82 : Int32 → Int32 → Int32 → Int32 → Int32 → Int32 → Int32 → Int32 → Int32 → Mo Int32) (hk73 : ∀ x1 x2 x3 x4 x5 x6 x7 x8, V g mX12_bids 10 rtI 73 [(1, .int x1), (2, .int x2), (3, .int x3), (4, .int x4), (5, .int x5), (6, .int x6), (7, .int x7), (8, .int x8)] [] (k73 x1 x2 x3 x4 x5 x6 x7 x8)) (hk82 : ∀ x1 x2 x3 x4 x5 x6 x7 x8 x9, V g mX12_bids 10 rtI 82 [(1, .int x1), (2, .int x2), (3, .int x3), (4, .int x4), (5, .int x5), (6, .int x6), (7, .int x7), (8, .int x8), (9, .int x9)] [] (k82 x1 x2 x3 x4 x5 x6 x7 x8 x9)) (x1 : Int32) (x2 : Int32) (x3 : Int32) (x4 : Int32) (x5 : Int32) (x7 : Int32) (x8 : Int32) (x9 : Int32) (xs0 : Int32) : V g mX12_bids 10 rtI 122 [(1, .int x1), (2, .int x2), (3, .int x3), (4, .int x4), (5, .int x5), (7, .int x7), (8, .int x8), (9, .int x9)] [.int xs0] (f_X12_bids_b122 k73 k82 x1 x2 x3 x4 x5 x7 x8 x9 xs0) := by
  unfold f_X12_bids_b122
  refine v_istore (lv' := [(6, .int xs0), (1, .int x1), (2, .int x2), (3, .int x3), (4, .int x4), (5, .int x5), (7, .int x7), (8, .int x8), (9, .int x9)]) (pc' := 124) dX12_bids_122 (by decide) rfl rfl ?_
  refine v_iload (pc' := 126) 5 dX12_bids_124 rfl rfl ?_
  refine v_ifne (t := 149) (pc' := 129) dX12_bids_126 (by decide) rfl ?_ ?_
  · refine v_iload (pc' := 151) 6 dX12_bids_149 rfl rfl ?_
    refine V.sub [1, 2, 3, 4, 5, 0, 7, 8] rfl ?_
    exact h_X12_bids_b151 g k73 k82 hk73 hk82 x1 x2 x3 x4 x5 xs0 x8 x9 x7
  · refine v_iload (pc' := 131) 7 dX12_bids_129 rfl rfl ?_
    refine v_iload (pc' := 133) 8 dX12_bids_131 rfl rfl ?_
    refine v_iload_n (pc' := 134) 2 dX12_bids_133 rfl rfl rfl ?_
    refine v_callS (vs := [.int x8, .int x9, .int x2]) (pc' := 137) (h_X12_hasFirst g x8 x9 x2) ms_X12_hasFirst wl_X12_362 (Nat.le_of_ble_eq_true rfl) (by omega) (by decide) (Nat.le_of_ble_eq_true rfl) rfl dX12_bids_134 rfl fun v1 => ?_
    refine v_iload (pc' := 139) 7 dX12_bids_137 rfl rfl ?_
    refine v_iload (pc' := 141) 8 dX12_bids_139 rfl rfl ?_
    refine v_iload_n (pc' := 142) 3 dX12_bids_141 rfl rfl rfl ?_
    refine v_callS (vs := [.int x8, .int x9, .int x3]) (pc' := 145) (h_X12_hasSecond g x8 x9 x3) ms_X12_hasSecond wl_X12_365 (Nat.le_of_ble_eq_true rfl) (by omega) (by decide) (Nat.le_of_ble_eq_true rfl) rfl dX12_bids_142 rfl fun v2 => ?_
    refine v_iadd (pc' := 146) dX12_bids_145 rfl ?_
    refine v_goto (t := 151) dX12_bids_146 (by decide) ?_
    refine V.sub [1, 2, 3, 4, 5, 0, 7, 8] rfl ?_
    exact h_X12_bids_b151 g k73 k82 hk73 hk82 x1 x2 x3 x4 x5 xs0 x8 x9 (v1 + v2)
set_option maxRecDepth 20000 in
theorem h_X12_bids_b82 (g : GW) (k73 : Int32 → Int32 → Int32 → Int32 → Int32 → Int32 → Int32 → Int32 → Mo Int32) (hk73 : ∀ x1 x2 x3 x4 x5 x6 x7 x8, V g mX12_bids 10 rtI 73 [(1, .int x1), (2, .int x2), (3, .int x3), (4, .int x4), (5, .int x5), (6, .int x6), (7, .int x7), (8, .int x8)] [] (k73 x1 x2 x3 x4 x5 x6 x7 x8)) : ∀ n : Nat, ∀ x1 x2 x3 x4 x5 x6 x7 x8 x9, V g mX12_bids 10 rtI 82 [(1, .int x1), (2, .int x2), (3, .int x3), (4, .int x4), (5, .int x5), (6, .int x6), (7, .int x7), (8, .int x8), (9, .int x9)] [] (f_X12_bids_b82 k73 n x1 x2 x3 x4 x5 x6 x7 x8 x9) := by
  intro n
  induction n with
  | zero => intro x1 x2 x3 x4 x5 x6 x7 x8 x9; exact V.vain
  | succ n ih =>
    intro x1 x2 x3 x4 x5 x6 x7 x8 x9
    unfold f_X12_bids_b82
    refine v_iload (pc' := 84) 8 dX12_bids_82 rfl rfl ?_
    refine v_iload_n (pc' := 85) 0 dX12_bids_84 rfl rfl rfl ?_
    refine v_icmpgt (t := 162) (pc' := 88) dX12_bids_85 (by decide) rfl ?_ ?_
    · refine v_iinc (v := x8 + 1) (lv' := [(8, .int (x8 + 1)), (1, .int x1), (2, .int x2), (3, .int x3), (4, .int x4), (5, .int x5), (6, .int x6), (7, .int x7), (9, .int x9)]) (pc' := 165) 7 dX12_bids_162 rfl rfl (by decide) rfl rfl ?_
      refine v_goto (t := 73) dX12_bids_165 (by decide) ?_
      refine V.sub [1, 2, 3, 4, 5, 6, 7, 0] rfl ?_
      exact hk73 x1 x2 x3 x4 x5 x6 x7 (x8 + 1)
    · refine v_iload (pc' := 90) 7 dX12_bids_88 rfl rfl ?_
      refine v_iload (pc' := 92) 8 dX12_bids_90 rfl rfl ?_
      refine v_iload_n (pc' := 93) 0 dX12_bids_92 rfl rfl rfl ?_
      refine v_iload_n (pc' := 94) 1 dX12_bids_93 rfl rfl rfl ?_
      refine v_iload_n (pc' := 95) 2 dX12_bids_94 rfl rfl rfl ?_
      refine v_callS (vs := [.int x8, .int x9, .int x1, .int x2, .int x3]) (pc' := 98) (h_X12_isRest g x8 x9 x1 x2 x3) ms_X12_isRest wl_X12_368 (Nat.le_of_ble_eq_true rfl) (by omega) (by decide) (Nat.le_of_ble_eq_true rfl) rfl dX12_bids_95 rfl fun v3 => ?_
      refine v_ifne (t := 104) (pc' := 101) dX12_bids_98 (by decide) rfl ?_ ?_
      · refine v_iload (pc' := 106) 4 dX12_bids_104 rfl rfl ?_
        refine v_ifne (t := 120) (pc' := 109) dX12_bids_106 (by decide) rfl ?_ ?_
        · refine v_iload (pc' := 122) 5 dX12_bids_120 rfl rfl ?_
          refine V.sub [0, 1, 2, 3, 4, 6, 7, 8] rfl ?_
          exact h_X12_bids_b122 g k73 (f_X12_bids_b82 k73 n) hk73 ih x1 x2 x3 x4 x5 x7 x8 x9 x6
        · refine v_bipush (v := 10) (pc' := 111) dX12_bids_109 rfl rfl ?_
          refine v_iload (pc' := 113) 7 dX12_bids_111 rfl rfl ?_
          refine v_imul (pc' := 114) dX12_bids_113 rfl ?_
          refine v_iload (pc' := 116) 8 dX12_bids_114 rfl rfl ?_
          refine v_iadd (pc' := 117) dX12_bids_116 rfl ?_
          refine v_goto (t := 122) dX12_bids_117 (by decide) ?_
          refine V.sub [0, 1, 2, 3, 4, 6, 7, 8] rfl ?_
          exact h_X12_bids_b122 g k73 (f_X12_bids_b82 k73 n) hk73 ih x1 x2 x3 x4 x5 x7 x8 x9 (((10 : Int32) * x8) + x9)
      · refine v_goto (t := 156) dX12_bids_101 (by decide) ?_
        refine V.sub [0, 1, 2, 3, 4, 5, 6, 7, 8] rfl ?_
        exact h_X12_bids_b156 g k73 (f_X12_bids_b82 k73 n) hk73 ih x1 x2 x3 x4 x5 x6 x7 x8 x9
set_option maxRecDepth 20000 in
theorem h_X12_bids_b73 (g : GW) : ∀ n : Nat, ∀ x1 x2 x3 x4 x5 x6 x7 x8, V g mX12_bids 10 rtI 73 [(1, .int x1), (2, .int x2), (3, .int x3), (4, .int x4), (5, .int x5), (6, .int x6), (7, .int x7), (8, .int x8)] [] (f_X12_bids_b73 n x1 x2 x3 x4 x5 x6 x7 x8) := by
  intro n
  induction n with
  | zero => intro x1 x2 x3 x4 x5 x6 x7 x8; exact V.vain
  | succ n ih =>
    intro x1 x2 x3 x4 x5 x6 x7 x8
    unfold f_X12_bids_b73
    refine v_iload (pc' := 75) 7 dX12_bids_73 rfl rfl ?_
    refine v_iload_n (pc' := 76) 0 dX12_bids_75 rfl rfl rfl ?_
    refine v_icmpgt (t := 168) (pc' := 79) dX12_bids_76 (by decide) rfl ?_ ?_
    · refine v_iload (pc' := 170) 3 dX12_bids_168 rfl rfl ?_
      refine v_ifne (t := 178) (pc' := 173) dX12_bids_170 (by decide) rfl ?_ ?_
      · refine v_iload (pc' := 180) 3 dX12_bids_178 rfl rfl ?_
        refine v_iconst (v := 1) (pc' := 181) dX12_bids_180 rfl rfl ?_
        refine v_icmpne (t := 189) (pc' := 184) dX12_bids_181 (by decide) rfl ?_ ?_
        · refine v_iload (pc' := 191) 6 dX12_bids_189 rfl rfl ?_
          exact v_ireturn rfl dX12_bids_191
        · refine v_iload (pc' := 186) 5 dX12_bids_184 rfl rfl ?_
          refine v_goto (t := 191) dX12_bids_186 (by decide) ?_
          exact v_ireturn rfl dX12_bids_191
      · refine v_iload (pc' := 175) 4 dX12_bids_173 rfl rfl ?_
        refine v_goto (t := 191) dX12_bids_175 (by decide) ?_
        exact v_ireturn rfl dX12_bids_191
    · refine v_iconst (v := 0) (pc' := 80) dX12_bids_79 rfl rfl ?_
      refine v_istore (lv' := [(9, .int 0), (1, .int x1), (2, .int x2), (3, .int x3), (4, .int x4), (5, .int x5), (6, .int x6), (7, .int x7), (8, .int x8)]) (pc' := 82) dX12_bids_80 (by decide) rfl rfl ?_
      refine V.sub [1, 2, 3, 4, 5, 6, 7, 8, 0] rfl ?_
      exact h_X12_bids_b82 g (f_X12_bids_b73 n) ih NF x1 x2 x3 x4 x5 x6 x7 x8 0
set_option maxRecDepth 20000 in
theorem h_X12_bids_b51 (g : GW) (x1 : Int32) (x2 : Int32) (x3 : Int32) (x4 : Int32) (xs0 : Int32) (as1 : Nat) : V g mX12_bids 10 rtI 51 [(1, .int x1), (2, .int x2), (3, .int x3), (4, .int x4)] [.int xs0, rf g as1] (f_X12_bids_b51 x1 x2 x3 x4 xs0 as1) := by
  unfold f_X12_bids_b51
  refine v_iconst (v := 1) (pc' := 52) dX12_bids_51 rfl rfl ?_
  refine v_iconst (v := 1) (pc' := 53) dX12_bids_52 rfl rfl ?_
  refine v_callV (vs := [.int xs0, .int 1, .int 1]) (pc' := 56) (h_X12_bad g as1 xs0 1 1) mv_X12_bad wl_X12_167 rfl (Nat.le_of_ble_eq_true rfl) (by omega) (by decide) (Nat.le_of_ble_eq_true rfl) rfl dX12_bids_53 rfl fun v4 => ?_
  refine v_ifeq (t := 61) (pc' := 59) dX12_bids_56 (by decide) rfl ?_ ?_
  · refine v_iconst (v := 0) (pc' := 62) dX12_bids_61 rfl rfl ?_
    refine v_istore (lv' := [(5, .int 0), (1, .int x1), (2, .int x2), (3, .int x3), (4, .int x4)]) (pc' := 64) dX12_bids_62 (by decide) rfl rfl ?_
    refine v_iconst (v := -1) (pc' := 65) dX12_bids_64 rfl rfl ?_
    refine v_istore (lv' := [(6, .int (-1)), (5, .int 0), (1, .int x1), (2, .int x2), (3, .int x3), (4, .int x4)]) (pc' := 67) dX12_bids_65 (by decide) rfl rfl ?_
    refine v_iconst (v := 0) (pc' := 68) dX12_bids_67 rfl rfl ?_
    refine v_istore (lv' := [(7, .int 0), (6, .int (-1)), (5, .int 0), (1, .int x1), (2, .int x2), (3, .int x3), (4, .int x4)]) (pc' := 70) dX12_bids_68 (by decide) rfl rfl ?_
    refine v_iconst (v := 0) (pc' := 71) dX12_bids_70 rfl rfl ?_
    refine v_istore (lv' := [(8, .int 0), (7, .int 0), (6, .int (-1)), (5, .int 0), (1, .int x1), (2, .int x2), (3, .int x3), (4, .int x4)]) (pc' := 73) dX12_bids_71 (by decide) rfl rfl ?_
    refine V.sub [4, 5, 6, 7, 3, 2, 1, 0] rfl ?_
    exact h_X12_bids_b73 g NF x1 x2 x3 x4 0 (-1) 0 0
  · refine v_iconst (v := 0) (pc' := 60) dX12_bids_59 rfl rfl ?_
    exact v_ireturn rfl dX12_bids_60
set_option maxRecDepth 20000 in
theorem h_X12_bids_b46 (g : GW) (x1 : Int32) (x2 : Int32) (x3 : Int32) (x4 : Int32) (as0 : Nat) : V g mX12_bids 10 rtI 46 [(1, .int x1), (2, .int x2), (3, .int x3), (4, .int x4)] [rf g as0] (f_X12_bids_b46 x1 x2 x3 x4 as0) := by
  unfold f_X12_bids_b46
  refine v_iconst (v := 1) (pc' := 47) dX12_bids_46 rfl rfl ?_
  refine v_goto (t := 51) dX12_bids_47 (by decide) ?_
  refine V.sub [0, 1, 2, 3] rfl ?_
  exact h_X12_bids_b51 g x1 x2 x3 x4 1 as0
set_option maxRecDepth 20000 in
theorem h_X12_bids (g : GW) (a0 : Nat) (x1 : Int32) (x2 : Int32) (x3 : Int32) (x4 : Int32) : V g mX12_bids 10 rtI 0 [(0, rf g a0), (1, .int x1), (2, .int x2), (3, .int x3), (4, .int x4)] [] (f_X12_bids a0 x1 x2 x3 x4) := by
  unfold f_X12_bids
  refine v_aload_n (pc' := 1) 0 dX12_bids_0 rfl rfl rfl ?_
  refine v_iconst (v := 0) (pc' := 2) dX12_bids_1 rfl rfl ?_
  refine v_put (v := (.int 0)) (v' := .int 0) (pc' := 5) fw_X12_94 rfl rfl rfl (fun h => nomatch h) dX12_bids_2 rfl ?_
  refine v_aload_n (pc' := 6) 0 dX12_bids_5 rfl rfl rfl ?_
  refine v_iload_n (pc' := 7) 1 dX12_bids_6 rfl rfl rfl ?_
  refine v_iconst (v := 0) (pc' := 8) dX12_bids_7 rfl rfl ?_
  refine v_bipush (v := 9) (pc' := 10) dX12_bids_8 rfl rfl ?_
  refine v_callS (vs := [.int x1, .int 0, .int 9]) (pc' := 13) (h_X12_in g x1 0 9) ms_X12_in wl_X12_128 (Nat.le_of_ble_eq_true rfl) (by omega) (by decide) (Nat.le_of_ble_eq_true rfl) rfl dX12_bids_10 rfl fun v5 => ?_
  refine v_ifeq (t := 46) (pc' := 16) dX12_bids_13 (by decide) rfl ?_ ?_
  · refine V.sub [1, 2, 3, 4] rfl ?_
    exact h_X12_bids_b46 g x1 x2 x3 x4 a0
  · refine v_iload_n (pc' := 17) 2 dX12_bids_16 rfl rfl rfl ?_
    refine v_iconst (v := 0) (pc' := 18) dX12_bids_17 rfl rfl ?_
    refine v_bipush (v := 40) (pc' := 20) dX12_bids_18 rfl rfl ?_
    refine v_callS (vs := [.int x2, .int 0, .int 40]) (pc' := 23) (h_X12_in g x2 0 40) ms_X12_in wl_X12_128 (Nat.le_of_ble_eq_true rfl) (by omega) (by decide) (Nat.le_of_ble_eq_true rfl) rfl dX12_bids_20 rfl fun v6 => ?_
    refine v_ifeq (t := 46) (pc' := 26) dX12_bids_23 (by decide) rfl ?_ ?_
    · refine V.sub [1, 2, 3, 4] rfl ?_
      exact h_X12_bids_b46 g x1 x2 x3 x4 a0
    · refine v_iload_n (pc' := 27) 3 dX12_bids_26 rfl rfl rfl ?_
      refine v_iconst (v := 0) (pc' := 28) dX12_bids_27 rfl rfl ?_
      refine v_bipush (v := 40) (pc' := 30) dX12_bids_28 rfl rfl ?_
      refine v_callS (vs := [.int x3, .int 0, .int 40]) (pc' := 33) (h_X12_in g x3 0 40) ms_X12_in wl_X12_128 (Nat.le_of_ble_eq_true rfl) (by omega) (by decide) (Nat.le_of_ble_eq_true rfl) rfl dX12_bids_30 rfl fun v7 => ?_
      refine v_ifeq (t := 46) (pc' := 36) dX12_bids_33 (by decide) rfl ?_ ?_
      · refine V.sub [1, 2, 3, 4] rfl ?_
        exact h_X12_bids_b46 g x1 x2 x3 x4 a0
      · refine v_iload (pc' := 38) 4 dX12_bids_36 rfl rfl ?_
        refine v_iconst (v := 0) (pc' := 39) dX12_bids_38 rfl rfl ?_
        refine v_iconst (v := 2) (pc' := 40) dX12_bids_39 rfl rfl ?_
        refine v_callS (vs := [.int x4, .int 0, .int 2]) (pc' := 43) (h_X12_in g x4 0 2) ms_X12_in wl_X12_128 (Nat.le_of_ble_eq_true rfl) (by omega) (by decide) (Nat.le_of_ble_eq_true rfl) rfl dX12_bids_40 rfl fun v8 => ?_
        refine v_ifne (t := 50) (pc' := 46) dX12_bids_43 (by decide) rfl ?_ ?_
        · refine v_iconst (v := 0) (pc' := 51) dX12_bids_50 rfl rfl ?_
          refine V.sub [1, 2, 3, 4] rfl ?_
          exact h_X12_bids_b51 g x1 x2 x3 x4 0 a0
        · refine V.sub [1, 2, 3, 4] rfl ?_
          exact h_X12_bids_b46 g x1 x2 x3 x4 a0
-- share
def f_X12_share_b91 (a0 : Nat) (x1 : Int32) (x2 : Int32) (x4 : Int32) : Mo Int32 := bd (f_X12_has x2 x1) fun v1 => if (v1 = 0 : Prop) then (pu 0) else bd (gR 12 16 a0) fun r2 => bd (aR 3 r2 x1) fun r3 => bd (al 0 r3 2) fun v4 => bd (f_X12_less x4 v4) fun v5 => pu v5
def f_X12_share_b65 : Nat → Nat → Int32 → Int32 → Int32 → Int32 → Mo Int32
  | 0, _, _, _, _, _ => fl
  | n + 1, a0, x1, x2, x3, x4 => if (40 ≤ x4 : Prop) then (f_X12_share_b91 a0 x1 x2 x4) else bd (cv 12 a0 (f_X12_givenBy a0 x2 (x4 + (1 : Int32)))) fun v6 => if (x3 < v6 : Prop) then (f_X12_share_b91 a0 x1 x2 x4) else (f_X12_share_b65 n) a0 x1 x2 x3 (x4 + 1)
def f_X12_share_b52 (a0 : Nat) (x1 : Int32) (x2 : Int32) (x3 : Int32) (xs0 : Int32) (as1 : Nat) : Mo Int32 := bd (cv 12 as1 (f_X12_bad as1 xs0 2 1)) fun v7 => if (v7 = 0 : Prop) then (f_X12_share_b65 NF a0 x1 x2 x3 0) else pu 0
def f_X12_share_b47 (a0 : Nat) (x1 : Int32) (x2 : Int32) (x3 : Int32) (as0 : Nat) : Mo Int32 := f_X12_share_b52 a0 x1 x2 x3 1 as0
def f_X12_share_b19 (a0 : Nat) (x1 : Int32) (x2 : Int32) (x3 : Int32) (xs0 : Int32) (as1 : Nat) : Mo Int32 := bd (cv 12 as1 (f_X12_bad as1 xs0 1 0)) fun v8 => if (v8 = 0 : Prop) then (bd (cv 12 a0 (f_X12_arePersons a0 x2)) fun v9 => if (v9 = 0 : Prop) then (f_X12_share_b47 a0 x1 x2 x3 a0) else bd (f_X12_in x3 0 400) fun v10 => if (v10 = 0 : Prop) then (f_X12_share_b47 a0 x1 x2 x3 a0) else f_X12_share_b52 a0 x1 x2 x3 0 a0) else pu 0
def f_X12_share (a0 : Nat) (x1 : Int32) (x2 : Int32) (x3 : Int32) : Mo Int32 := bd (pf 12 0 a0 (.int 0)) fun _ => bd (cv 12 a0 (f_X12_isPerson a0 x1)) fun v11 => if (v11 = 0 : Prop) then (f_X12_share_b19 a0 x1 x2 x3 1 a0) else f_X12_share_b19 a0 x1 x2 x3 0 a0
set_option maxRecDepth 20000 in
theorem h_X12_share_b91 (g : GW) (a0 : Nat) (x1 : Int32) (x2 : Int32) (x4 : Int32) : V g mX12_share 10 rtI 91 [(0, rf g a0), (1, .int x1), (2, .int x2), (4, .int x4)] [] (f_X12_share_b91 a0 x1 x2 x4) := by
  unfold f_X12_share_b91
  refine v_iload_n (pc' := 92) 2 dX12_share_91 rfl rfl rfl ?_
  refine v_iload_n (pc' := 93) 1 dX12_share_92 rfl rfl rfl ?_
  refine v_callS (vs := [.int x2, .int x1]) (pc' := 96) (h_X12_has g x2 x1) ms_X12_has wl_X12_246 (Nat.le_of_ble_eq_true rfl) (by omega) (by decide) (Nat.le_of_ble_eq_true rfl) rfl dX12_share_93 rfl fun v1 => ?_
  refine v_ifeq (t := 115) (pc' := 99) dX12_share_96 (by decide) rfl ?_ ?_
  · refine v_iconst (v := 0) (pc' := 116) dX12_share_115 rfl rfl ?_
    exact v_ireturn rfl dX12_share_116
  · refine v_iload (pc' := 101) 3 dX12_share_99 rfl rfl ?_
    refine v_aload_n (pc' := 102) 0 dX12_share_101 rfl rfl rfl ?_
    refine v_getR (pc' := 105) fl_X12_37 dX12_share_102 rfl fun r2 => ?_
    refine v_iload_n (pc' := 106) 1 dX12_share_105 rfl rfl rfl ?_
    refine v_aaldR (pc' := 107) dX12_share_106 rfl fun r3 => ?_
    refine v_iconst (v := 2) (pc' := 108) dX12_share_107 rfl rfl ?_
    refine v_iald (pc' := 109) dX12_share_108 rfl fun v4 => ?_
    refine v_callS (vs := [.int x4, .int v4]) (pc' := 112) (h_X12_less g x4 v4) ms_X12_less wl_X12_227 (Nat.le_of_ble_eq_true rfl) (by omega) (by decide) (Nat.le_of_ble_eq_true rfl) rfl dX12_share_109 rfl fun v5 => ?_
    refine v_goto (t := 116) dX12_share_112 (by decide) ?_
    exact v_ireturn rfl dX12_share_116
set_option maxRecDepth 20000 in
theorem h_X12_share_b65 (g : GW) : ∀ n : Nat, ∀ a0 x1 x2 x3 x4, V g mX12_share 10 rtI 65 [(0, rf g a0), (1, .int x1), (2, .int x2), (3, .int x3), (4, .int x4)] [] (f_X12_share_b65 n a0 x1 x2 x3 x4) := by
  intro n
  induction n with
  | zero => intro a0 x1 x2 x3 x4; exact V.vain
  | succ n ih =>
    intro a0 x1 x2 x3 x4
    unfold f_X12_share_b65
    refine v_iload (pc' := 67) 4 dX12_share_65 rfl rfl ?_
    refine v_bipush (v := 40) (pc' := 69) dX12_share_67 rfl rfl ?_
    refine v_icmpge (t := 91) (pc' := 72) dX12_share_69 (by decide) rfl ?_ ?_
    · refine V.sub [0, 1, 2, 4] rfl ?_
      exact h_X12_share_b91 g a0 x1 x2 x4
    · refine v_aload_n (pc' := 73) 0 dX12_share_72 rfl rfl rfl ?_
      refine v_iload_n (pc' := 74) 2 dX12_share_73 rfl rfl rfl ?_
      refine v_iload (pc' := 76) 4 dX12_share_74 rfl rfl ?_
      refine v_iconst (v := 1) (pc' := 77) dX12_share_76 rfl rfl ?_
      refine v_iadd (pc' := 78) dX12_share_77 rfl ?_
      refine v_callV (vs := [.int x2, .int (x4 + (1 : Int32))]) (pc' := 81) (h_X12_givenBy g a0 x2 (x4 + (1 : Int32))) mv_X12_givenBy wl_X12_330 rfl (Nat.le_of_ble_eq_true rfl) (by omega) (by decide) (Nat.le_of_ble_eq_true rfl) rfl dX12_share_78 rfl fun v6 => ?_
      refine v_iload_n (pc' := 82) 3 dX12_share_81 rfl rfl rfl ?_
      refine v_icmpgt (t := 91) (pc' := 85) dX12_share_82 (by decide) rfl ?_ ?_
      · refine V.sub [0, 1, 2, 4] rfl ?_
        exact h_X12_share_b91 g a0 x1 x2 x4
      · refine v_iinc (v := x4 + 1) (lv' := [(4, .int (x4 + 1)), (0, rf g a0), (1, .int x1), (2, .int x2), (3, .int x3)]) (pc' := 88) 4 dX12_share_85 rfl rfl (by decide) rfl rfl ?_
        refine v_goto (t := 65) dX12_share_88 (by decide) ?_
        refine V.sub [1, 2, 3, 4, 0] rfl ?_
        exact ih a0 x1 x2 x3 (x4 + 1)
set_option maxRecDepth 20000 in
theorem h_X12_share_b52 (g : GW) (a0 : Nat) (x1 : Int32) (x2 : Int32) (x3 : Int32) (xs0 : Int32) (as1 : Nat) : V g mX12_share 10 rtI 52 [(0, rf g a0), (1, .int x1), (2, .int x2), (3, .int x3)] [.int xs0, rf g as1] (f_X12_share_b52 a0 x1 x2 x3 xs0 as1) := by
  unfold f_X12_share_b52
  refine v_iconst (v := 2) (pc' := 53) dX12_share_52 rfl rfl ?_
  refine v_iconst (v := 1) (pc' := 54) dX12_share_53 rfl rfl ?_
  refine v_callV (vs := [.int xs0, .int 2, .int 1]) (pc' := 57) (h_X12_bad g as1 xs0 2 1) mv_X12_bad wl_X12_167 rfl (Nat.le_of_ble_eq_true rfl) (by omega) (by decide) (Nat.le_of_ble_eq_true rfl) rfl dX12_share_54 rfl fun v7 => ?_
  refine v_ifeq (t := 62) (pc' := 60) dX12_share_57 (by decide) rfl ?_ ?_
  · refine v_iconst (v := 0) (pc' := 63) dX12_share_62 rfl rfl ?_
    refine v_istore (lv' := [(4, .int 0), (0, rf g a0), (1, .int x1), (2, .int x2), (3, .int x3)]) (pc' := 65) dX12_share_63 (by decide) rfl rfl ?_
    refine V.sub [1, 2, 3, 4, 0] rfl ?_
    exact h_X12_share_b65 g NF a0 x1 x2 x3 0
  · refine v_iconst (v := 0) (pc' := 61) dX12_share_60 rfl rfl ?_
    exact v_ireturn rfl dX12_share_61
set_option maxRecDepth 20000 in
theorem h_X12_share_b47 (g : GW) (a0 : Nat) (x1 : Int32) (x2 : Int32) (x3 : Int32) (as0 : Nat) : V g mX12_share 10 rtI 47 [(0, rf g a0), (1, .int x1), (2, .int x2), (3, .int x3)] [rf g as0] (f_X12_share_b47 a0 x1 x2 x3 as0) := by
  unfold f_X12_share_b47
  refine v_iconst (v := 1) (pc' := 48) dX12_share_47 rfl rfl ?_
  refine v_goto (t := 52) dX12_share_48 (by decide) ?_
  refine V.sub [0, 1, 2, 3] rfl ?_
  exact h_X12_share_b52 g a0 x1 x2 x3 1 as0
set_option maxRecDepth 20000 in
theorem h_X12_share_b19 (g : GW) (a0 : Nat) (x1 : Int32) (x2 : Int32) (x3 : Int32) (xs0 : Int32) (as1 : Nat) : V g mX12_share 10 rtI 19 [(0, rf g a0), (1, .int x1), (2, .int x2), (3, .int x3)] [.int xs0, rf g as1] (f_X12_share_b19 a0 x1 x2 x3 xs0 as1) := by
  unfold f_X12_share_b19
  refine v_iconst (v := 1) (pc' := 20) dX12_share_19 rfl rfl ?_
  refine v_iconst (v := 0) (pc' := 21) dX12_share_20 rfl rfl ?_
  refine v_callV (vs := [.int xs0, .int 1, .int 0]) (pc' := 24) (h_X12_bad g as1 xs0 1 0) mv_X12_bad wl_X12_167 rfl (Nat.le_of_ble_eq_true rfl) (by omega) (by decide) (Nat.le_of_ble_eq_true rfl) rfl dX12_share_21 rfl fun v8 => ?_
  refine v_ifne (t := 60) (pc' := 27) dX12_share_24 (by decide) rfl ?_ ?_
  · refine v_iconst (v := 0) (pc' := 61) dX12_share_60 rfl rfl ?_
    exact v_ireturn rfl dX12_share_61
  · refine v_aload_n (pc' := 28) 0 dX12_share_27 rfl rfl rfl ?_
    refine v_aload_n (pc' := 29) 0 dX12_share_28 rfl rfl rfl ?_
    refine v_iload_n (pc' := 30) 2 dX12_share_29 rfl rfl rfl ?_
    refine v_callV (vs := [.int x2]) (pc' := 33) (h_X12_arePersons g a0 x2) mv_X12_arePersons wl_X12_321 rfl (Nat.le_of_ble_eq_true rfl) (by omega) (by decide) (Nat.le_of_ble_eq_true rfl) rfl dX12_share_30 rfl fun v9 => ?_
    refine v_ifeq (t := 47) (pc' := 36) dX12_share_33 (by decide) rfl ?_ ?_
    · refine V.sub [0, 1, 2, 3] rfl ?_
      exact h_X12_share_b47 g a0 x1 x2 x3 a0
    · refine v_iload_n (pc' := 37) 3 dX12_share_36 rfl rfl rfl ?_
      refine v_iconst (v := 0) (pc' := 38) dX12_share_37 rfl rfl ?_
      refine v_sipush (v := 400) (pc' := 41) dX12_share_38 rfl rfl ?_
      refine v_callS (vs := [.int x3, .int 0, .int 400]) (pc' := 44) (h_X12_in g x3 0 400) ms_X12_in wl_X12_128 (Nat.le_of_ble_eq_true rfl) (by omega) (by decide) (Nat.le_of_ble_eq_true rfl) rfl dX12_share_41 rfl fun v10 => ?_
      refine v_ifne (t := 51) (pc' := 47) dX12_share_44 (by decide) rfl ?_ ?_
      · refine v_iconst (v := 0) (pc' := 52) dX12_share_51 rfl rfl ?_
        refine V.sub [0, 1, 2, 3] rfl ?_
        exact h_X12_share_b52 g a0 x1 x2 x3 0 a0
      · refine V.sub [0, 1, 2, 3] rfl ?_
        exact h_X12_share_b47 g a0 x1 x2 x3 a0
set_option maxRecDepth 20000 in
theorem h_X12_share (g : GW) (a0 : Nat) (x1 : Int32) (x2 : Int32) (x3 : Int32) : V g mX12_share 10 rtI 0 [(0, rf g a0), (1, .int x1), (2, .int x2), (3, .int x3)] [] (f_X12_share a0 x1 x2 x3) := by
  unfold f_X12_share
  refine v_aload_n (pc' := 1) 0 dX12_share_0 rfl rfl rfl ?_
  refine v_iconst (v := 0) (pc' := 2) dX12_share_1 rfl rfl ?_
  refine v_put (v := (.int 0)) (v' := .int 0) (pc' := 5) fw_X12_94 rfl rfl rfl (fun h => nomatch h) dX12_share_2 rfl ?_
  refine v_aload_n (pc' := 6) 0 dX12_share_5 rfl rfl rfl ?_
  refine v_aload_n (pc' := 7) 0 dX12_share_6 rfl rfl rfl ?_
  refine v_iload_n (pc' := 8) 1 dX12_share_7 rfl rfl rfl ?_
  refine v_callV (vs := [.int x1]) (pc' := 11) (h_X12_isPerson g a0 x1) mv_X12_isPerson wl_X12_296 rfl (Nat.le_of_ble_eq_true rfl) (by omega) (by decide) (Nat.le_of_ble_eq_true rfl) rfl dX12_share_8 rfl fun v11 => ?_
  refine v_ifne (t := 18) (pc' := 14) dX12_share_11 (by decide) rfl ?_ ?_
  · refine v_iconst (v := 0) (pc' := 19) dX12_share_18 rfl rfl ?_
    refine V.sub [0, 1, 2, 3] rfl ?_
    exact h_X12_share_b19 g a0 x1 x2 x3 0 a0
  · refine v_iconst (v := 1) (pc' := 15) dX12_share_14 rfl rfl ?_
    refine v_goto (t := 19) dX12_share_15 (by decide) ?_
    refine V.sub [0, 1, 2, 3] rfl ?_
    exact h_X12_share_b19 g a0 x1 x2 x3 1 a0
-- busiest
def f_X12_busiest_b112 (k37 : Nat → Int32 → Int32 → Int32 → Int32 → Mo Int32) (a0 : Nat) (x1 : Int32) (x2 : Int32) (x3 : Int32) (x4 : Int32) : Mo Int32 := k37 a0 x1 x2 x3 (x4 + 1)
def f_X12_busiest_b88 (k37 : Nat → Int32 → Int32 → Int32 → Int32 → Mo Int32) (k54 : Nat → Int32 → Int32 → Int32 → Int32 → Int32 → Int32 → Mo Int32) (a0 : Nat) (x1 : Int32) (x2 : Int32) (x3 : Int32) (x4 : Int32) (x6 : Int32) (xs0 : Int32) (xs1 : Int32) : Mo Int32 := k54 a0 x1 x2 x3 x4 (xs1 + xs0) (x6 + 1)
def f_X12_busiest_b54 (k37 : Nat → Int32 → Int32 → Int32 → Int32 → Mo Int32) : Nat → Nat → Int32 → Int32 → Int32 → Int32 → Int32 → Int32 → Mo Int32
  | 0, _, _, _, _, _, _, _ => fl
  | n + 1, a0, x1, x2, x3, x4, x5, x6 => bd (gR 12 27 a0) fun r1 => bd (al 0 r1 24) fun v2 => if (v2 ≤ x6 : Prop) then (if (x3 < x5 : Prop) then (f_X12_busiest_b112 k37 a0 x1 x4 x5 x4) else f_X12_busiest_b112 k37 a0 x1 x2 x3 x4) else bd (gR 12 27 a0) fun r3 => bd (f_X12_plateOf r3 x6 0) fun v4 => if (v4 = x4 : Prop) then (f_X12_busiest_b88 k37 (f_X12_busiest_b54 k37 n) a0 x1 x2 x3 x4 x6 1 x5) else f_X12_busiest_b88 k37 (f_X12_busiest_b54 k37 n) a0 x1 x2 x3 x4 x6 0 x5
def f_X12_busiest_b37 : Nat → Nat → Int32 → Int32 → Int32 → Int32 → Mo Int32
  | 0, _, _, _, _, _ => fl
  | n + 1, a0, x1, x2, x3, x4 => bd (gR 12 12 a0) fun r5 => bd (al 0 r5 0) fun v6 => if (v6 ≤ x4 : Prop) then (if (x1 = 0 : Prop) then (pu x2) else if (x2 = (-1) : Prop) then (pu x2) else pu x3) else f_X12_busiest_b54 (f_X12_busiest_b37 n) NF a0 x1 x2 x3 x4 0 0
def f_X12_busiest_b20 (a0 : Nat) (x1 : Int32) (xs0 : Int32) (as1 : Nat) : Mo Int32 := bd (cv 12 as1 (f_X12_bad as1 xs0 1 1)) fun v7 => if (v7 = 0 : Prop) then (f_X12_busiest_b37 NF a0 x1 (-1) 0 0) else pu 0
def f_X12_busiest (a0 : Nat) (x1 : Int32) : Mo Int32 := bd (pf 12 0 a0 (.int 0)) fun _ => bd (f_X12_in x1 0 1) fun v8 => if (v8 = 0 : Prop) then (f_X12_busiest_b20 a0 x1 1 a0) else f_X12_busiest_b20 a0 x1 0 a0
set_option maxRecDepth 20000 in
theorem h_X12_busiest_b112 (g : GW) (k37 : Nat → Int32 → Int32 → Int32 → Int32 → Mo Int32) (hk37 : ∀ a0 x1 x2 x3 x4, V g mX12_busiest 9 rtI 37 [(0, rf g a0), (1, .int x1), (2, .int x2), (3, .int x3), (4, .int x4)] [] (k37 a0 x1 x2 x3 x4)) (a0 : Nat) (x1 : Int32) (x2 : Int32) (x3 : Int32) (x4 : Int32) : V g mX12_busiest 9 rtI 112 [(0, rf g a0), (1, .int x1), (2, .int x2), (3, .int x3), (4, .int x4)] [] (f_X12_busiest_b112 k37 a0 x1 x2 x3 x4) := by
  unfold f_X12_busiest_b112
  refine v_iinc (v := x4 + 1) (lv' := [(4, .int (x4 + 1)), (0, rf g a0), (1, .int x1), (2, .int x2), (3, .int x3)]) (pc' := 115) 4 dX12_busiest_112 rfl rfl (by decide) rfl rfl ?_
  refine v_goto (t := 37) dX12_busiest_115 (by decide) ?_
  refine V.sub [1, 2, 3, 4, 0] rfl ?_
  exact hk37 a0 x1 x2 x3 (x4 + 1)
set_option maxRecDepth 20000 in
theorem h_X12_busiest_b88 (g : GW) (k37 : Nat → Int32 → Int32 → Int32 → Int32 → Mo Int32) (k54 : Nat → Int32 → Int32 → Int32 → Int32 → Int32 → Int32 → Mo Int32) (hk37 : ∀ a0 x1 x2 x3 x4, V g mX12_busiest 9 rtI 37 [(0, rf g a0), (1, .int x1), (2, .int x2), (3, .int x3), (4, .int x4)] [] (k37 a0 x1 x2 x3 x4)) (hk54 : ∀ a0 x1 x2 x3 x4 x5 x6, V g mX12_busiest 9 rtI 54 [(0, rf g a0), (1, .int x1), (2, .int x2), (3, .int x3), (4, .int x4), (5, .int x5), (6, .int x6)] [] (k54 a0 x1 x2 x3 x4 x5 x6)) (a0 : Nat) (x1 : Int32) (x2 : Int32) (x3 : Int32) (x4 : Int32) (x6 : Int32) (xs0 : Int32) (xs1 : Int32) : V g mX12_busiest 9 rtI 88 [(0, rf g a0), (1, .int x1), (2, .int x2), (3, .int x3), (4, .int x4), (6, .int x6)] [.int xs0, .int xs1] (f_X12_busiest_b88 k37 k54 a0 x1 x2 x3 x4 x6 xs0 xs1) := by
  unfold f_X12_busiest_b88
  refine v_iadd (pc' := 89) dX12_busiest_88 rfl ?_
  refine v_istore (lv' := [(5, .int (xs1 + xs0)), (0, rf g a0), (1, .int x1), (2, .int x2), (3, .int x3), (4, .int x4), (6, .int x6)]) (pc' := 91) dX12_busiest_89 (by decide) rfl rfl ?_
  refine v_iinc (v := x6 + 1) (lv' := [(6, .int (x6 + 1)), (5, .int (xs1 + xs0)), (0, rf g a0), (1, .int x1), (2, .int x2), (3, .int x3), (4, .int x4)]) (pc' := 94) 6 dX12_busiest_91 rfl rfl (by decide) rfl rfl ?_
  refine v_goto (t := 54) dX12_busiest_94 (by decide) ?_
  refine V.sub [2, 3, 4, 5, 6, 1, 0] rfl ?_
  exact hk54 a0 x1 x2 x3 x4 (xs1 + xs0) (x6 + 1)
set_option maxRecDepth 20000 in
theorem h_X12_busiest_b54 (g : GW) (k37 : Nat → Int32 → Int32 → Int32 → Int32 → Mo Int32) (hk37 : ∀ a0 x1 x2 x3 x4, V g mX12_busiest 9 rtI 37 [(0, rf g a0), (1, .int x1), (2, .int x2), (3, .int x3), (4, .int x4)] [] (k37 a0 x1 x2 x3 x4)) : ∀ n : Nat, ∀ a0 x1 x2 x3 x4 x5 x6, V g mX12_busiest 9 rtI 54 [(0, rf g a0), (1, .int x1), (2, .int x2), (3, .int x3), (4, .int x4), (5, .int x5), (6, .int x6)] [] (f_X12_busiest_b54 k37 n a0 x1 x2 x3 x4 x5 x6) := by
  intro n
  induction n with
  | zero => intro a0 x1 x2 x3 x4 x5 x6; exact V.vain
  | succ n ih =>
    intro a0 x1 x2 x3 x4 x5 x6
    unfold f_X12_busiest_b54
    refine v_iload (pc' := 56) 6 dX12_busiest_54 rfl rfl ?_
    refine v_aload_n (pc' := 57) 0 dX12_busiest_56 rfl rfl rfl ?_
    refine v_getR (pc' := 60) fl_X12_61 dX12_busiest_57 rfl fun r1 => ?_
    refine v_bipush (v := 24) (pc' := 62) dX12_busiest_60 rfl rfl ?_
    refine v_iald (pc' := 63) dX12_busiest_62 rfl fun v2 => ?_
    refine v_icmpge (t := 97) (pc' := 66) dX12_busiest_63 (by decide) rfl ?_ ?_
    · refine v_iload (pc' := 99) 5 dX12_busiest_97 rfl rfl ?_
      refine v_iload_n (pc' := 100) 3 dX12_busiest_99 rfl rfl rfl ?_
      refine v_icmpgt (t := 106) (pc' := 103) dX12_busiest_100 (by decide) rfl ?_ ?_
      · refine v_iload (pc' := 108) 4 dX12_busiest_106 rfl rfl ?_
        refine v_istore_n (lv' := [(2, .int x4), (0, rf g a0), (1, .int x1), (3, .int x3), (4, .int x4), (5, .int x5), (6, .int x6)]) (pc' := 109) dX12_busiest_108 rfl (by decide) rfl rfl ?_
        refine v_iload (pc' := 111) 5 dX12_busiest_109 rfl rfl ?_
        refine v_istore_n (lv' := [(3, .int x5), (2, .int x4), (0, rf g a0), (1, .int x1), (4, .int x4), (5, .int x5), (6, .int x6)]) (pc' := 112) dX12_busiest_111 rfl (by decide) rfl rfl ?_
        refine V.sub [2, 3, 1, 0, 4] rfl ?_
        exact h_X12_busiest_b112 g k37 hk37 a0 x1 x4 x5 x4
      · refine v_goto (t := 112) dX12_busiest_103 (by decide) ?_
        refine V.sub [0, 1, 2, 3, 4] rfl ?_
        exact h_X12_busiest_b112 g k37 hk37 a0 x1 x2 x3 x4
    · refine v_iload (pc' := 68) 5 dX12_busiest_66 rfl rfl ?_
      refine v_aload_n (pc' := 69) 0 dX12_busiest_68 rfl rfl rfl ?_
      refine v_getR (pc' := 72) fl_X12_61 dX12_busiest_69 rfl fun r3 => ?_
      refine v_iload (pc' := 74) 6 dX12_busiest_72 rfl rfl ?_
      refine v_iconst (v := 0) (pc' := 75) dX12_busiest_74 rfl rfl ?_
      refine v_callS (vs := [rf g r3, .int x6, .int 0]) (pc' := 78) (h_X12_plateOf g r3 x6 0) ms_X12_plateOf wl_X12_263 (Nat.le_of_ble_eq_true rfl) (by omega) (by decide) (Nat.le_of_ble_eq_true rfl) rfl dX12_busiest_75 rfl fun v4 => ?_
      refine v_iload (pc' := 80) 4 dX12_busiest_78 rfl rfl ?_
      refine v_icmpne (t := 87) (pc' := 83) dX12_busiest_80 (by decide) rfl ?_ ?_
      · refine v_iconst (v := 0) (pc' := 88) dX12_busiest_87 rfl rfl ?_
        refine V.sub [0, 1, 2, 3, 4, 6] rfl ?_
        exact h_X12_busiest_b88 g k37 (f_X12_busiest_b54 k37 n) hk37 ih a0 x1 x2 x3 x4 x6 0 x5
      · refine v_iconst (v := 1) (pc' := 84) dX12_busiest_83 rfl rfl ?_
        refine v_goto (t := 88) dX12_busiest_84 (by decide) ?_
        refine V.sub [0, 1, 2, 3, 4, 6] rfl ?_
        exact h_X12_busiest_b88 g k37 (f_X12_busiest_b54 k37 n) hk37 ih a0 x1 x2 x3 x4 x6 1 x5
set_option maxRecDepth 20000 in
theorem h_X12_busiest_b37 (g : GW) : ∀ n : Nat, ∀ a0 x1 x2 x3 x4, V g mX12_busiest 9 rtI 37 [(0, rf g a0), (1, .int x1), (2, .int x2), (3, .int x3), (4, .int x4)] [] (f_X12_busiest_b37 n a0 x1 x2 x3 x4) := by
  intro n
  induction n with
  | zero => intro a0 x1 x2 x3 x4; exact V.vain
  | succ n ih =>
    intro a0 x1 x2 x3 x4
    unfold f_X12_busiest_b37
    refine v_iload (pc' := 39) 4 dX12_busiest_37 rfl rfl ?_
    refine v_aload_n (pc' := 40) 0 dX12_busiest_39 rfl rfl rfl ?_
    refine v_getR (pc' := 43) fl_X12_23 dX12_busiest_40 rfl fun r5 => ?_
    refine v_iconst (v := 0) (pc' := 44) dX12_busiest_43 rfl rfl ?_
    refine v_iald (pc' := 45) dX12_busiest_44 rfl fun v6 => ?_
    refine v_icmpge (t := 118) (pc' := 48) dX12_busiest_45 (by decide) rfl ?_ ?_
    · refine v_iload_n (pc' := 119) 1 dX12_busiest_118 rfl rfl rfl ?_
      refine v_ifeq (t := 127) (pc' := 122) dX12_busiest_119 (by decide) rfl ?_ ?_
      · refine v_iload_n (pc' := 128) 2 dX12_busiest_127 rfl rfl rfl ?_
        refine v_goto (t := 132) dX12_busiest_128 (by decide) ?_
        exact v_ireturn rfl dX12_busiest_132
      · refine v_iload_n (pc' := 123) 2 dX12_busiest_122 rfl rfl rfl ?_
        refine v_iconst (v := -1) (pc' := 124) dX12_busiest_123 rfl rfl ?_
        refine v_icmpne (t := 131) (pc' := 127) dX12_busiest_124 (by decide) rfl ?_ ?_
        · refine v_iload_n (pc' := 132) 3 dX12_busiest_131 rfl rfl rfl ?_
          exact v_ireturn rfl dX12_busiest_132
        · refine v_iload_n (pc' := 128) 2 dX12_busiest_127 rfl rfl rfl ?_
          refine v_goto (t := 132) dX12_busiest_128 (by decide) ?_
          exact v_ireturn rfl dX12_busiest_132
    · refine v_iconst (v := 0) (pc' := 49) dX12_busiest_48 rfl rfl ?_
      refine v_istore (lv' := [(5, .int 0), (0, rf g a0), (1, .int x1), (2, .int x2), (3, .int x3), (4, .int x4)]) (pc' := 51) dX12_busiest_49 (by decide) rfl rfl ?_
      refine v_iconst (v := 0) (pc' := 52) dX12_busiest_51 rfl rfl ?_
      refine v_istore (lv' := [(6, .int 0), (5, .int 0), (0, rf g a0), (1, .int x1), (2, .int x2), (3, .int x3), (4, .int x4)]) (pc' := 54) dX12_busiest_52 (by decide) rfl rfl ?_
      refine V.sub [2, 3, 4, 5, 6, 1, 0] rfl ?_
      exact h_X12_busiest_b54 g (f_X12_busiest_b37 n) ih NF a0 x1 x2 x3 x4 0 0
set_option maxRecDepth 20000 in
theorem h_X12_busiest_b20 (g : GW) (a0 : Nat) (x1 : Int32) (xs0 : Int32) (as1 : Nat) : V g mX12_busiest 9 rtI 20 [(0, rf g a0), (1, .int x1)] [.int xs0, rf g as1] (f_X12_busiest_b20 a0 x1 xs0 as1) := by
  unfold f_X12_busiest_b20
  refine v_iconst (v := 1) (pc' := 21) dX12_busiest_20 rfl rfl ?_
  refine v_iconst (v := 1) (pc' := 22) dX12_busiest_21 rfl rfl ?_
  refine v_callV (vs := [.int xs0, .int 1, .int 1]) (pc' := 25) (h_X12_bad g as1 xs0 1 1) mv_X12_bad wl_X12_167 rfl (Nat.le_of_ble_eq_true rfl) (by omega) (by decide) (Nat.le_of_ble_eq_true rfl) rfl dX12_busiest_22 rfl fun v7 => ?_
  refine v_ifeq (t := 30) (pc' := 28) dX12_busiest_25 (by decide) rfl ?_ ?_
  · refine v_iconst (v := -1) (pc' := 31) dX12_busiest_30 rfl rfl ?_
    refine v_istore_n (lv' := [(2, .int (-1)), (0, rf g a0), (1, .int x1)]) (pc' := 32) dX12_busiest_31 rfl (by decide) rfl rfl ?_
    refine v_iconst (v := 0) (pc' := 33) dX12_busiest_32 rfl rfl ?_
    refine v_istore_n (lv' := [(3, .int 0), (2, .int (-1)), (0, rf g a0), (1, .int x1)]) (pc' := 34) dX12_busiest_33 rfl (by decide) rfl rfl ?_
    refine v_iconst (v := 0) (pc' := 35) dX12_busiest_34 rfl rfl ?_
    refine v_istore (lv' := [(4, .int 0), (3, .int 0), (2, .int (-1)), (0, rf g a0), (1, .int x1)]) (pc' := 37) dX12_busiest_35 (by decide) rfl rfl ?_
    refine V.sub [3, 4, 2, 1, 0] rfl ?_
    exact h_X12_busiest_b37 g NF a0 x1 (-1) 0 0
  · refine v_iconst (v := 0) (pc' := 29) dX12_busiest_28 rfl rfl ?_
    exact v_ireturn rfl dX12_busiest_29
set_option maxRecDepth 20000 in
theorem h_X12_busiest (g : GW) (a0 : Nat) (x1 : Int32) : V g mX12_busiest 9 rtI 0 [(0, rf g a0), (1, .int x1)] [] (f_X12_busiest a0 x1) := by
  unfold f_X12_busiest
  refine v_aload_n (pc' := 1) 0 dX12_busiest_0 rfl rfl rfl ?_
  refine v_iconst (v := 0) (pc' := 2) dX12_busiest_1 rfl rfl ?_
  refine v_put (v := (.int 0)) (v' := .int 0) (pc' := 5) fw_X12_94 rfl rfl rfl (fun h => nomatch h) dX12_busiest_2 rfl ?_
  refine v_aload_n (pc' := 6) 0 dX12_busiest_5 rfl rfl rfl ?_
  refine v_iload_n (pc' := 7) 1 dX12_busiest_6 rfl rfl rfl ?_
  refine v_iconst (v := 0) (pc' := 8) dX12_busiest_7 rfl rfl ?_
  refine v_iconst (v := 1) (pc' := 9) dX12_busiest_8 rfl rfl ?_
  refine v_callS (vs := [.int x1, .int 0, .int 1]) (pc' := 12) (h_X12_in g x1 0 1) ms_X12_in wl_X12_128 (Nat.le_of_ble_eq_true rfl) (by omega) (by decide) (Nat.le_of_ble_eq_true rfl) rfl dX12_busiest_9 rfl fun v8 => ?_
  refine v_ifne (t := 19) (pc' := 15) dX12_busiest_12 (by decide) rfl ?_ ?_
  · refine v_iconst (v := 0) (pc' := 20) dX12_busiest_19 rfl rfl ?_
    refine V.sub [0, 1] rfl ?_
    exact h_X12_busiest_b20 g a0 x1 0 a0
  · refine v_iconst (v := 1) (pc' := 16) dX12_busiest_15 rfl rfl ?_
    refine v_goto (t := 20) dX12_busiest_16 (by decide) ?_
    refine V.sub [0, 1] rfl ?_
    exact h_X12_busiest_b20 g a0 x1 1 a0
-- looks
def f_X12_looks_b125 (k57 : Nat → Int32 → Int32 → Int32 → Int32 → Mo Int32) (a0 : Nat) (x1 : Int32) (x2 : Int32) (x4 : Int32) (xs0 : Int32) (xs1 : Int32) : Mo Int32 := k57 a0 x1 x2 (xs1 + xs0) (x4 + 1)
def f_X12_looks_b124 (k57 : Nat → Int32 → Int32 → Int32 → Int32 → Mo Int32) (a0 : Nat) (x1 : Int32) (x2 : Int32) (x4 : Int32) (xs0 : Int32) : Mo Int32 := f_X12_looks_b125 k57 a0 x1 x2 x4 0 xs0
def f_X12_looks_b120 (k57 : Nat → Int32 → Int32 → Int32 → Int32 → Mo Int32) (a0 : Nat) (x1 : Int32) (x2 : Int32) (x4 : Int32) (xs0 : Int32) : Mo Int32 := f_X12_looks_b125 k57 a0 x1 x2 x4 1 xs0
def f_X12_looks_b92 (k57 : Nat → Int32 → Int32 → Int32 → Int32 → Mo Int32) (a0 : Nat) (x1 : Int32) (x2 : Int32) (x3 : Int32) (x4 : Int32) (xs0 : Int32) : Mo Int32 := if (xs0 = 0 : Prop) then (f_X12_looks_b124 k57 a0 x1 x2 x4 x3) else if (x2 = 0 : Prop) then (f_X12_looks_b120 k57 a0 x1 x2 x4 x3) else bd (gR 12 27 a0) fun r1 => bd (f_X12_plateOf r1 x4 ((2 : Int32) - x2)) fun v2 => if (v2 = x1 : Prop) then (f_X12_looks_b124 k57 a0 x1 x2 x4 x3) else f_X12_looks_b120 k57 a0 x1 x2 x4 x3
def f_X12_looks_b57 : Nat → Nat → Int32 → Int32 → Int32 → Int32 → Mo Int32
  | 0, _, _, _, _, _ => fl
  | n + 1, a0, x1, x2, x3, x4 => bd (gR 12 27 a0) fun r3 => bd (al 0 r3 24) fun v4 => if (v4 ≤ x4 : Prop) then (pu x3) else bd (gR 12 27 a0) fun r5 => bd (f_X12_plateOf r5 x4 3) fun v6 => bd (cv 12 a0 (f_X12_looksOf a0 v6)) fun v7 => if (v7 = x1 : Prop) then (f_X12_looks_b92 (f_X12_looks_b57 n) a0 x1 x2 x3 x4 1) else f_X12_looks_b92 (f_X12_looks_b57 n) a0 x1 x2 x3 x4 0
def f_X12_looks_b42 (a0 : Nat) (x1 : Int32) (x2 : Int32) (xs0 : Int32) (as1 : Nat) : Mo Int32 := bd (cv 12 as1 (f_X12_bad as1 xs0 2 1)) fun v8 => if (v8 = 0 : Prop) then (f_X12_looks_b57 NF a0 x1 x2 0 0) else pu 0
def f_X12_looks_b19 (a0 : Nat) (x1 : Int32) (x2 : Int32) (xs0 : Int32) (as1 : Nat) : Mo Int32 := bd (cv 12 as1 (f_X12_bad as1 xs0 1 0)) fun v9 => if (v9 = 0 : Prop) then (bd (f_X12_in x2 0 2) fun v10 => if (v10 = 0 : Prop) then (f_X12_looks_b42 a0 x1 x2 1 a0) else f_X12_looks_b42 a0 x1 x2 0 a0) else pu 0
def f_X12_looks (a0 : Nat) (x1 : Int32) (x2 : Int32) : Mo Int32 := bd (pf 12 0 a0 (.int 0)) fun _ => bd (cv 12 a0 (f_X12_isPerson a0 x1)) fun v11 => if (v11 = 0 : Prop) then (f_X12_looks_b19 a0 x1 x2 1 a0) else f_X12_looks_b19 a0 x1 x2 0 a0
set_option maxRecDepth 20000 in
theorem h_X12_looks_b125 (g : GW) (k57 : Nat → Int32 → Int32 → Int32 → Int32 → Mo Int32) (hk57 : ∀ a0 x1 x2 x3 x4, V g mX12_looks 10 rtI 57 [(0, rf g a0), (1, .int x1), (2, .int x2), (3, .int x3), (4, .int x4)] [] (k57 a0 x1 x2 x3 x4)) (a0 : Nat) (x1 : Int32) (x2 : Int32) (x4 : Int32) (xs0 : Int32) (xs1 : Int32) : V g mX12_looks 10 rtI 125 [(0, rf g a0), (1, .int x1), (2, .int x2), (4, .int x4)] [.int xs0, .int xs1] (f_X12_looks_b125 k57 a0 x1 x2 x4 xs0 xs1) := by
  unfold f_X12_looks_b125
  refine v_iadd (pc' := 126) dX12_looks_125 rfl ?_
  refine v_istore_n (lv' := [(3, .int (xs1 + xs0)), (0, rf g a0), (1, .int x1), (2, .int x2), (4, .int x4)]) (pc' := 127) dX12_looks_126 rfl (by decide) rfl rfl ?_
  refine v_iinc (v := x4 + 1) (lv' := [(4, .int (x4 + 1)), (3, .int (xs1 + xs0)), (0, rf g a0), (1, .int x1), (2, .int x2)]) (pc' := 130) 4 dX12_looks_127 rfl rfl (by decide) rfl rfl ?_
  refine v_goto (t := 57) dX12_looks_130 (by decide) ?_
  refine V.sub [2, 3, 4, 1, 0] rfl ?_
  exact hk57 a0 x1 x2 (xs1 + xs0) (x4 + 1)
set_option maxRecDepth 20000 in
theorem h_X12_looks_b124 (g : GW) (k57 : Nat → Int32 → Int32 → Int32 → Int32 → Mo Int32) (hk57 : ∀ a0 x1 x2 x3 x4, V g mX12_looks 10 rtI 57 [(0, rf g a0), (1, .int x1), (2, .int x2), (3, .int x3), (4, .int x4)] [] (k57 a0 x1 x2 x3 x4)) (a0 : Nat) (x1 : Int32) (x2 : Int32) (x4 : Int32) (xs0 : Int32) : V g mX12_looks 10 rtI 124 [(0, rf g a0), (1, .int x1), (2, .int x2), (4, .int x4)] [.int xs0] (f_X12_looks_b124 k57 a0 x1 x2 x4 xs0) := by
  unfold f_X12_looks_b124
  refine v_iconst (v := 0) (pc' := 125) dX12_looks_124 rfl rfl ?_
  refine V.sub [0, 1, 2, 3] rfl ?_
  exact h_X12_looks_b125 g k57 hk57 a0 x1 x2 x4 0 xs0
set_option maxRecDepth 20000 in
theorem h_X12_looks_b120 (g : GW) (k57 : Nat → Int32 → Int32 → Int32 → Int32 → Mo Int32) (hk57 : ∀ a0 x1 x2 x3 x4, V g mX12_looks 10 rtI 57 [(0, rf g a0), (1, .int x1), (2, .int x2), (3, .int x3), (4, .int x4)] [] (k57 a0 x1 x2 x3 x4)) (a0 : Nat) (x1 : Int32) (x2 : Int32) (x4 : Int32) (xs0 : Int32) : V g mX12_looks 10 rtI 120 [(0, rf g a0), (1, .int x1), (2, .int x2), (4, .int x4)] [.int xs0] (f_X12_looks_b120 k57 a0 x1 x2 x4 xs0) := by
  unfold f_X12_looks_b120
  refine v_iconst (v := 1) (pc' := 121) dX12_looks_120 rfl rfl ?_
  refine v_goto (t := 125) dX12_looks_121 (by decide) ?_
  refine V.sub [0, 1, 2, 3] rfl ?_
  exact h_X12_looks_b125 g k57 hk57 a0 x1 x2 x4 1 xs0
set_option maxRecDepth 20000 in
theorem h_X12_looks_b92 (g : GW) (k57 : Nat → Int32 → Int32 → Int32 → Int32 → Mo Int32) (hk57 : ∀ a0 x1 x2 x3 x4, V g mX12_looks 10 rtI 57 [(0, rf g a0), (1, .int x1), (2, .int x2), (3, .int x3), (4, .int x4)] [] (k57 a0 x1 x2 x3 x4)) (a0 : Nat) (x1 : Int32) (x2 : Int32) (x3 : Int32) (x4 : Int32) (xs0 : Int32) : V g mX12_looks 10 rtI 92 [(0, rf g a0), (1, .int x1), (2, .int x2), (3, .int x3), (4, .int x4)] [.int xs0] (f_X12_looks_b92 k57 a0 x1 x2 x3 x4 xs0) := by
  unfold f_X12_looks_b92
  refine v_istore (lv' := [(5, .int xs0), (0, rf g a0), (1, .int x1), (2, .int x2), (3, .int x3), (4, .int x4)]) (pc' := 94) dX12_looks_92 (by decide) rfl rfl ?_
  refine v_iload_n (pc' := 95) 4 dX12_looks_94 rfl rfl rfl ?_
  refine v_iload (pc' := 97) 0 dX12_looks_95 rfl rfl ?_
  refine v_ifeq (t := 124) (pc' := 100) dX12_looks_97 (by decide) rfl ?_ ?_
  · refine V.sub [1, 2, 3, 5] rfl ?_
    exact h_X12_looks_b124 g k57 hk57 a0 x1 x2 x4 x3
  · refine v_iload_n (pc' := 101) 3 dX12_looks_100 rfl rfl rfl ?_
    refine v_ifeq (t := 120) (pc' := 104) dX12_looks_101 (by decide) rfl ?_ ?_
    · refine V.sub [1, 2, 3, 5] rfl ?_
      exact h_X12_looks_b120 g k57 hk57 a0 x1 x2 x4 x3
    · refine v_aload_n (pc' := 105) 1 dX12_looks_104 rfl rfl rfl ?_
      refine v_getR (pc' := 108) fl_X12_61 dX12_looks_105 rfl fun r1 => ?_
      refine v_iload (pc' := 110) 5 dX12_looks_108 rfl rfl ?_
      refine v_iconst (v := 2) (pc' := 111) dX12_looks_110 rfl rfl ?_
      refine v_iload_n (pc' := 112) 3 dX12_looks_111 rfl rfl rfl ?_
      refine v_isub (pc' := 113) dX12_looks_112 rfl ?_
      refine v_callS (vs := [rf g r1, .int x4, .int ((2 : Int32) - x2)]) (pc' := 116) (h_X12_plateOf g r1 x4 ((2 : Int32) - x2)) ms_X12_plateOf wl_X12_263 (Nat.le_of_ble_eq_true rfl) (by omega) (by decide) (Nat.le_of_ble_eq_true rfl) rfl dX12_looks_113 rfl fun v2 => ?_
      refine v_iload_n (pc' := 117) 2 dX12_looks_116 rfl rfl rfl ?_
      refine v_icmpeq (t := 124) (pc' := 120) dX12_looks_117 (by decide) rfl ?_ ?_
      · refine V.sub [1, 2, 3, 5] rfl ?_
        exact h_X12_looks_b124 g k57 hk57 a0 x1 x2 x4 x3
      · refine V.sub [1, 2, 3, 5] rfl ?_
        exact h_X12_looks_b120 g k57 hk57 a0 x1 x2 x4 x3
set_option maxRecDepth 20000 in
theorem h_X12_looks_b57 (g : GW) : ∀ n : Nat, ∀ a0 x1 x2 x3 x4, V g mX12_looks 10 rtI 57 [(0, rf g a0), (1, .int x1), (2, .int x2), (3, .int x3), (4, .int x4)] [] (f_X12_looks_b57 n a0 x1 x2 x3 x4) := by
  intro n
  induction n with
  | zero => intro a0 x1 x2 x3 x4; exact V.vain
  | succ n ih =>
    intro a0 x1 x2 x3 x4
    unfold f_X12_looks_b57
    refine v_iload (pc' := 59) 4 dX12_looks_57 rfl rfl ?_
    refine v_aload_n (pc' := 60) 0 dX12_looks_59 rfl rfl rfl ?_
    refine v_getR (pc' := 63) fl_X12_61 dX12_looks_60 rfl fun r3 => ?_
    refine v_bipush (v := 24) (pc' := 65) dX12_looks_63 rfl rfl ?_
    refine v_iald (pc' := 66) dX12_looks_65 rfl fun v4 => ?_
    refine v_icmpge (t := 133) (pc' := 69) dX12_looks_66 (by decide) rfl ?_ ?_
    · refine v_iload_n (pc' := 134) 3 dX12_looks_133 rfl rfl rfl ?_
      exact v_ireturn rfl dX12_looks_134
    · refine v_aload_n (pc' := 70) 0 dX12_looks_69 rfl rfl rfl ?_
      refine v_aload_n (pc' := 71) 0 dX12_looks_70 rfl rfl rfl ?_
      refine v_getR (pc' := 74) fl_X12_61 dX12_looks_71 rfl fun r5 => ?_
      refine v_iload (pc' := 76) 4 dX12_looks_74 rfl rfl ?_
      refine v_iconst (v := 3) (pc' := 77) dX12_looks_76 rfl rfl ?_
      refine v_callS (vs := [rf g r5, .int x4, .int 3]) (pc' := 80) (h_X12_plateOf g r5 x4 3) ms_X12_plateOf wl_X12_263 (Nat.le_of_ble_eq_true rfl) (by omega) (by decide) (Nat.le_of_ble_eq_true rfl) rfl dX12_looks_77 rfl fun v6 => ?_
      refine v_callV (vs := [.int v6]) (pc' := 83) (h_X12_looksOf g a0 v6) mv_X12_looksOf wl_X12_302 rfl (Nat.le_of_ble_eq_true rfl) (by omega) (by decide) (Nat.le_of_ble_eq_true rfl) rfl dX12_looks_80 rfl fun v7 => ?_
      refine v_iload_n (pc' := 84) 1 dX12_looks_83 rfl rfl rfl ?_
      refine v_icmpne (t := 91) (pc' := 87) dX12_looks_84 (by decide) rfl ?_ ?_
      · refine v_iconst (v := 0) (pc' := 92) dX12_looks_91 rfl rfl ?_
        refine V.sub [0, 1, 2, 3, 4] rfl ?_
        exact h_X12_looks_b92 g (f_X12_looks_b57 n) ih a0 x1 x2 x3 x4 0
      · refine v_iconst (v := 1) (pc' := 88) dX12_looks_87 rfl rfl ?_
        refine v_goto (t := 92) dX12_looks_88 (by decide) ?_
        refine V.sub [0, 1, 2, 3, 4] rfl ?_
        exact h_X12_looks_b92 g (f_X12_looks_b57 n) ih a0 x1 x2 x3 x4 1
set_option maxRecDepth 20000 in
theorem h_X12_looks_b42 (g : GW) (a0 : Nat) (x1 : Int32) (x2 : Int32) (xs0 : Int32) (as1 : Nat) : V g mX12_looks 10 rtI 42 [(0, rf g a0), (1, .int x1), (2, .int x2)] [.int xs0, rf g as1] (f_X12_looks_b42 a0 x1 x2 xs0 as1) := by
  unfold f_X12_looks_b42
  refine v_iconst (v := 2) (pc' := 43) dX12_looks_42 rfl rfl ?_
  refine v_iconst (v := 1) (pc' := 44) dX12_looks_43 rfl rfl ?_
  refine v_callV (vs := [.int xs0, .int 2, .int 1]) (pc' := 47) (h_X12_bad g as1 xs0 2 1) mv_X12_bad wl_X12_167 rfl (Nat.le_of_ble_eq_true rfl) (by omega) (by decide) (Nat.le_of_ble_eq_true rfl) rfl dX12_looks_44 rfl fun v8 => ?_
  refine v_ifeq (t := 52) (pc' := 50) dX12_looks_47 (by decide) rfl ?_ ?_
  · refine v_iconst (v := 0) (pc' := 53) dX12_looks_52 rfl rfl ?_
    refine v_istore_n (lv' := [(3, .int 0), (0, rf g a0), (1, .int x1), (2, .int x2)]) (pc' := 54) dX12_looks_53 rfl (by decide) rfl rfl ?_
    refine v_iconst (v := 0) (pc' := 55) dX12_looks_54 rfl rfl ?_
    refine v_istore (lv' := [(4, .int 0), (3, .int 0), (0, rf g a0), (1, .int x1), (2, .int x2)]) (pc' := 57) dX12_looks_55 (by decide) rfl rfl ?_
    refine V.sub [2, 3, 4, 1, 0] rfl ?_
    exact h_X12_looks_b57 g NF a0 x1 x2 0 0
  · refine v_iconst (v := 0) (pc' := 51) dX12_looks_50 rfl rfl ?_
    exact v_ireturn rfl dX12_looks_51
set_option maxRecDepth 20000 in
theorem h_X12_looks_b19 (g : GW) (a0 : Nat) (x1 : Int32) (x2 : Int32) (xs0 : Int32) (as1 : Nat) : V g mX12_looks 10 rtI 19 [(0, rf g a0), (1, .int x1), (2, .int x2)] [.int xs0, rf g as1] (f_X12_looks_b19 a0 x1 x2 xs0 as1) := by
  unfold f_X12_looks_b19
  refine v_iconst (v := 1) (pc' := 20) dX12_looks_19 rfl rfl ?_
  refine v_iconst (v := 0) (pc' := 21) dX12_looks_20 rfl rfl ?_
  refine v_callV (vs := [.int xs0, .int 1, .int 0]) (pc' := 24) (h_X12_bad g as1 xs0 1 0) mv_X12_bad wl_X12_167 rfl (Nat.le_of_ble_eq_true rfl) (by omega) (by decide) (Nat.le_of_ble_eq_true rfl) rfl dX12_looks_21 rfl fun v9 => ?_
  refine v_ifne (t := 50) (pc' := 27) dX12_looks_24 (by decide) rfl ?_ ?_
  · refine v_iconst (v := 0) (pc' := 51) dX12_looks_50 rfl rfl ?_
    exact v_ireturn rfl dX12_looks_51
  · refine v_aload_n (pc' := 28) 0 dX12_looks_27 rfl rfl rfl ?_
    refine v_iload_n (pc' := 29) 2 dX12_looks_28 rfl rfl rfl ?_
    refine v_iconst (v := 0) (pc' := 30) dX12_looks_29 rfl rfl ?_
    refine v_iconst (v := 2) (pc' := 31) dX12_looks_30 rfl rfl ?_
    refine v_callS (vs := [.int x2, .int 0, .int 2]) (pc' := 34) (h_X12_in g x2 0 2) ms_X12_in wl_X12_128 (Nat.le_of_ble_eq_true rfl) (by omega) (by decide) (Nat.le_of_ble_eq_true rfl) rfl dX12_looks_31 rfl fun v10 => ?_
    refine v_ifne (t := 41) (pc' := 37) dX12_looks_34 (by decide) rfl ?_ ?_
    · refine v_iconst (v := 0) (pc' := 42) dX12_looks_41 rfl rfl ?_
      refine V.sub [0, 1, 2] rfl ?_
      exact h_X12_looks_b42 g a0 x1 x2 0 a0
    · refine v_iconst (v := 1) (pc' := 38) dX12_looks_37 rfl rfl ?_
      refine v_goto (t := 42) dX12_looks_38 (by decide) ?_
      refine V.sub [0, 1, 2] rfl ?_
      exact h_X12_looks_b42 g a0 x1 x2 1 a0
set_option maxRecDepth 20000 in
theorem h_X12_looks (g : GW) (a0 : Nat) (x1 : Int32) (x2 : Int32) : V g mX12_looks 10 rtI 0 [(0, rf g a0), (1, .int x1), (2, .int x2)] [] (f_X12_looks a0 x1 x2) := by
  unfold f_X12_looks
  refine v_aload_n (pc' := 1) 0 dX12_looks_0 rfl rfl rfl ?_
  refine v_iconst (v := 0) (pc' := 2) dX12_looks_1 rfl rfl ?_
  refine v_put (v := (.int 0)) (v' := .int 0) (pc' := 5) fw_X12_94 rfl rfl rfl (fun h => nomatch h) dX12_looks_2 rfl ?_
  refine v_aload_n (pc' := 6) 0 dX12_looks_5 rfl rfl rfl ?_
  refine v_aload_n (pc' := 7) 0 dX12_looks_6 rfl rfl rfl ?_
  refine v_iload_n (pc' := 8) 1 dX12_looks_7 rfl rfl rfl ?_
  refine v_callV (vs := [.int x1]) (pc' := 11) (h_X12_isPerson g a0 x1) mv_X12_isPerson wl_X12_296 rfl (Nat.le_of_ble_eq_true rfl) (by omega) (by decide) (Nat.le_of_ble_eq_true rfl) rfl dX12_looks_8 rfl fun v11 => ?_
  refine v_ifne (t := 18) (pc' := 14) dX12_looks_11 (by decide) rfl ?_ ?_
  · refine v_iconst (v := 0) (pc' := 19) dX12_looks_18 rfl rfl ?_
    refine V.sub [0, 1, 2] rfl ?_
    exact h_X12_looks_b19 g a0 x1 x2 0 a0
  · refine v_iconst (v := 1) (pc' := 15) dX12_looks_14 rfl rfl ?_
    refine v_goto (t := 19) dX12_looks_15 (by decide) ?_
    refine V.sub [0, 1, 2] rfl ?_
    exact h_X12_looks_b19 g a0 x1 x2 1 a0
-- lost
def f_X12_lost_b18 (a0 : Nat) (x1 : Int32) (xs0 : Int32) (as1 : Nat) : Mo Int32 := bd (cv 12 as1 (f_X12_bad as1 xs0 1 0)) fun v1 => if (v1 = 0 : Prop) then (bd (gR 12 27 a0) fun r2 => bd (gR 12 28 a0) fun r3 => bd (f_X12_copies r2 r3) fun _ => bd (gR 12 28 a0) fun r4 => bd (f_X12_burns r4 x1) fun v5 => bd (gR 12 27 a0) fun r6 => bd (cv 12 a0 (f_X12_hadBy a0 r6)) fun v7 => bd (gR 12 28 a0) fun r8 => bd (cv 12 a0 (f_X12_hadBy a0 r8)) fun v9 => pu (v7 &&& (v9 ^^^ (-1 : Int32)))) else pu 0
def f_X12_lost (a0 : Nat) (x1 : Int32) : Mo Int32 := bd (pf 12 0 a0 (.int 0)) fun _ => bd (f_X12_isHall x1) fun v10 => if (v10 = 0 : Prop) then (f_X12_lost_b18 a0 x1 1 a0) else f_X12_lost_b18 a0 x1 0 a0
set_option maxRecDepth 20000 in
theorem h_X12_lost_b18 (g : GW) (a0 : Nat) (x1 : Int32) (xs0 : Int32) (as1 : Nat) : V g mX12_lost 11 rtI 18 [(0, rf g a0), (1, .int x1)] [.int xs0, rf g as1] (f_X12_lost_b18 a0 x1 xs0 as1) := by
  unfold f_X12_lost_b18
  refine v_iconst (v := 1) (pc' := 19) dX12_lost_18 rfl rfl ?_
  refine v_iconst (v := 0) (pc' := 20) dX12_lost_19 rfl rfl ?_
  refine v_callV (vs := [.int xs0, .int 1, .int 0]) (pc' := 23) (h_X12_bad g as1 xs0 1 0) mv_X12_bad wl_X12_167 rfl (Nat.le_of_ble_eq_true rfl) (by omega) (by decide) (Nat.le_of_ble_eq_true rfl) rfl dX12_lost_20 rfl fun v1 => ?_
  refine v_ifeq (t := 28) (pc' := 26) dX12_lost_23 (by decide) rfl ?_ ?_
  · refine v_aload_n (pc' := 29) 0 dX12_lost_28 rfl rfl rfl ?_
    refine v_getR (pc' := 32) fl_X12_61 dX12_lost_29 rfl fun r2 => ?_
    refine v_aload_n (pc' := 33) 0 dX12_lost_32 rfl rfl rfl ?_
    refine v_getR (pc' := 36) fl_X12_64 dX12_lost_33 rfl fun r3 => ?_
    refine v_callS (vs := [rf g r2, rf g r3]) (pc' := 39) (h_X12_copies g r2 r3) ms_X12_copies wl_X12_292 (Nat.le_of_ble_eq_true rfl) (by omega) (by decide) (Nat.le_of_ble_eq_true rfl) rfl dX12_lost_36 rfl fun _ => ?_
    refine v_aload_n (pc' := 40) 0 dX12_lost_39 rfl rfl rfl ?_
    refine v_getR (pc' := 43) fl_X12_64 dX12_lost_40 rfl fun r4 => ?_
    refine v_iload_n (pc' := 44) 1 dX12_lost_43 rfl rfl rfl ?_
    refine v_callS (vs := [rf g r4, .int x1]) (pc' := 47) (h_X12_burns g r4 x1) ms_X12_burns wl_X12_271 (Nat.le_of_ble_eq_true rfl) (by omega) (by decide) (Nat.le_of_ble_eq_true rfl) rfl dX12_lost_44 rfl fun v5 => ?_
    refine v_pop (pc' := 48) dX12_lost_47 rfl rfl ?_
    refine v_aload_n (pc' := 49) 0 dX12_lost_48 rfl rfl rfl ?_
    refine v_aload_n (pc' := 50) 0 dX12_lost_49 rfl rfl rfl ?_
    refine v_getR (pc' := 53) fl_X12_61 dX12_lost_50 rfl fun r6 => ?_
    refine v_callV (vs := [rf g r6]) (pc' := 56) (h_X12_hadBy g a0 r6) mv_X12_hadBy wl_X12_314 rfl (Nat.le_of_ble_eq_true rfl) (by omega) (by decide) (Nat.le_of_ble_eq_true rfl) rfl dX12_lost_53 rfl fun v7 => ?_
    refine v_aload_n (pc' := 57) 0 dX12_lost_56 rfl rfl rfl ?_
    refine v_aload_n (pc' := 58) 0 dX12_lost_57 rfl rfl rfl ?_
    refine v_getR (pc' := 61) fl_X12_64 dX12_lost_58 rfl fun r8 => ?_
    refine v_callV (vs := [rf g r8]) (pc' := 64) (h_X12_hadBy g a0 r8) mv_X12_hadBy wl_X12_314 rfl (Nat.le_of_ble_eq_true rfl) (by omega) (by decide) (Nat.le_of_ble_eq_true rfl) rfl dX12_lost_61 rfl fun v9 => ?_
    refine v_iconst (v := -1) (pc' := 65) dX12_lost_64 rfl rfl ?_
    refine v_ixor (pc' := 66) dX12_lost_65 rfl ?_
    refine v_iand (pc' := 67) dX12_lost_66 rfl ?_
    exact v_ireturn rfl dX12_lost_67
  · refine v_iconst (v := 0) (pc' := 27) dX12_lost_26 rfl rfl ?_
    exact v_ireturn rfl dX12_lost_27
set_option maxRecDepth 20000 in
theorem h_X12_lost (g : GW) (a0 : Nat) (x1 : Int32) : V g mX12_lost 11 rtI 0 [(0, rf g a0), (1, .int x1)] [] (f_X12_lost a0 x1) := by
  unfold f_X12_lost
  refine v_aload_n (pc' := 1) 0 dX12_lost_0 rfl rfl rfl ?_
  refine v_iconst (v := 0) (pc' := 2) dX12_lost_1 rfl rfl ?_
  refine v_put (v := (.int 0)) (v' := .int 0) (pc' := 5) fw_X12_94 rfl rfl rfl (fun h => nomatch h) dX12_lost_2 rfl ?_
  refine v_aload_n (pc' := 6) 0 dX12_lost_5 rfl rfl rfl ?_
  refine v_iload_n (pc' := 7) 1 dX12_lost_6 rfl rfl rfl ?_
  refine v_callS (vs := [.int x1]) (pc' := 10) (h_X12_isHall g x1) ms_X12_isHall wl_X12_305 (Nat.le_of_ble_eq_true rfl) (by omega) (by decide) (Nat.le_of_ble_eq_true rfl) rfl dX12_lost_7 rfl fun v10 => ?_
  refine v_ifne (t := 17) (pc' := 13) dX12_lost_10 (by decide) rfl ?_ ?_
  · refine v_iconst (v := 0) (pc' := 18) dX12_lost_17 rfl rfl ?_
    refine V.sub [0, 1] rfl ?_
    exact h_X12_lost_b18 g a0 x1 0 a0
  · refine v_iconst (v := 1) (pc' := 14) dX12_lost_13 rfl rfl ?_
    refine v_goto (t := 18) dX12_lost_14 (by decide) ?_
    refine V.sub [0, 1] rfl ?_
    exact h_X12_lost_b18 g a0 x1 1 a0
-- faces
def f_X12_faces_b178 (k138 : Nat → Int32 → Int32 → Int32 → Int32 → Int32 → Mo Int32) (a0 : Nat) (x2 : Int32) (x3 : Int32) (x4 : Int32) (x5 : Int32) (x6 : Int32) : Mo Int32 := k138 a0 x2 x3 x4 x5 (x6 + 1)
def f_X12_faces_b169 (k138 : Nat → Int32 → Int32 → Int32 → Int32 → Int32 → Mo Int32) (a0 : Nat) (x2 : Int32) (x3 : Int32) (x6 : Int32) (xs0 : Int32) : Mo Int32 := f_X12_faces_b178 k138 a0 x2 (x3 + 1) xs0 x6 x6
def f_X12_faces_b138 : Nat → Nat → Int32 → Int32 → Int32 → Int32 → Int32 → Mo Int32
  | 0, _, _, _, _, _, _ => fl
  | n + 1, a0, x2, x3, x4, x5, x6 => if (64 ≤ x6 : Prop) then (if (x2 = 0 : Prop) then (pu x3) else if (x2 = 1 : Prop) then (pu x4) else pu x5) else bd (gR 12 45 a0) fun r1 => bd (al 0 r1 x6) fun v2 => if (v2 = 0 : Prop) then (f_X12_faces_b178 (f_X12_faces_b138 n) a0 x2 x3 x4 x5 x6) else if (x3 = 0 : Prop) then (f_X12_faces_b169 (f_X12_faces_b138 n) a0 x2 x3 x6 x6) else f_X12_faces_b169 (f_X12_faces_b138 n) a0 x2 x3 x6 x4
def f_X12_faces_b129 (k87 : Nat → Int32 → Int32 → Int32 → Int32 → Int32 → Int32 → Mo Int32) (a0 : Nat) (x1 : Int32) (x2 : Int32) (x3 : Int32) (x4 : Int32) (x5 : Int32) (x6 : Int32) : Mo Int32 := k87 a0 x1 x2 x3 x4 x5 (x6 + 1)
def f_X12_faces_b87 : Nat → Nat → Int32 → Int32 → Int32 → Int32 → Int32 → Int32 → Mo Int32
  | 0, _, _, _, _, _, _, _ => fl
  | n + 1, a0, x1, x2, x3, x4, x5, x6 => bd (gR 12 27 a0) fun r3 => bd (al 0 r3 24) fun v4 => if (v4 ≤ x6 : Prop) then (f_X12_faces_b138 NF a0 x2 x3 x4 x5 0) else bd (gR 12 27 a0) fun r5 => bd (f_X12_plateOf r5 x6 0) fun v6 => if (v6 = x1 : Prop) then (bd (gR 12 45 a0) fun r7 => bd (gR 12 27 a0) fun r8 => bd (f_X12_plateOf r8 x6 3) fun v9 => bd (as_ r7 v9 1) fun _ => f_X12_faces_b129 (f_X12_faces_b87 n) a0 x1 x2 x3 x4 x5 x6) else f_X12_faces_b129 (f_X12_faces_b87 n) a0 x1 x2 x3 x4 x5 x6
def f_X12_faces_b63 : Nat → Nat → Int32 → Int32 → Int32 → Int32 → Int32 → Int32 → Mo Int32
  | 0, _, _, _, _, _, _, _ => fl
  | n + 1, a0, x1, x2, x3, x4, x5, x6 => if (64 ≤ x6 : Prop) then (f_X12_faces_b87 NF a0 x1 x2 x3 x4 x5 0) else bd (gR 12 45 a0) fun r10 => bd (as_ r10 x6 0) fun _ => (f_X12_faces_b63 n) a0 x1 x2 x3 x4 x5 (x6 + 1)
def f_X12_faces_b42 (a0 : Nat) (x1 : Int32) (x2 : Int32) (xs0 : Int32) (as1 : Nat) : Mo Int32 := bd (cv 12 as1 (f_X12_bad as1 xs0 2 1)) fun v11 => if (v11 = 0 : Prop) then (f_X12_faces_b63 NF a0 x1 x2 0 (-1) (-1) 0) else pu 0
def f_X12_faces_b19 (a0 : Nat) (x1 : Int32) (x2 : Int32) (xs0 : Int32) (as1 : Nat) : Mo Int32 := bd (cv 12 as1 (f_X12_bad as1 xs0 1 0)) fun v12 => if (v12 = 0 : Prop) then (bd (f_X12_in x2 0 2) fun v13 => if (v13 = 0 : Prop) then (f_X12_faces_b42 a0 x1 x2 1 a0) else f_X12_faces_b42 a0 x1 x2 0 a0) else pu 0
def f_X12_faces (a0 : Nat) (x1 : Int32) (x2 : Int32) : Mo Int32 := bd (pf 12 0 a0 (.int 0)) fun _ => bd (cv 12 a0 (f_X12_isPerson a0 x1)) fun v14 => if (v14 = 0 : Prop) then (f_X12_faces_b19 a0 x1 x2 1 a0) else f_X12_faces_b19 a0 x1 x2 0 a0
set_option maxRecDepth 20000 in
theorem h_X12_faces_b178 (g : GW) (k138 : Nat → Int32 → Int32 → Int32 → Int32 → Int32 → Mo Int32) (hk138 : ∀ a0 x2 x3 x4 x5 x6, V g mX12_faces 10 rtI 138 [(0, rf g a0), (2, .int x2), (3, .int x3), (4, .int x4), (5, .int x5), (6, .int x6)] [] (k138 a0 x2 x3 x4 x5 x6)) (a0 : Nat) (x2 : Int32) (x3 : Int32) (x4 : Int32) (x5 : Int32) (x6 : Int32) : V g mX12_faces 10 rtI 178 [(0, rf g a0), (2, .int x2), (3, .int x3), (4, .int x4), (5, .int x5), (6, .int x6)] [] (f_X12_faces_b178 k138 a0 x2 x3 x4 x5 x6) := by
  unfold f_X12_faces_b178
  refine v_iinc (v := x6 + 1) (lv' := [(6, .int (x6 + 1)), (0, rf g a0), (2, .int x2), (3, .int x3), (4, .int x4), (5, .int x5)]) (pc' := 181) 5 dX12_faces_178 rfl rfl (by decide) rfl rfl ?_
  refine v_goto (t := 138) dX12_faces_181 (by decide) ?_
  refine V.sub [1, 2, 3, 4, 5, 0] rfl ?_
  exact hk138 a0 x2 x3 x4 x5 (x6 + 1)
set_option maxRecDepth 20000 in
theorem h_X12_faces_b169 (g : GW) (k138 : Nat → Int32 → Int32 → Int32 → Int32 → Int32 → Mo Int32) (hk138 : ∀ a0 x2 x3 x4 x5 x6, V g mX12_faces 10 rtI 138 [(0, rf g a0), (2, .int x2), (3, .int x3), (4, .int x4), (5, .int x5), (6, .int x6)] [] (k138 a0 x2 x3 x4 x5 x6)) (a0 : Nat) (x2 : Int32) (x3 : Int32) (x6 : Int32) (xs0 : Int32) : V g mX12_faces 10 rtI 169 [(0, rf g a0), (2, .int x2), (3, .int x3), (6, .int x6)] [.int xs0] (f_X12_faces_b169 k138 a0 x2 x3 x6 xs0) := by
  unfold f_X12_faces_b169
  refine v_istore (lv' := [(4, .int xs0), (0, rf g a0), (2, .int x2), (3, .int x3), (6, .int x6)]) (pc' := 171) dX12_faces_169 (by decide) rfl rfl ?_
  refine v_iload (pc' := 173) 4 dX12_faces_171 rfl rfl ?_
  refine v_istore (lv' := [(5, .int x6), (4, .int xs0), (0, rf g a0), (2, .int x2), (3, .int x3), (6, .int x6)]) (pc' := 175) dX12_faces_173 (by decide) rfl rfl ?_
  refine v_iinc (v := x3 + 1) (lv' := [(3, .int (x3 + 1)), (5, .int x6), (4, .int xs0), (0, rf g a0), (2, .int x2), (6, .int x6)]) (pc' := 178) 4 dX12_faces_175 rfl rfl (by decide) rfl rfl ?_
  refine V.sub [3, 4, 0, 2, 1, 5] rfl ?_
  exact h_X12_faces_b178 g k138 hk138 a0 x2 (x3 + 1) xs0 x6 x6
set_option maxRecDepth 20000 in
theorem h_X12_faces_b138 (g : GW) : ∀ n : Nat, ∀ a0 x2 x3 x4 x5 x6, V g mX12_faces 10 rtI 138 [(0, rf g a0), (2, .int x2), (3, .int x3), (4, .int x4), (5, .int x5), (6, .int x6)] [] (f_X12_faces_b138 n a0 x2 x3 x4 x5 x6) := by
  intro n
  induction n with
  | zero => intro a0 x2 x3 x4 x5 x6; exact V.vain
  | succ n ih =>
    intro a0 x2 x3 x4 x5 x6
    unfold f_X12_faces_b138
    refine v_iload (pc' := 140) 5 dX12_faces_138 rfl rfl ?_
    refine v_bipush (v := 64) (pc' := 142) dX12_faces_140 rfl rfl ?_
    refine v_icmpge (t := 184) (pc' := 145) dX12_faces_142 (by decide) rfl ?_ ?_
    · refine v_iload_n (pc' := 185) 1 dX12_faces_184 rfl rfl rfl ?_
      refine v_ifne (t := 192) (pc' := 188) dX12_faces_185 (by decide) rfl ?_ ?_
      · refine v_iload_n (pc' := 193) 1 dX12_faces_192 rfl rfl rfl ?_
        refine v_iconst (v := 1) (pc' := 194) dX12_faces_193 rfl rfl ?_
        refine v_icmpne (t := 202) (pc' := 197) dX12_faces_194 (by decide) rfl ?_ ?_
        · refine v_iload (pc' := 204) 4 dX12_faces_202 rfl rfl ?_
          exact v_ireturn rfl dX12_faces_204
        · refine v_iload (pc' := 199) 3 dX12_faces_197 rfl rfl ?_
          refine v_goto (t := 204) dX12_faces_199 (by decide) ?_
          exact v_ireturn rfl dX12_faces_204
      · refine v_iload_n (pc' := 189) 2 dX12_faces_188 rfl rfl rfl ?_
        refine v_goto (t := 204) dX12_faces_189 (by decide) ?_
        exact v_ireturn rfl dX12_faces_204
    · refine v_aload_n (pc' := 146) 0 dX12_faces_145 rfl rfl rfl ?_
      refine v_getR (pc' := 149) fl_X12_85 dX12_faces_146 rfl fun r1 => ?_
      refine v_iload (pc' := 151) 5 dX12_faces_149 rfl rfl ?_
      refine v_iald (pc' := 152) dX12_faces_151 rfl fun v2 => ?_
      refine v_ifne (t := 158) (pc' := 155) dX12_faces_152 (by decide) rfl ?_ ?_
      · refine v_iload_n (pc' := 159) 2 dX12_faces_158 rfl rfl rfl ?_
        refine v_ifne (t := 167) (pc' := 162) dX12_faces_159 (by decide) rfl ?_ ?_
        · refine v_iload (pc' := 169) 3 dX12_faces_167 rfl rfl ?_
          refine V.sub [0, 1, 2, 5] rfl ?_
          exact h_X12_faces_b169 g (f_X12_faces_b138 n) ih a0 x2 x3 x6 x4
        · refine v_iload (pc' := 164) 5 dX12_faces_162 rfl rfl ?_
          refine v_goto (t := 169) dX12_faces_164 (by decide) ?_
          refine V.sub [0, 1, 2, 5] rfl ?_
          exact h_X12_faces_b169 g (f_X12_faces_b138 n) ih a0 x2 x3 x6 x6
      · refine v_goto (t := 178) dX12_faces_155 (by decide) ?_
        refine V.sub [0, 1, 2, 3, 4, 5] rfl ?_
        exact h_X12_faces_b178 g (f_X12_faces_b138 n) ih a0 x2 x3 x4 x5 x6
set_option maxRecDepth 20000 in
theorem h_X12_faces_b129 (g : GW) (k87 : Nat → Int32 → Int32 → Int32 → Int32 → Int32 → Int32 → Mo Int32) (hk87 : ∀ a0 x1 x2 x3 x4 x5 x6, V g mX12_faces 10 rtI 87 [(0, rf g a0), (1, .int x1), (2, .int x2), (3, .int x3), (4, .int x4), (5, .int x5), (6, .int x6)] [] (k87 a0 x1 x2 x3 x4 x5 x6)) (a0 : Nat) (x1 : Int32) (x2 : Int32) (x3 : Int32) (x4 : Int32) (x5 : Int32) (x6 : Int32) : V g mX12_faces 10 rtI 129 [(0, rf g a0), (1, .int x1), (2, .int x2), (3, .int x3), (4, .int x4), (5, .int x5), (6, .int x6)] [] (f_X12_faces_b129 k87 a0 x1 x2 x3 x4 x5 x6) := by
  unfold f_X12_faces_b129
  refine v_iinc (v := x6 + 1) (lv' := [(6, .int (x6 + 1)), (0, rf g a0), (1, .int x1), (2, .int x2), (3, .int x3), (4, .int x4), (5, .int x5)]) (pc' := 132) 6 dX12_faces_129 rfl rfl (by decide) rfl rfl ?_
  refine v_goto (t := 87) dX12_faces_132 (by decide) ?_
  refine V.sub [1, 2, 3, 4, 5, 6, 0] rfl ?_
  exact hk87 a0 x1 x2 x3 x4 x5 (x6 + 1)
set_option maxRecDepth 20000 in
theorem h_X12_faces_b87 (g : GW) : ∀ n : Nat, ∀ a0 x1 x2 x3 x4 x5 x6, V g mX12_faces 10 rtI 87 [(0, rf g a0), (1, .int x1), (2, .int x2), (3, .int x3), (4, .int x4), (5, .int x5), (6, .int x6)] [] (f_X12_faces_b87 n a0 x1 x2 x3 x4 x5 x6) := by
  intro n
  induction n with
  | zero => intro a0 x1 x2 x3 x4 x5 x6; exact V.vain
  | succ n ih =>
    intro a0 x1 x2 x3 x4 x5 x6
    unfold f_X12_faces_b87
    refine v_iload (pc' := 89) 6 dX12_faces_87 rfl rfl ?_
    refine v_aload_n (pc' := 90) 0 dX12_faces_89 rfl rfl rfl ?_
    refine v_getR (pc' := 93) fl_X12_61 dX12_faces_90 rfl fun r3 => ?_
    refine v_bipush (v := 24) (pc' := 95) dX12_faces_93 rfl rfl ?_
    refine v_iald (pc' := 96) dX12_faces_95 rfl fun v4 => ?_
    refine v_icmpge (t := 135) (pc' := 99) dX12_faces_96 (by decide) rfl ?_ ?_
    · refine v_iconst (v := 0) (pc' := 136) dX12_faces_135 rfl rfl ?_
      refine v_istore (lv' := [(6, .int 0), (0, rf g a0), (1, .int x1), (2, .int x2), (3, .int x3), (4, .int x4), (5, .int x5)]) (pc' := 138) dX12_faces_136 (by decide) rfl rfl ?_
      refine V.sub [1, 3, 4, 5, 6, 0] rfl ?_
      exact h_X12_faces_b138 g NF a0 x2 x3 x4 x5 0
    · refine v_aload_n (pc' := 100) 0 dX12_faces_99 rfl rfl rfl ?_
      refine v_getR (pc' := 103) fl_X12_61 dX12_faces_100 rfl fun r5 => ?_
      refine v_iload (pc' := 105) 6 dX12_faces_103 rfl rfl ?_
      refine v_iconst (v := 0) (pc' := 106) dX12_faces_105 rfl rfl ?_
      refine v_callS (vs := [rf g r5, .int x6, .int 0]) (pc' := 109) (h_X12_plateOf g r5 x6 0) ms_X12_plateOf wl_X12_263 (Nat.le_of_ble_eq_true rfl) (by omega) (by decide) (Nat.le_of_ble_eq_true rfl) rfl dX12_faces_106 rfl fun v6 => ?_
      refine v_iload_n (pc' := 110) 1 dX12_faces_109 rfl rfl rfl ?_
      refine v_icmpne (t := 129) (pc' := 113) dX12_faces_110 (by decide) rfl ?_ ?_
      · refine V.sub [0, 1, 2, 3, 4, 5, 6] rfl ?_
        exact h_X12_faces_b129 g (f_X12_faces_b87 n) ih a0 x1 x2 x3 x4 x5 x6
      · refine v_aload_n (pc' := 114) 0 dX12_faces_113 rfl rfl rfl ?_
        refine v_getR (pc' := 117) fl_X12_85 dX12_faces_114 rfl fun r7 => ?_
        refine v_aload_n (pc' := 118) 0 dX12_faces_117 rfl rfl rfl ?_
        refine v_getR (pc' := 121) fl_X12_61 dX12_faces_118 rfl fun r8 => ?_
        refine v_iload (pc' := 123) 6 dX12_faces_121 rfl rfl ?_
        refine v_iconst (v := 3) (pc' := 124) dX12_faces_123 rfl rfl ?_
        refine v_callS (vs := [rf g r8, .int x6, .int 3]) (pc' := 127) (h_X12_plateOf g r8 x6 3) ms_X12_plateOf wl_X12_263 (Nat.le_of_ble_eq_true rfl) (by omega) (by decide) (Nat.le_of_ble_eq_true rfl) rfl dX12_faces_124 rfl fun v9 => ?_
        refine v_iconst (v := 1) (pc' := 128) dX12_faces_127 rfl rfl ?_
        refine v_iast (pc' := 129) dX12_faces_128 rfl ?_
        refine V.sub [0, 1, 2, 3, 4, 5, 6] rfl ?_
        exact h_X12_faces_b129 g (f_X12_faces_b87 n) ih a0 x1 x2 x3 x4 x5 x6
set_option maxRecDepth 20000 in
theorem h_X12_faces_b63 (g : GW) : ∀ n : Nat, ∀ a0 x1 x2 x3 x4 x5 x6, V g mX12_faces 10 rtI 63 [(0, rf g a0), (1, .int x1), (2, .int x2), (3, .int x3), (4, .int x4), (5, .int x5), (6, .int x6)] [] (f_X12_faces_b63 n a0 x1 x2 x3 x4 x5 x6) := by
  intro n
  induction n with
  | zero => intro a0 x1 x2 x3 x4 x5 x6; exact V.vain
  | succ n ih =>
    intro a0 x1 x2 x3 x4 x5 x6
    unfold f_X12_faces_b63
    refine v_iload (pc' := 65) 6 dX12_faces_63 rfl rfl ?_
    refine v_bipush (v := 64) (pc' := 67) dX12_faces_65 rfl rfl ?_
    refine v_icmpge (t := 84) (pc' := 70) dX12_faces_67 (by decide) rfl ?_ ?_
    · refine v_iconst (v := 0) (pc' := 85) dX12_faces_84 rfl rfl ?_
      refine v_istore (lv' := [(6, .int 0), (0, rf g a0), (1, .int x1), (2, .int x2), (3, .int x3), (4, .int x4), (5, .int x5)]) (pc' := 87) dX12_faces_85 (by decide) rfl rfl ?_
      refine V.sub [1, 2, 3, 4, 5, 6, 0] rfl ?_
      exact h_X12_faces_b87 g NF a0 x1 x2 x3 x4 x5 0
    · refine v_aload_n (pc' := 71) 0 dX12_faces_70 rfl rfl rfl ?_
      refine v_getR (pc' := 74) fl_X12_85 dX12_faces_71 rfl fun r10 => ?_
      refine v_iload (pc' := 76) 6 dX12_faces_74 rfl rfl ?_
      refine v_iconst (v := 0) (pc' := 77) dX12_faces_76 rfl rfl ?_
      refine v_iast (pc' := 78) dX12_faces_77 rfl ?_
      refine v_iinc (v := x6 + 1) (lv' := [(6, .int (x6 + 1)), (0, rf g a0), (1, .int x1), (2, .int x2), (3, .int x3), (4, .int x4), (5, .int x5)]) (pc' := 81) 6 dX12_faces_78 rfl rfl (by decide) rfl rfl ?_
      refine v_goto (t := 63) dX12_faces_81 (by decide) ?_
      refine V.sub [1, 2, 3, 4, 5, 6, 0] rfl ?_
      exact ih a0 x1 x2 x3 x4 x5 (x6 + 1)
set_option maxRecDepth 20000 in
theorem h_X12_faces_b42 (g : GW) (a0 : Nat) (x1 : Int32) (x2 : Int32) (xs0 : Int32) (as1 : Nat) : V g mX12_faces 10 rtI 42 [(0, rf g a0), (1, .int x1), (2, .int x2)] [.int xs0, rf g as1] (f_X12_faces_b42 a0 x1 x2 xs0 as1) := by
  unfold f_X12_faces_b42
  refine v_iconst (v := 2) (pc' := 43) dX12_faces_42 rfl rfl ?_
  refine v_iconst (v := 1) (pc' := 44) dX12_faces_43 rfl rfl ?_
  refine v_callV (vs := [.int xs0, .int 2, .int 1]) (pc' := 47) (h_X12_bad g as1 xs0 2 1) mv_X12_bad wl_X12_167 rfl (Nat.le_of_ble_eq_true rfl) (by omega) (by decide) (Nat.le_of_ble_eq_true rfl) rfl dX12_faces_44 rfl fun v11 => ?_
  refine v_ifeq (t := 52) (pc' := 50) dX12_faces_47 (by decide) rfl ?_ ?_
  · refine v_iconst (v := 0) (pc' := 53) dX12_faces_52 rfl rfl ?_
    refine v_istore_n (lv' := [(3, .int 0), (0, rf g a0), (1, .int x1), (2, .int x2)]) (pc' := 54) dX12_faces_53 rfl (by decide) rfl rfl ?_
    refine v_iconst (v := -1) (pc' := 55) dX12_faces_54 rfl rfl ?_
    refine v_istore (lv' := [(4, .int (-1)), (3, .int 0), (0, rf g a0), (1, .int x1), (2, .int x2)]) (pc' := 57) dX12_faces_55 (by decide) rfl rfl ?_
    refine v_iconst (v := -1) (pc' := 58) dX12_faces_57 rfl rfl ?_
    refine v_istore (lv' := [(5, .int (-1)), (4, .int (-1)), (3, .int 0), (0, rf g a0), (1, .int x1), (2, .int x2)]) (pc' := 60) dX12_faces_58 (by decide) rfl rfl ?_
    refine v_iconst (v := 0) (pc' := 61) dX12_faces_60 rfl rfl ?_
    refine v_istore (lv' := [(6, .int 0), (5, .int (-1)), (4, .int (-1)), (3, .int 0), (0, rf g a0), (1, .int x1), (2, .int x2)]) (pc' := 63) dX12_faces_61 (by decide) rfl rfl ?_
    refine V.sub [4, 5, 6, 3, 2, 1, 0] rfl ?_
    exact h_X12_faces_b63 g NF a0 x1 x2 0 (-1) (-1) 0
  · refine v_iconst (v := 0) (pc' := 51) dX12_faces_50 rfl rfl ?_
    exact v_ireturn rfl dX12_faces_51
set_option maxRecDepth 20000 in
theorem h_X12_faces_b19 (g : GW) (a0 : Nat) (x1 : Int32) (x2 : Int32) (xs0 : Int32) (as1 : Nat) : V g mX12_faces 10 rtI 19 [(0, rf g a0), (1, .int x1), (2, .int x2)] [.int xs0, rf g as1] (f_X12_faces_b19 a0 x1 x2 xs0 as1) := by
  unfold f_X12_faces_b19
  refine v_iconst (v := 1) (pc' := 20) dX12_faces_19 rfl rfl ?_
  refine v_iconst (v := 0) (pc' := 21) dX12_faces_20 rfl rfl ?_
  refine v_callV (vs := [.int xs0, .int 1, .int 0]) (pc' := 24) (h_X12_bad g as1 xs0 1 0) mv_X12_bad wl_X12_167 rfl (Nat.le_of_ble_eq_true rfl) (by omega) (by decide) (Nat.le_of_ble_eq_true rfl) rfl dX12_faces_21 rfl fun v12 => ?_
  refine v_ifne (t := 50) (pc' := 27) dX12_faces_24 (by decide) rfl ?_ ?_
  · refine v_iconst (v := 0) (pc' := 51) dX12_faces_50 rfl rfl ?_
    exact v_ireturn rfl dX12_faces_51
  · refine v_aload_n (pc' := 28) 0 dX12_faces_27 rfl rfl rfl ?_
    refine v_iload_n (pc' := 29) 2 dX12_faces_28 rfl rfl rfl ?_
    refine v_iconst (v := 0) (pc' := 30) dX12_faces_29 rfl rfl ?_
    refine v_iconst (v := 2) (pc' := 31) dX12_faces_30 rfl rfl ?_
    refine v_callS (vs := [.int x2, .int 0, .int 2]) (pc' := 34) (h_X12_in g x2 0 2) ms_X12_in wl_X12_128 (Nat.le_of_ble_eq_true rfl) (by omega) (by decide) (Nat.le_of_ble_eq_true rfl) rfl dX12_faces_31 rfl fun v13 => ?_
    refine v_ifne (t := 41) (pc' := 37) dX12_faces_34 (by decide) rfl ?_ ?_
    · refine v_iconst (v := 0) (pc' := 42) dX12_faces_41 rfl rfl ?_
      refine V.sub [0, 1, 2] rfl ?_
      exact h_X12_faces_b42 g a0 x1 x2 0 a0
    · refine v_iconst (v := 1) (pc' := 38) dX12_faces_37 rfl rfl ?_
      refine v_goto (t := 42) dX12_faces_38 (by decide) ?_
      refine V.sub [0, 1, 2] rfl ?_
      exact h_X12_faces_b42 g a0 x1 x2 1 a0
set_option maxRecDepth 20000 in
theorem h_X12_faces (g : GW) (a0 : Nat) (x1 : Int32) (x2 : Int32) : V g mX12_faces 10 rtI 0 [(0, rf g a0), (1, .int x1), (2, .int x2)] [] (f_X12_faces a0 x1 x2) := by
  unfold f_X12_faces
  refine v_aload_n (pc' := 1) 0 dX12_faces_0 rfl rfl rfl ?_
  refine v_iconst (v := 0) (pc' := 2) dX12_faces_1 rfl rfl ?_
  refine v_put (v := (.int 0)) (v' := .int 0) (pc' := 5) fw_X12_94 rfl rfl rfl (fun h => nomatch h) dX12_faces_2 rfl ?_
  refine v_aload_n (pc' := 6) 0 dX12_faces_5 rfl rfl rfl ?_
  refine v_aload_n (pc' := 7) 0 dX12_faces_6 rfl rfl rfl ?_
  refine v_iload_n (pc' := 8) 1 dX12_faces_7 rfl rfl rfl ?_
  refine v_callV (vs := [.int x1]) (pc' := 11) (h_X12_isPerson g a0 x1) mv_X12_isPerson wl_X12_296 rfl (Nat.le_of_ble_eq_true rfl) (by omega) (by decide) (Nat.le_of_ble_eq_true rfl) rfl dX12_faces_8 rfl fun v14 => ?_
  refine v_ifne (t := 18) (pc' := 14) dX12_faces_11 (by decide) rfl ?_ ?_
  · refine v_iconst (v := 0) (pc' := 19) dX12_faces_18 rfl rfl ?_
    refine V.sub [0, 1, 2] rfl ?_
    exact h_X12_faces_b19 g a0 x1 x2 0 a0
  · refine v_iconst (v := 1) (pc' := 15) dX12_faces_14 rfl rfl ?_
    refine v_goto (t := 19) dX12_faces_15 (by decide) ?_
    refine V.sub [0, 1, 2] rfl ?_
    exact h_X12_faces_b19 g a0 x1 x2 1 a0
-- common
def f_X12_common_b61 (k32 : Nat → Int32 → Int32 → Int32 → Mo Int32) (a0 : Nat) (x1 : Int32) (x3 : Int32) (xs0 : Int32) (xs1 : Int32) : Mo Int32 := k32 a0 x1 (xs1 ||| xs0) (x3 + 1)
def f_X12_common_b32 : Nat → Nat → Int32 → Int32 → Int32 → Mo Int32
  | 0, _, _, _, _ => fl
  | n + 1, a0, x1, x2, x3 => bd (gR 12 12 a0) fun r1 => bd (al 0 r1 0) fun v2 => if (v2 ≤ x3 : Prop) then (pu x2) else bd (cv 12 a0 (f_X12_faceOf a0 x3)) fun v3 => if ((v3 &&& x1) = x1 : Prop) then (f_X12_common_b61 (f_X12_common_b32 n) a0 x1 x3 ((1 : Int32) <<< (x3 &&& 31)) x2) else f_X12_common_b61 (f_X12_common_b32 n) a0 x1 x3 0 x2
def f_X12_common_b18 (a0 : Nat) (x1 : Int32) (xs0 : Int32) (as1 : Nat) : Mo Int32 := bd (cv 12 as1 (f_X12_bad as1 xs0 1 1)) fun v4 => if (v4 = 0 : Prop) then (f_X12_common_b32 NF a0 x1 0 0) else pu 0
def f_X12_common (a0 : Nat) (x1 : Int32) : Mo Int32 := bd (pf 12 0 a0 (.int 0)) fun _ => bd (f_X12_isFace x1) fun v5 => if (v5 = 0 : Prop) then (f_X12_common_b18 a0 x1 1 a0) else f_X12_common_b18 a0 x1 0 a0
set_option maxRecDepth 20000 in
theorem h_X12_common_b61 (g : GW) (k32 : Nat → Int32 → Int32 → Int32 → Mo Int32) (hk32 : ∀ a0 x1 x2 x3, V g mX12_common 10 rtI 32 [(0, rf g a0), (1, .int x1), (2, .int x2), (3, .int x3)] [] (k32 a0 x1 x2 x3)) (a0 : Nat) (x1 : Int32) (x3 : Int32) (xs0 : Int32) (xs1 : Int32) : V g mX12_common 10 rtI 61 [(0, rf g a0), (1, .int x1), (3, .int x3)] [.int xs0, .int xs1] (f_X12_common_b61 k32 a0 x1 x3 xs0 xs1) := by
  unfold f_X12_common_b61
  refine v_ior (pc' := 62) dX12_common_61 rfl ?_
  refine v_istore_n (lv' := [(2, .int (xs1 ||| xs0)), (0, rf g a0), (1, .int x1), (3, .int x3)]) (pc' := 63) dX12_common_62 rfl (by decide) rfl rfl ?_
  refine v_iinc (v := x3 + 1) (lv' := [(3, .int (x3 + 1)), (2, .int (xs1 ||| xs0)), (0, rf g a0), (1, .int x1)]) (pc' := 66) 3 dX12_common_63 rfl rfl (by decide) rfl rfl ?_
  refine v_goto (t := 32) dX12_common_66 (by decide) ?_
  refine V.sub [2, 3, 1, 0] rfl ?_
  exact hk32 a0 x1 (xs1 ||| xs0) (x3 + 1)
set_option maxRecDepth 20000 in
theorem h_X12_common_b32 (g : GW) : ∀ n : Nat, ∀ a0 x1 x2 x3, V g mX12_common 10 rtI 32 [(0, rf g a0), (1, .int x1), (2, .int x2), (3, .int x3)] [] (f_X12_common_b32 n a0 x1 x2 x3) := by
  intro n
  induction n with
  | zero => intro a0 x1 x2 x3; exact V.vain
  | succ n ih =>
    intro a0 x1 x2 x3
    unfold f_X12_common_b32
    refine v_iload_n (pc' := 33) 3 dX12_common_32 rfl rfl rfl ?_
    refine v_aload_n (pc' := 34) 0 dX12_common_33 rfl rfl rfl ?_
    refine v_getR (pc' := 37) fl_X12_23 dX12_common_34 rfl fun r1 => ?_
    refine v_iconst (v := 0) (pc' := 38) dX12_common_37 rfl rfl ?_
    refine v_iald (pc' := 39) dX12_common_38 rfl fun v2 => ?_
    refine v_icmpge (t := 69) (pc' := 42) dX12_common_39 (by decide) rfl ?_ ?_
    · refine v_iload_n (pc' := 70) 2 dX12_common_69 rfl rfl rfl ?_
      exact v_ireturn rfl dX12_common_70
    · refine v_iload_n (pc' := 43) 2 dX12_common_42 rfl rfl rfl ?_
      refine v_aload_n (pc' := 44) 0 dX12_common_43 rfl rfl rfl ?_
      refine v_iload_n (pc' := 45) 3 dX12_common_44 rfl rfl rfl ?_
      refine v_callV (vs := [.int x3]) (pc' := 48) (h_X12_faceOf g a0 x3) mv_X12_faceOf wl_X12_253 rfl (Nat.le_of_ble_eq_true rfl) (by omega) (by decide) (Nat.le_of_ble_eq_true rfl) rfl dX12_common_45 rfl fun v3 => ?_
      refine v_iload_n (pc' := 49) 1 dX12_common_48 rfl rfl rfl ?_
      refine v_iand (pc' := 50) dX12_common_49 rfl ?_
      refine v_iload_n (pc' := 51) 1 dX12_common_50 rfl rfl rfl ?_
      refine v_icmpne (t := 60) (pc' := 54) dX12_common_51 (by decide) rfl ?_ ?_
      · refine v_iconst (v := 0) (pc' := 61) dX12_common_60 rfl rfl ?_
        refine V.sub [0, 1, 3] rfl ?_
        exact h_X12_common_b61 g (f_X12_common_b32 n) ih a0 x1 x3 0 x2
      · refine v_iconst (v := 1) (pc' := 55) dX12_common_54 rfl rfl ?_
        refine v_iload_n (pc' := 56) 3 dX12_common_55 rfl rfl rfl ?_
        refine v_ishl (pc' := 57) dX12_common_56 rfl ?_
        refine v_goto (t := 61) dX12_common_57 (by decide) ?_
        refine V.sub [0, 1, 3] rfl ?_
        exact h_X12_common_b61 g (f_X12_common_b32 n) ih a0 x1 x3 ((1 : Int32) <<< (x3 &&& 31)) x2
set_option maxRecDepth 20000 in
theorem h_X12_common_b18 (g : GW) (a0 : Nat) (x1 : Int32) (xs0 : Int32) (as1 : Nat) : V g mX12_common 10 rtI 18 [(0, rf g a0), (1, .int x1)] [.int xs0, rf g as1] (f_X12_common_b18 a0 x1 xs0 as1) := by
  unfold f_X12_common_b18
  refine v_iconst (v := 1) (pc' := 19) dX12_common_18 rfl rfl ?_
  refine v_iconst (v := 1) (pc' := 20) dX12_common_19 rfl rfl ?_
  refine v_callV (vs := [.int xs0, .int 1, .int 1]) (pc' := 23) (h_X12_bad g as1 xs0 1 1) mv_X12_bad wl_X12_167 rfl (Nat.le_of_ble_eq_true rfl) (by omega) (by decide) (Nat.le_of_ble_eq_true rfl) rfl dX12_common_20 rfl fun v4 => ?_
  refine v_ifeq (t := 28) (pc' := 26) dX12_common_23 (by decide) rfl ?_ ?_
  · refine v_iconst (v := 0) (pc' := 29) dX12_common_28 rfl rfl ?_
    refine v_istore_n (lv' := [(2, .int 0), (0, rf g a0), (1, .int x1)]) (pc' := 30) dX12_common_29 rfl (by decide) rfl rfl ?_
    refine v_iconst (v := 0) (pc' := 31) dX12_common_30 rfl rfl ?_
    refine v_istore_n (lv' := [(3, .int 0), (2, .int 0), (0, rf g a0), (1, .int x1)]) (pc' := 32) dX12_common_31 rfl (by decide) rfl rfl ?_
    refine V.sub [2, 3, 1, 0] rfl ?_
    exact h_X12_common_b32 g NF a0 x1 0 0
  · refine v_iconst (v := 0) (pc' := 27) dX12_common_26 rfl rfl ?_
    exact v_ireturn rfl dX12_common_27
set_option maxRecDepth 20000 in
theorem h_X12_common (g : GW) (a0 : Nat) (x1 : Int32) : V g mX12_common 10 rtI 0 [(0, rf g a0), (1, .int x1)] [] (f_X12_common a0 x1) := by
  unfold f_X12_common
  refine v_aload_n (pc' := 1) 0 dX12_common_0 rfl rfl rfl ?_
  refine v_iconst (v := 0) (pc' := 2) dX12_common_1 rfl rfl ?_
  refine v_put (v := (.int 0)) (v' := .int 0) (pc' := 5) fw_X12_94 rfl rfl rfl (fun h => nomatch h) dX12_common_2 rfl ?_
  refine v_aload_n (pc' := 6) 0 dX12_common_5 rfl rfl rfl ?_
  refine v_iload_n (pc' := 7) 1 dX12_common_6 rfl rfl rfl ?_
  refine v_callS (vs := [.int x1]) (pc' := 10) (h_X12_isFace g x1) ms_X12_isFace wl_X12_308 (Nat.le_of_ble_eq_true rfl) (by omega) (by decide) (Nat.le_of_ble_eq_true rfl) rfl dX12_common_7 rfl fun v5 => ?_
  refine v_ifne (t := 17) (pc' := 13) dX12_common_10 (by decide) rfl ?_ ?_
  · refine v_iconst (v := 0) (pc' := 18) dX12_common_17 rfl rfl ?_
    refine V.sub [0, 1] rfl ?_
    exact h_X12_common_b18 g a0 x1 0 a0
  · refine v_iconst (v := 1) (pc' := 14) dX12_common_13 rfl rfl ?_
    refine v_goto (t := 18) dX12_common_14 (by decide) ?_
    refine V.sub [0, 1] rfl ?_
    exact h_X12_common_b18 g a0 x1 1 a0
