-- tellsNothing
def f_X12_tellsNothing_b16 : Nat → Nat → Int32 → Mo Unit
  | 0, _, _ => fl
  | n + 1, a0, x1 => if (8 ≤ x1 : Prop) then (pu ()) else bd (gR 12 13 a0) fun r1 => bd (as_ r1 x1 0) fun _ => (f_X12_tellsNothing_b16 n) a0 (x1 + 1)
def f_X12_tellsNothing (a0 : Nat) : Mo Unit := bd (gR 12 11 a0) fun r2 => bd (as_ r2 0 0) fun _ => bd (gR 12 11 a0) fun r3 => bd (as_ r3 1 1) fun _ => f_X12_tellsNothing_b16 NF a0 0
set_option maxRecDepth 20000 in
theorem h_X12_tellsNothing_b16 (g : GW) : ∀ n : Nat, ∀ a0 x1, V g mX12_tellsNothing 8 rtU 16 [(0, rf g a0), (1, .int x1)] [] (f_X12_tellsNothing_b16 n a0 x1) := by
  intro n
  induction n with
  | zero => intro a0 x1; exact V.vain
  | succ n ih =>
    intro a0 x1
    unfold f_X12_tellsNothing_b16
    refine v_iload_n (pc' := 17) 1 dX12_tellsNothing_16 rfl rfl rfl ?_
    refine v_bipush (v := 8) (pc' := 19) dX12_tellsNothing_17 rfl rfl ?_
    refine v_icmpge (t := 35) (pc' := 22) dX12_tellsNothing_19 (by decide) rfl ?_ ?_
    · exact v_return rfl dX12_tellsNothing_35
    · refine v_aload_n (pc' := 23) 0 dX12_tellsNothing_22 rfl rfl rfl ?_
      refine v_getR (pc' := 26) fl_X12_26 dX12_tellsNothing_23 rfl fun r1 => ?_
      refine v_iload_n (pc' := 27) 1 dX12_tellsNothing_26 rfl rfl rfl ?_
      refine v_iconst (v := 0) (pc' := 28) dX12_tellsNothing_27 rfl rfl ?_
      refine v_iast (pc' := 29) dX12_tellsNothing_28 rfl ?_
      refine v_iinc (v := x1 + 1) (lv' := [(1, .int (x1 + 1)), (0, rf g a0)]) (pc' := 32) 1 dX12_tellsNothing_29 rfl rfl (by decide) rfl rfl ?_
      refine v_goto (t := 16) dX12_tellsNothing_32 (by decide) ?_
      refine V.sub [1, 0] rfl ?_
      exact ih a0 (x1 + 1)
set_option maxRecDepth 20000 in
theorem h_X12_tellsNothing (g : GW) (a0 : Nat) : V g mX12_tellsNothing 8 rtU 0 [(0, rf g a0)] [] (f_X12_tellsNothing a0) := by
  unfold f_X12_tellsNothing
  refine v_aload_n (pc' := 1) 0 dX12_tellsNothing_0 rfl rfl rfl ?_
  refine v_getR (pc' := 4) fl_X12_20 dX12_tellsNothing_1 rfl fun r2 => ?_
  refine v_iconst (v := 0) (pc' := 5) dX12_tellsNothing_4 rfl rfl ?_
  refine v_iconst (v := 0) (pc' := 6) dX12_tellsNothing_5 rfl rfl ?_
  refine v_iast (pc' := 7) dX12_tellsNothing_6 rfl ?_
  refine v_aload_n (pc' := 8) 0 dX12_tellsNothing_7 rfl rfl rfl ?_
  refine v_getR (pc' := 11) fl_X12_20 dX12_tellsNothing_8 rfl fun r3 => ?_
  refine v_iconst (v := 1) (pc' := 12) dX12_tellsNothing_11 rfl rfl ?_
  refine v_iconst (v := 1) (pc' := 13) dX12_tellsNothing_12 rfl rfl ?_
  refine v_iast (pc' := 14) dX12_tellsNothing_13 rfl ?_
  refine v_iconst (v := 0) (pc' := 15) dX12_tellsNothing_14 rfl rfl ?_
  refine v_istore_n (lv' := [(1, .int 0), (0, rf g a0)]) (pc' := 16) dX12_tellsNothing_15 rfl (by decide) rfl rfl ?_
  refine V.sub [1, 0] rfl ?_
  exact h_X12_tellsNothing_b16 g NF a0 0
-- lays
def f_X12_lays_b10 (k2 : Nat → Nat → Int32 → Int32 → Mo Unit) : Nat → Nat → Nat → Int32 → Int32 → Int32 → Mo Unit
  | 0, _, _, _, _, _ => fl
  | n + 1, a0, a1, x2, x3, x4 => bd (aR 3 a1 x3) fun r1 => bd (aLen r1) fun v2 => if (v2 ≤ x4 : Prop) then (k2 a0 a1 x2 (x3 + 1)) else bd (aR 3 a1 x3) fun r3 => bd (aR 3 a0 x3) fun r4 => bd (al 0 r4 x4) fun v5 => bd (as_ r3 x4 v5) fun _ => (f_X12_lays_b10 k2 n) a0 a1 x2 x3 (x4 + 1)
def f_X12_lays_b2 : Nat → Nat → Nat → Int32 → Int32 → Mo Unit
  | 0, _, _, _, _ => fl
  | n + 1, a0, a1, x2, x3 => if (x2 ≤ x3 : Prop) then (pu ()) else f_X12_lays_b10 (f_X12_lays_b2 n) NF a0 a1 x2 x3 0
def f_X12_lays (a0 : Nat) (a1 : Nat) (x2 : Int32) : Mo Unit := f_X12_lays_b2 NF a0 a1 x2 0
set_option maxRecDepth 20000 in
theorem h_X12_lays_b10 (g : GW) (k2 : Nat → Nat → Int32 → Int32 → Mo Unit) (hk2 : ∀ a0 a1 x2 x3, V g mX12_lays 8 rtU 2 [(0, rf g a0), (1, rf g a1), (2, .int x2), (3, .int x3)] [] (k2 a0 a1 x2 x3)) : ∀ n : Nat, ∀ a0 a1 x2 x3 x4, V g mX12_lays 8 rtU 10 [(0, rf g a0), (1, rf g a1), (2, .int x2), (3, .int x3), (4, .int x4)] [] (f_X12_lays_b10 k2 n a0 a1 x2 x3 x4) := by
  intro n
  induction n with
  | zero => intro a0 a1 x2 x3 x4; exact V.vain
  | succ n ih =>
    intro a0 a1 x2 x3 x4
    unfold f_X12_lays_b10
    refine v_iload (pc' := 12) 4 dX12_lays_10 rfl rfl ?_
    refine v_aload_n (pc' := 13) 1 dX12_lays_12 rfl rfl rfl ?_
    refine v_iload_n (pc' := 14) 3 dX12_lays_13 rfl rfl rfl ?_
    refine v_aaldR (pc' := 15) dX12_lays_14 rfl fun r1 => ?_
    refine v_alen (pc' := 16) dX12_lays_15 rfl fun v2 => ?_
    refine v_icmpge (t := 37) (pc' := 19) dX12_lays_16 (by decide) rfl ?_ ?_
    · refine v_iinc (v := x3 + 1) (lv' := [(3, .int (x3 + 1)), (0, rf g a0), (1, rf g a1), (2, .int x2), (4, .int x4)]) (pc' := 40) 3 dX12_lays_37 rfl rfl (by decide) rfl rfl ?_
      refine v_goto (t := 2) dX12_lays_40 (by decide) ?_
      refine V.sub [1, 2, 3, 0] rfl ?_
      exact hk2 a0 a1 x2 (x3 + 1)
    · refine v_aload_n (pc' := 20) 1 dX12_lays_19 rfl rfl rfl ?_
      refine v_iload_n (pc' := 21) 3 dX12_lays_20 rfl rfl rfl ?_
      refine v_aaldR (pc' := 22) dX12_lays_21 rfl fun r3 => ?_
      refine v_iload (pc' := 24) 4 dX12_lays_22 rfl rfl ?_
      refine v_aload_n (pc' := 25) 0 dX12_lays_24 rfl rfl rfl ?_
      refine v_iload_n (pc' := 26) 3 dX12_lays_25 rfl rfl rfl ?_
      refine v_aaldR (pc' := 27) dX12_lays_26 rfl fun r4 => ?_
      refine v_iload (pc' := 29) 4 dX12_lays_27 rfl rfl ?_
      refine v_iald (pc' := 30) dX12_lays_29 rfl fun v5 => ?_
      refine v_iast (pc' := 31) dX12_lays_30 rfl ?_
      refine v_iinc (v := x4 + 1) (lv' := [(4, .int (x4 + 1)), (0, rf g a0), (1, rf g a1), (2, .int x2), (3, .int x3)]) (pc' := 34) 4 dX12_lays_31 rfl rfl (by decide) rfl rfl ?_
      refine v_goto (t := 10) dX12_lays_34 (by decide) ?_
      refine V.sub [1, 2, 3, 4, 0] rfl ?_
      exact ih a0 a1 x2 x3 (x4 + 1)
set_option maxRecDepth 20000 in
theorem h_X12_lays_b2 (g : GW) : ∀ n : Nat, ∀ a0 a1 x2 x3, V g mX12_lays 8 rtU 2 [(0, rf g a0), (1, rf g a1), (2, .int x2), (3, .int x3)] [] (f_X12_lays_b2 n a0 a1 x2 x3) := by
  intro n
  induction n with
  | zero => intro a0 a1 x2 x3; exact V.vain
  | succ n ih =>
    intro a0 a1 x2 x3
    unfold f_X12_lays_b2
    refine v_iload_n (pc' := 3) 3 dX12_lays_2 rfl rfl rfl ?_
    refine v_iload_n (pc' := 4) 2 dX12_lays_3 rfl rfl rfl ?_
    refine v_icmpge (t := 43) (pc' := 7) dX12_lays_4 (by decide) rfl ?_ ?_
    · exact v_return rfl dX12_lays_43
    · refine v_iconst (v := 0) (pc' := 8) dX12_lays_7 rfl rfl ?_
      refine v_istore (lv' := [(4, .int 0), (0, rf g a0), (1, rf g a1), (2, .int x2), (3, .int x3)]) (pc' := 10) dX12_lays_8 (by decide) rfl rfl ?_
      refine V.sub [1, 2, 3, 4, 0] rfl ?_
      exact h_X12_lays_b10 g (f_X12_lays_b2 n) ih NF a0 a1 x2 x3 0
set_option maxRecDepth 20000 in
theorem h_X12_lays (g : GW) (a0 : Nat) (a1 : Nat) (x2 : Int32) : V g mX12_lays 8 rtU 0 [(0, rf g a0), (1, rf g a1), (2, .int x2)] [] (f_X12_lays a0 a1 x2) := by
  unfold f_X12_lays
  refine v_iconst (v := 0) (pc' := 1) dX12_lays_0 rfl rfl ?_
  refine v_istore_n (lv' := [(3, .int 0), (0, rf g a0), (1, rf g a1), (2, .int x2)]) (pc' := 2) dX12_lays_1 rfl (by decide) rfl rfl ?_
  refine V.sub [1, 2, 3, 0] rfl ?_
  exact h_X12_lays_b2 g NF a0 a1 x2 0
-- beginsAnew
def f_X12_beginsAnew_b70 : Nat → Nat → Int32 → Mo Unit
  | 0, _, _ => fl
  | n + 1, a0, x1 => if (228 ≤ x1 : Prop) then (bd (pf 12 17 a0 (.int 0)) fun _ => bd (pf 12 31 a0 (.int 0)) fun _ => bd (pf 12 32 a0 (.int 0)) fun _ => bd (pf 12 33 a0 (.int 0)) fun _ => bd (pf 12 34 a0 (.int 0)) fun _ => pu ()) else bd (gR 12 27 a0) fun r1 => bd (as_ r1 x1 0) fun _ => (f_X12_beginsAnew_b70 n) a0 (x1 + 1)
def f_X12_beginsAnew_b27 : Nat → Nat → Int32 → Mo Unit
  | 0, _, _ => fl
  | n + 1, a0, x1 => if (8 ≤ x1 : Prop) then (bd (gR 12 15 a0) fun r2 => bd (gR 12 16 a0) fun r3 => bd (gR 12 12 a0) fun r4 => bd (al 0 r4 0) fun v5 => bd (f_X12_lays r2 r3 v5) fun _ => f_X12_beginsAnew_b70 NF a0 0) else bd (gR 12 14 a0) fun r6 => bd (gR 12 13 a0) fun r7 => bd (al 0 r7 x1) fun v8 => bd (as_ r6 x1 v8) fun _ => (f_X12_beginsAnew_b27 n) a0 (x1 + 1)
def f_X12_beginsAnew_b2 : Nat → Nat → Int32 → Mo Unit
  | 0, _, _ => fl
  | n + 1, a0, x1 => if (2 ≤ x1 : Prop) then (f_X12_beginsAnew_b27 NF a0 0) else bd (gR 12 12 a0) fun r9 => bd (gR 12 11 a0) fun r10 => bd (al 0 r10 x1) fun v11 => bd (as_ r9 x1 v11) fun _ => (f_X12_beginsAnew_b2 n) a0 (x1 + 1)
def f_X12_beginsAnew (a0 : Nat) : Mo Unit := f_X12_beginsAnew_b2 NF a0 0
set_option maxRecDepth 20000 in
theorem h_X12_beginsAnew_b70 (g : GW) : ∀ n : Nat, ∀ a0 x1, V g mX12_beginsAnew 9 rtU 70 [(0, rf g a0), (1, .int x1)] [] (f_X12_beginsAnew_b70 n a0 x1) := by
  intro n
  induction n with
  | zero => intro a0 x1; exact V.vain
  | succ n ih =>
    intro a0 x1
    unfold f_X12_beginsAnew_b70
    refine v_iload_n (pc' := 71) 1 dX12_beginsAnew_70 rfl rfl rfl ?_
    refine v_sipush (v := 228) (pc' := 74) dX12_beginsAnew_71 rfl rfl ?_
    refine v_icmpge (t := 90) (pc' := 77) dX12_beginsAnew_74 (by decide) rfl ?_ ?_
    · refine v_aload_n (pc' := 91) 0 dX12_beginsAnew_90 rfl rfl rfl ?_
      refine v_iconst (v := 0) (pc' := 92) dX12_beginsAnew_91 rfl rfl ?_
      refine v_put (v := (.int 0)) (v' := .int 0) (pc' := 95) fw_X12_184 rfl rfl rfl (fun h => nomatch h) dX12_beginsAnew_92 rfl ?_
      refine v_aload_n (pc' := 96) 0 dX12_beginsAnew_95 rfl rfl rfl ?_
      refine v_iconst (v := 0) (pc' := 97) dX12_beginsAnew_96 rfl rfl ?_
      refine v_put (v := (.int 0)) (v' := .int 0) (pc' := 100) fw_X12_187 rfl rfl rfl (fun h => nomatch h) dX12_beginsAnew_97 rfl ?_
      refine v_aload_n (pc' := 101) 0 dX12_beginsAnew_100 rfl rfl rfl ?_
      refine v_iconst (v := 0) (pc' := 102) dX12_beginsAnew_101 rfl rfl ?_
      refine v_put (v := (.int 0)) (v' := .int 0) (pc' := 105) fw_X12_190 rfl rfl rfl (fun h => nomatch h) dX12_beginsAnew_102 rfl ?_
      refine v_aload_n (pc' := 106) 0 dX12_beginsAnew_105 rfl rfl rfl ?_
      refine v_iconst (v := 0) (pc' := 107) dX12_beginsAnew_106 rfl rfl ?_
      refine v_put (v := (.int 0)) (v' := .int 0) (pc' := 110) fw_X12_193 rfl rfl rfl (fun h => nomatch h) dX12_beginsAnew_107 rfl ?_
      refine v_aload_n (pc' := 111) 0 dX12_beginsAnew_110 rfl rfl rfl ?_
      refine v_iconst (v := 0) (pc' := 112) dX12_beginsAnew_111 rfl rfl ?_
      refine v_put (v := (.int 0)) (v' := .int 0) (pc' := 115) fw_X12_196 rfl rfl rfl (fun h => nomatch h) dX12_beginsAnew_112 rfl ?_
      exact v_return rfl dX12_beginsAnew_115
    · refine v_aload_n (pc' := 78) 0 dX12_beginsAnew_77 rfl rfl rfl ?_
      refine v_getR (pc' := 81) fl_X12_61 dX12_beginsAnew_78 rfl fun r1 => ?_
      refine v_iload_n (pc' := 82) 1 dX12_beginsAnew_81 rfl rfl rfl ?_
      refine v_iconst (v := 0) (pc' := 83) dX12_beginsAnew_82 rfl rfl ?_
      refine v_iast (pc' := 84) dX12_beginsAnew_83 rfl ?_
      refine v_iinc (v := x1 + 1) (lv' := [(1, .int (x1 + 1)), (0, rf g a0)]) (pc' := 87) 1 dX12_beginsAnew_84 rfl rfl (by decide) rfl rfl ?_
      refine v_goto (t := 70) dX12_beginsAnew_87 (by decide) ?_
      refine V.sub [1, 0] rfl ?_
      exact ih a0 (x1 + 1)
set_option maxRecDepth 20000 in
theorem h_X12_beginsAnew_b27 (g : GW) : ∀ n : Nat, ∀ a0 x1, V g mX12_beginsAnew 9 rtU 27 [(0, rf g a0), (1, .int x1)] [] (f_X12_beginsAnew_b27 n a0 x1) := by
  intro n
  induction n with
  | zero => intro a0 x1; exact V.vain
  | succ n ih =>
    intro a0 x1
    unfold f_X12_beginsAnew_b27
    refine v_iload_n (pc' := 28) 1 dX12_beginsAnew_27 rfl rfl rfl ?_
    refine v_bipush (v := 8) (pc' := 30) dX12_beginsAnew_28 rfl rfl ?_
    refine v_icmpge (t := 51) (pc' := 33) dX12_beginsAnew_30 (by decide) rfl ?_ ?_
    · refine v_aload_n (pc' := 52) 0 dX12_beginsAnew_51 rfl rfl rfl ?_
      refine v_getR (pc' := 55) fl_X12_34 dX12_beginsAnew_52 rfl fun r2 => ?_
      refine v_aload_n (pc' := 56) 0 dX12_beginsAnew_55 rfl rfl rfl ?_
      refine v_getR (pc' := 59) fl_X12_37 dX12_beginsAnew_56 rfl fun r3 => ?_
      refine v_aload_n (pc' := 60) 0 dX12_beginsAnew_59 rfl rfl rfl ?_
      refine v_getR (pc' := 63) fl_X12_23 dX12_beginsAnew_60 rfl fun r4 => ?_
      refine v_iconst (v := 0) (pc' := 64) dX12_beginsAnew_63 rfl rfl ?_
      refine v_iald (pc' := 65) dX12_beginsAnew_64 rfl fun v5 => ?_
      refine v_callS (vs := [rf g r2, rf g r3, .int v5]) (pc' := 68) (h_X12_lays g r2 r3 v5) ms_X12_lays wl_X12_180 (Nat.le_of_ble_eq_true rfl) (by omega) (by decide) (Nat.le_of_ble_eq_true rfl) rfl dX12_beginsAnew_65 rfl fun _ => ?_
      refine v_iconst (v := 0) (pc' := 69) dX12_beginsAnew_68 rfl rfl ?_
      refine v_istore_n (lv' := [(1, .int 0), (0, rf g a0)]) (pc' := 70) dX12_beginsAnew_69 rfl (by decide) rfl rfl ?_
      refine V.sub [1, 0] rfl ?_
      exact h_X12_beginsAnew_b70 g NF a0 0
    · refine v_aload_n (pc' := 34) 0 dX12_beginsAnew_33 rfl rfl rfl ?_
      refine v_getR (pc' := 37) fl_X12_29 dX12_beginsAnew_34 rfl fun r6 => ?_
      refine v_iload_n (pc' := 38) 1 dX12_beginsAnew_37 rfl rfl rfl ?_
      refine v_aload_n (pc' := 39) 0 dX12_beginsAnew_38 rfl rfl rfl ?_
      refine v_getR (pc' := 42) fl_X12_26 dX12_beginsAnew_39 rfl fun r7 => ?_
      refine v_iload_n (pc' := 43) 1 dX12_beginsAnew_42 rfl rfl rfl ?_
      refine v_iald (pc' := 44) dX12_beginsAnew_43 rfl fun v8 => ?_
      refine v_iast (pc' := 45) dX12_beginsAnew_44 rfl ?_
      refine v_iinc (v := x1 + 1) (lv' := [(1, .int (x1 + 1)), (0, rf g a0)]) (pc' := 48) 1 dX12_beginsAnew_45 rfl rfl (by decide) rfl rfl ?_
      refine v_goto (t := 27) dX12_beginsAnew_48 (by decide) ?_
      refine V.sub [1, 0] rfl ?_
      exact ih a0 (x1 + 1)
set_option maxRecDepth 20000 in
theorem h_X12_beginsAnew_b2 (g : GW) : ∀ n : Nat, ∀ a0 x1, V g mX12_beginsAnew 9 rtU 2 [(0, rf g a0), (1, .int x1)] [] (f_X12_beginsAnew_b2 n a0 x1) := by
  intro n
  induction n with
  | zero => intro a0 x1; exact V.vain
  | succ n ih =>
    intro a0 x1
    unfold f_X12_beginsAnew_b2
    refine v_iload_n (pc' := 3) 1 dX12_beginsAnew_2 rfl rfl rfl ?_
    refine v_iconst (v := 2) (pc' := 4) dX12_beginsAnew_3 rfl rfl ?_
    refine v_icmpge (t := 25) (pc' := 7) dX12_beginsAnew_4 (by decide) rfl ?_ ?_
    · refine v_iconst (v := 0) (pc' := 26) dX12_beginsAnew_25 rfl rfl ?_
      refine v_istore_n (lv' := [(1, .int 0), (0, rf g a0)]) (pc' := 27) dX12_beginsAnew_26 rfl (by decide) rfl rfl ?_
      refine V.sub [1, 0] rfl ?_
      exact h_X12_beginsAnew_b27 g NF a0 0
    · refine v_aload_n (pc' := 8) 0 dX12_beginsAnew_7 rfl rfl rfl ?_
      refine v_getR (pc' := 11) fl_X12_23 dX12_beginsAnew_8 rfl fun r9 => ?_
      refine v_iload_n (pc' := 12) 1 dX12_beginsAnew_11 rfl rfl rfl ?_
      refine v_aload_n (pc' := 13) 0 dX12_beginsAnew_12 rfl rfl rfl ?_
      refine v_getR (pc' := 16) fl_X12_20 dX12_beginsAnew_13 rfl fun r10 => ?_
      refine v_iload_n (pc' := 17) 1 dX12_beginsAnew_16 rfl rfl rfl ?_
      refine v_iald (pc' := 18) dX12_beginsAnew_17 rfl fun v11 => ?_
      refine v_iast (pc' := 19) dX12_beginsAnew_18 rfl ?_
      refine v_iinc (v := x1 + 1) (lv' := [(1, .int (x1 + 1)), (0, rf g a0)]) (pc' := 22) 1 dX12_beginsAnew_19 rfl rfl (by decide) rfl rfl ?_
      refine v_goto (t := 2) dX12_beginsAnew_22 (by decide) ?_
      refine V.sub [1, 0] rfl ?_
      exact ih a0 (x1 + 1)
set_option maxRecDepth 20000 in
theorem h_X12_beginsAnew (g : GW) (a0 : Nat) : V g mX12_beginsAnew 9 rtU 0 [(0, rf g a0)] [] (f_X12_beginsAnew a0) := by
  unfold f_X12_beginsAnew
  refine v_iconst (v := 0) (pc' := 1) dX12_beginsAnew_0 rfl rfl ?_
  refine v_istore_n (lv' := [(1, .int 0), (0, rf g a0)]) (pc' := 2) dX12_beginsAnew_1 rfl (by decide) rfl rfl ?_
  refine V.sub [1, 0] rfl ?_
  exact h_X12_beginsAnew_b2 g NF a0 0
-- <init>
def f_X12_init (a0 : Nat) : Mo Unit := bd (pf 12 3 a0 (.int (-1))) fun _ => bd (nA 0 600) fun r1 => bd (pf 12 9 a0 (.ref r1)) fun _ => bd (nA 0 2) fun r2 => bd (pf 12 10 a0 (.ref r2)) fun _ => bd (nA 0 2) fun r3 => bd (pf 12 11 a0 (.ref r3)) fun _ => bd (nA 0 2) fun r4 => bd (pf 12 12 a0 (.ref r4)) fun _ => bd (nA 0 8) fun r5 => bd (pf 12 13 a0 (.ref r5)) fun _ => bd (nA 0 8) fun r6 => bd (pf 12 14 a0 (.ref r6)) fun _ => bd (nM 8 3) fun r7 => bd (pf 12 15 a0 (.ref r7)) fun _ => bd (nM 8 3) fun r8 => bd (pf 12 16 a0 (.ref r8)) fun _ => bd (nM 160 2) fun r9 => bd (pf 12 19 a0 (.ref r9)) fun _ => bd (nM 160 2) fun r10 => bd (pf 12 20 a0 (.ref r10)) fun _ => bd (nM 8 2) fun r11 => bd (pf 12 21 a0 (.ref r11)) fun _ => bd (nM 8 2) fun r12 => bd (pf 12 22 a0 (.ref r12)) fun _ => bd (nA 0 160) fun r13 => bd (pf 12 23 a0 (.ref r13)) fun _ => bd (nA 0 8) fun r14 => bd (pf 12 24 a0 (.ref r14)) fun _ => bd (nM 80 5) fun r15 => bd (pf 12 25 a0 (.ref r15)) fun _ => bd (nA 0 228) fun r16 => bd (pf 12 27 a0 (.ref r16)) fun _ => bd (nA 0 228) fun r17 => bd (pf 12 28 a0 (.ref r17)) fun _ => bd (nM 16 228) fun r18 => bd (pf 12 29 a0 (.ref r18)) fun _ => bd (nM 3 3877) fun r19 => bd (pf 12 30 a0 (.ref r19)) fun _ => bd (nA 0 8) fun r20 => bd (pf 12 38 a0 (.ref r20)) fun _ => bd (nA 0 7) fun r21 => bd (pf 12 41 a0 (.ref r21)) fun _ => bd (nA 0 8) fun r22 => bd (pf 12 42 a0 (.ref r22)) fun _ => bd (nA 0 8) fun r23 => bd (pf 12 43 a0 (.ref r23)) fun _ => bd (nA 0 64) fun r24 => bd (pf 12 45 a0 (.ref r24)) fun _ => bd (cv 12 a0 (f_X12_tellsNothing a0)) fun _ => bd (cv 12 a0 (f_X12_beginsAnew a0)) fun _ => pu ()
set_option maxRecDepth 20000 in
theorem h_X12_init (g : GW) (a0 : Nat) : V g mX12_init 10 rtU 0 [(0, rf g a0)] [] (f_X12_init a0) := by
  unfold f_X12_init
  refine v_aload_n (pc' := 1) 0 dX12_init_0 rfl rfl rfl ?_
  refine v_objInit (pc' := 4) (tg6 110 (by decide +kernel) (by decide +kernel)) wo_inst wo_code (by omega) (Nat.le_of_ble_eq_true rfl) dX12_init_1 rfl ?_
  refine v_aload_n (pc' := 5) 0 dX12_init_4 rfl rfl rfl ?_
  refine v_iconst (v := -1) (pc' := 6) dX12_init_5 rfl rfl ?_
  refine v_put (v := (.int (-1))) (v' := .int (-1)) (pc' := 9) fw_X12_9 rfl rfl rfl (fun h => nomatch h) dX12_init_6 rfl ?_
  refine v_aload_n (pc' := 10) 0 dX12_init_9 rfl rfl rfl ?_
  refine v_sipush (v := 600) (pc' := 13) dX12_init_10 rfl rfl ?_
  refine v_newI (pc' := 15) wa_int dX12_init_13 rfl fun r1 => ?_
  refine v_put (v := (.ref r1)) (v' := rf g r1) (pc' := 18) fw_X12_13 rfl rfl rfl (fun _ => rfl) dX12_init_15 rfl ?_
  refine v_aload_n (pc' := 19) 0 dX12_init_18 rfl rfl rfl ?_
  refine v_iconst (v := 2) (pc' := 20) dX12_init_19 rfl rfl ?_
  refine v_newI (pc' := 22) wa_int dX12_init_20 rfl fun r2 => ?_
  refine v_put (v := (.ref r2)) (v' := rf g r2) (pc' := 25) fw_X12_17 rfl rfl rfl (fun _ => rfl) dX12_init_22 rfl ?_
  refine v_aload_n (pc' := 26) 0 dX12_init_25 rfl rfl rfl ?_
  refine v_iconst (v := 2) (pc' := 27) dX12_init_26 rfl rfl ?_
  refine v_newI (pc' := 29) wa_int dX12_init_27 rfl fun r3 => ?_
  refine v_put (v := (.ref r3)) (v' := rf g r3) (pc' := 32) fw_X12_20 rfl rfl rfl (fun _ => rfl) dX12_init_29 rfl ?_
  refine v_aload_n (pc' := 33) 0 dX12_init_32 rfl rfl rfl ?_
  refine v_iconst (v := 2) (pc' := 34) dX12_init_33 rfl rfl ?_
  refine v_newI (pc' := 36) wa_int dX12_init_34 rfl fun r4 => ?_
  refine v_put (v := (.ref r4)) (v' := rf g r4) (pc' := 39) fw_X12_23 rfl rfl rfl (fun _ => rfl) dX12_init_36 rfl ?_
  refine v_aload_n (pc' := 40) 0 dX12_init_39 rfl rfl rfl ?_
  refine v_bipush (v := 8) (pc' := 42) dX12_init_40 rfl rfl ?_
  refine v_newI (pc' := 44) wa_int dX12_init_42 rfl fun r5 => ?_
  refine v_put (v := (.ref r5)) (v' := rf g r5) (pc' := 47) fw_X12_26 rfl rfl rfl (fun _ => rfl) dX12_init_44 rfl ?_
  refine v_aload_n (pc' := 48) 0 dX12_init_47 rfl rfl rfl ?_
  refine v_bipush (v := 8) (pc' := 50) dX12_init_48 rfl rfl ?_
  refine v_newI (pc' := 52) wa_int dX12_init_50 rfl fun r6 => ?_
  refine v_put (v := (.ref r6)) (v' := rf g r6) (pc' := 55) fw_X12_29 rfl rfl rfl (fun _ => rfl) dX12_init_52 rfl ?_
  refine v_aload_n (pc' := 56) 0 dX12_init_55 rfl rfl rfl ?_
  refine v_bipush (v := 8) (pc' := 58) dX12_init_56 rfl rfl ?_
  refine v_iconst (v := 3) (pc' := 59) dX12_init_58 rfl rfl ?_
  refine v_newM (pc' := 63) (tg6 111 (by decide +kernel) (by decide +kernel)) wa_int dX12_init_59 rfl fun r7 => ?_
  refine v_put (v := (.ref r7)) (v' := rf g r7) (pc' := 66) fw_X12_34 rfl rfl rfl (fun _ => rfl) dX12_init_63 rfl ?_
  refine v_aload_n (pc' := 67) 0 dX12_init_66 rfl rfl rfl ?_
  refine v_bipush (v := 8) (pc' := 69) dX12_init_67 rfl rfl ?_
  refine v_iconst (v := 3) (pc' := 70) dX12_init_69 rfl rfl ?_
  refine v_newM (pc' := 74) (tg6 111 (by decide +kernel) (by decide +kernel)) wa_int dX12_init_70 rfl fun r8 => ?_
  refine v_put (v := (.ref r8)) (v' := rf g r8) (pc' := 77) fw_X12_37 rfl rfl rfl (fun _ => rfl) dX12_init_74 rfl ?_
  refine v_aload_n (pc' := 78) 0 dX12_init_77 rfl rfl rfl ?_
  refine v_sipush (v := 160) (pc' := 81) dX12_init_78 rfl rfl ?_
  refine v_iconst (v := 2) (pc' := 82) dX12_init_81 rfl rfl ?_
  refine v_newM (pc' := 86) (tg6 111 (by decide +kernel) (by decide +kernel)) wa_int dX12_init_82 rfl fun r9 => ?_
  refine v_put (v := (.ref r9)) (v' := rf g r9) (pc' := 89) fw_X12_40 rfl rfl rfl (fun _ => rfl) dX12_init_86 rfl ?_
  refine v_aload_n (pc' := 90) 0 dX12_init_89 rfl rfl rfl ?_
  refine v_sipush (v := 160) (pc' := 93) dX12_init_90 rfl rfl ?_
  refine v_iconst (v := 2) (pc' := 94) dX12_init_93 rfl rfl ?_
  refine v_newM (pc' := 98) (tg6 111 (by decide +kernel) (by decide +kernel)) wa_int dX12_init_94 rfl fun r10 => ?_
  refine v_put (v := (.ref r10)) (v' := rf g r10) (pc' := 101) fw_X12_43 rfl rfl rfl (fun _ => rfl) dX12_init_98 rfl ?_
  refine v_aload_n (pc' := 102) 0 dX12_init_101 rfl rfl rfl ?_
  refine v_bipush (v := 8) (pc' := 104) dX12_init_102 rfl rfl ?_
  refine v_iconst (v := 2) (pc' := 105) dX12_init_104 rfl rfl ?_
  refine v_newM (pc' := 109) (tg6 111 (by decide +kernel) (by decide +kernel)) wa_int dX12_init_105 rfl fun r11 => ?_
  refine v_put (v := (.ref r11)) (v' := rf g r11) (pc' := 112) fw_X12_46 rfl rfl rfl (fun _ => rfl) dX12_init_109 rfl ?_
  refine v_aload_n (pc' := 113) 0 dX12_init_112 rfl rfl rfl ?_
  refine v_bipush (v := 8) (pc' := 115) dX12_init_113 rfl rfl ?_
  refine v_iconst (v := 2) (pc' := 116) dX12_init_115 rfl rfl ?_
  refine v_newM (pc' := 120) (tg6 111 (by decide +kernel) (by decide +kernel)) wa_int dX12_init_116 rfl fun r12 => ?_
  refine v_put (v := (.ref r12)) (v' := rf g r12) (pc' := 123) fw_X12_49 rfl rfl rfl (fun _ => rfl) dX12_init_120 rfl ?_
  refine v_aload_n (pc' := 124) 0 dX12_init_123 rfl rfl rfl ?_
  refine v_sipush (v := 160) (pc' := 127) dX12_init_124 rfl rfl ?_
  refine v_newI (pc' := 129) wa_int dX12_init_127 rfl fun r13 => ?_
  refine v_put (v := (.ref r13)) (v' := rf g r13) (pc' := 132) fw_X12_52 rfl rfl rfl (fun _ => rfl) dX12_init_129 rfl ?_
  refine v_aload_n (pc' := 133) 0 dX12_init_132 rfl rfl rfl ?_
  refine v_bipush (v := 8) (pc' := 135) dX12_init_133 rfl rfl ?_
  refine v_newI (pc' := 137) wa_int dX12_init_135 rfl fun r14 => ?_
  refine v_put (v := (.ref r14)) (v' := rf g r14) (pc' := 140) fw_X12_55 rfl rfl rfl (fun _ => rfl) dX12_init_137 rfl ?_
  refine v_aload_n (pc' := 141) 0 dX12_init_140 rfl rfl rfl ?_
  refine v_bipush (v := 80) (pc' := 143) dX12_init_141 rfl rfl ?_
  refine v_iconst (v := 5) (pc' := 144) dX12_init_143 rfl rfl ?_
  refine v_newM (pc' := 148) (tg6 111 (by decide +kernel) (by decide +kernel)) wa_int dX12_init_144 rfl fun r15 => ?_
  refine v_put (v := (.ref r15)) (v' := rf g r15) (pc' := 151) fw_X12_58 rfl rfl rfl (fun _ => rfl) dX12_init_148 rfl ?_
  refine v_aload_n (pc' := 152) 0 dX12_init_151 rfl rfl rfl ?_
  refine v_sipush (v := 228) (pc' := 155) dX12_init_152 rfl rfl ?_
  refine v_newI (pc' := 157) wa_int dX12_init_155 rfl fun r16 => ?_
  refine v_put (v := (.ref r16)) (v' := rf g r16) (pc' := 160) fw_X12_61 rfl rfl rfl (fun _ => rfl) dX12_init_157 rfl ?_
  refine v_aload_n (pc' := 161) 0 dX12_init_160 rfl rfl rfl ?_
  refine v_sipush (v := 228) (pc' := 164) dX12_init_161 rfl rfl ?_
  refine v_newI (pc' := 166) wa_int dX12_init_164 rfl fun r17 => ?_
  refine v_put (v := (.ref r17)) (v' := rf g r17) (pc' := 169) fw_X12_64 rfl rfl rfl (fun _ => rfl) dX12_init_166 rfl ?_
  refine v_aload_n (pc' := 170) 0 dX12_init_169 rfl rfl rfl ?_
  refine v_bipush (v := 16) (pc' := 172) dX12_init_170 rfl rfl ?_
  refine v_sipush (v := 228) (pc' := 175) dX12_init_172 rfl rfl ?_
  refine v_newM (pc' := 179) (tg6 111 (by decide +kernel) (by decide +kernel)) wa_int dX12_init_175 rfl fun r18 => ?_
  refine v_put (v := (.ref r18)) (v' := rf g r18) (pc' := 182) fw_X12_67 rfl rfl rfl (fun _ => rfl) dX12_init_179 rfl ?_
  refine v_aload_n (pc' := 183) 0 dX12_init_182 rfl rfl rfl ?_
  refine v_iconst (v := 3) (pc' := 184) dX12_init_183 rfl rfl ?_
  refine v_sipush (v := 3877) (pc' := 187) dX12_init_184 rfl rfl ?_
  refine v_newM (pc' := 191) (tg6 111 (by decide +kernel) (by decide +kernel)) wa_int dX12_init_187 rfl fun r19 => ?_
  refine v_put (v := (.ref r19)) (v' := rf g r19) (pc' := 194) fw_X12_70 rfl rfl rfl (fun _ => rfl) dX12_init_191 rfl ?_
  refine v_aload_n (pc' := 195) 0 dX12_init_194 rfl rfl rfl ?_
  refine v_bipush (v := 8) (pc' := 197) dX12_init_195 rfl rfl ?_
  refine v_newI (pc' := 199) wa_int dX12_init_197 rfl fun r20 => ?_
  refine v_put (v := (.ref r20)) (v' := rf g r20) (pc' := 202) fw_X12_73 rfl rfl rfl (fun _ => rfl) dX12_init_199 rfl ?_
  refine v_aload_n (pc' := 203) 0 dX12_init_202 rfl rfl rfl ?_
  refine v_bipush (v := 7) (pc' := 205) dX12_init_203 rfl rfl ?_
  refine v_newI (pc' := 207) wa_int dX12_init_205 rfl fun r21 => ?_
  refine v_put (v := (.ref r21)) (v' := rf g r21) (pc' := 210) fw_X12_76 rfl rfl rfl (fun _ => rfl) dX12_init_207 rfl ?_
  refine v_aload_n (pc' := 211) 0 dX12_init_210 rfl rfl rfl ?_
  refine v_bipush (v := 8) (pc' := 213) dX12_init_211 rfl rfl ?_
  refine v_newI (pc' := 215) wa_int dX12_init_213 rfl fun r22 => ?_
  refine v_put (v := (.ref r22)) (v' := rf g r22) (pc' := 218) fw_X12_79 rfl rfl rfl (fun _ => rfl) dX12_init_215 rfl ?_
  refine v_aload_n (pc' := 219) 0 dX12_init_218 rfl rfl rfl ?_
  refine v_bipush (v := 8) (pc' := 221) dX12_init_219 rfl rfl ?_
  refine v_newI (pc' := 223) wa_int dX12_init_221 rfl fun r23 => ?_
  refine v_put (v := (.ref r23)) (v' := rf g r23) (pc' := 226) fw_X12_82 rfl rfl rfl (fun _ => rfl) dX12_init_223 rfl ?_
  refine v_aload_n (pc' := 227) 0 dX12_init_226 rfl rfl rfl ?_
  refine v_bipush (v := 64) (pc' := 229) dX12_init_227 rfl rfl ?_
  refine v_newI (pc' := 231) wa_int dX12_init_229 rfl fun r24 => ?_
  refine v_put (v := (.ref r24)) (v' := rf g r24) (pc' := 234) fw_X12_85 rfl rfl rfl (fun _ => rfl) dX12_init_231 rfl ?_
  refine v_aload_n (pc' := 235) 0 dX12_init_234 rfl rfl rfl ?_
  refine v_callV (vs := []) (pc' := 238) (h_X12_tellsNothing g a0) mv_X12_tellsNothing wl_X12_88 rfl (Nat.le_of_ble_eq_true rfl) (by omega) (by decide) (Nat.le_of_ble_eq_true rfl) rfl dX12_init_235 rfl fun _ => ?_
  refine v_aload_n (pc' := 239) 0 dX12_init_238 rfl rfl rfl ?_
  refine v_callV (vs := []) (pc' := 242) (h_X12_beginsAnew g a0) mv_X12_beginsAnew wl_X12_91 rfl (Nat.le_of_ble_eq_true rfl) (by omega) (by decide) (Nat.le_of_ble_eq_true rfl) rfl dX12_init_239 rfl fun _ => ?_
  exact v_return rfl dX12_init_242
-- thrown
def f_X12_thrown (a0 : Nat) : Mo Int32 := bd (gI 12 0 a0) fun v1 => pu v1
set_option maxRecDepth 20000 in
theorem h_X12_thrown (g : GW) (a0 : Nat) : V g mX12_thrown 8 rtI 0 [(0, rf g a0)] [] (f_X12_thrown a0) := by
  unfold f_X12_thrown
  refine v_aload_n (pc' := 1) 0 dX12_thrown_0 rfl rfl rfl ?_
  refine v_getI (pc' := 4) fl_X12_94 dX12_thrown_1 rfl fun v1 => ?_
  exact v_ireturn rfl dX12_thrown_4
-- bad
def f_X12_bad_b26 (a0 : Nat) : Mo Int32 := bd (gI 12 0 a0) fun v1 => if (v1 = 0 : Prop) then (pu 0) else pu 1
def f_X12_bad (a0 : Nat) (x1 : Int32) (x2 : Int32) (x3 : Int32) : Mo Int32 := if (x1 = 0 : Prop) then (f_X12_bad_b26 a0) else bd (gI 12 0 a0) fun v2 => if (v2 = 0 : Prop) then (bd (pf 12 0 a0 (.int x2)) fun _ => bd (gR 12 10 a0) fun r3 => bd (al 0 r3 x3) fun v4 => bd (as_ r3 x3 (v4 + (1 : Int32))) fun _ => f_X12_bad_b26 a0) else f_X12_bad_b26 a0
set_option maxRecDepth 20000 in
theorem h_X12_bad_b26 (g : GW) (a0 : Nat) : V g mX12_bad 8 rtI 26 [(0, rf g a0)] [] (f_X12_bad_b26 a0) := by
  unfold f_X12_bad_b26
  refine v_aload_n (pc' := 27) 0 dX12_bad_26 rfl rfl rfl ?_
  refine v_getI (pc' := 30) fl_X12_94 dX12_bad_27 rfl fun v1 => ?_
  refine v_ifeq (t := 37) (pc' := 33) dX12_bad_30 (by decide) rfl ?_ ?_
  · refine v_iconst (v := 0) (pc' := 38) dX12_bad_37 rfl rfl ?_
    exact v_zret rfl rfl dX12_bad_38
  · refine v_iconst (v := 1) (pc' := 34) dX12_bad_33 rfl rfl ?_
    refine v_goto (t := 38) dX12_bad_34 (by decide) ?_
    exact v_zret rfl rfl dX12_bad_38
set_option maxRecDepth 20000 in
theorem h_X12_bad (g : GW) (a0 : Nat) (x1 : Int32) (x2 : Int32) (x3 : Int32) : V g mX12_bad 8 rtI 0 [(0, rf g a0), (1, .int x1), (2, .int x2), (3, .int x3)] [] (f_X12_bad a0 x1 x2 x3) := by
  unfold f_X12_bad
  refine v_iload_n (pc' := 1) 1 dX12_bad_0 rfl rfl rfl ?_
  refine v_ifeq (t := 26) (pc' := 4) dX12_bad_1 (by decide) rfl ?_ ?_
  · refine V.sub [0] rfl ?_
    exact h_X12_bad_b26 g a0
  · refine v_aload_n (pc' := 5) 0 dX12_bad_4 rfl rfl rfl ?_
    refine v_getI (pc' := 8) fl_X12_94 dX12_bad_5 rfl fun v2 => ?_
    refine v_ifne (t := 26) (pc' := 11) dX12_bad_8 (by decide) rfl ?_ ?_
    · refine V.sub [0] rfl ?_
      exact h_X12_bad_b26 g a0
    · refine v_aload_n (pc' := 12) 0 dX12_bad_11 rfl rfl rfl ?_
      refine v_iload_n (pc' := 13) 2 dX12_bad_12 rfl rfl rfl ?_
      refine v_put (v := (.int x2)) (v' := .int x2) (pc' := 16) fw_X12_94 rfl rfl rfl (fun h => nomatch h) dX12_bad_13 rfl ?_
      refine v_aload_n (pc' := 17) 0 dX12_bad_16 rfl rfl rfl ?_
      refine v_getR (pc' := 20) fl_X12_17 dX12_bad_17 rfl fun r3 => ?_
      refine v_iload_n (pc' := 21) 3 dX12_bad_20 rfl rfl rfl ?_
      refine v_dup2 (pc' := 22) dX12_bad_21 rfl rfl rfl ?_
      refine v_iald (pc' := 23) dX12_bad_22 rfl fun v4 => ?_
      refine v_iconst (v := 1) (pc' := 24) dX12_bad_23 rfl rfl ?_
      refine v_iadd (pc' := 25) dX12_bad_24 rfl ?_
      refine v_iast (pc' := 26) dX12_bad_25 rfl ?_
      refine V.sub [0] rfl ?_
      exact h_X12_bad_b26 g a0
-- in
def f_X12_in (x0 : Int32) (x1 : Int32) (x2 : Int32) : Mo Int32 := if (x0 < x1 : Prop) then (pu 0) else if (x2 < x0 : Prop) then (pu 0) else pu 1
set_option maxRecDepth 20000 in
theorem h_X12_in (g : GW) (x0 : Int32) (x1 : Int32) (x2 : Int32) : V g mX12_in 8 rtI 0 [(0, .int x0), (1, .int x1), (2, .int x2)] [] (f_X12_in x0 x1 x2) := by
  unfold f_X12_in
  refine v_iload_n (pc' := 1) 0 dX12_in_0 rfl rfl rfl ?_
  refine v_iload_n (pc' := 2) 1 dX12_in_1 rfl rfl rfl ?_
  refine v_icmplt (t := 14) (pc' := 5) dX12_in_2 (by decide) rfl ?_ ?_
  · refine v_iconst (v := 0) (pc' := 15) dX12_in_14 rfl rfl ?_
    exact v_zret rfl rfl dX12_in_15
  · refine v_iload_n (pc' := 6) 0 dX12_in_5 rfl rfl rfl ?_
    refine v_iload_n (pc' := 7) 2 dX12_in_6 rfl rfl rfl ?_
    refine v_icmpgt (t := 14) (pc' := 10) dX12_in_7 (by decide) rfl ?_ ?_
    · refine v_iconst (v := 0) (pc' := 15) dX12_in_14 rfl rfl ?_
      exact v_zret rfl rfl dX12_in_15
    · refine v_iconst (v := 1) (pc' := 11) dX12_in_10 rfl rfl ?_
      refine v_goto (t := 15) dX12_in_11 (by decide) ?_
      exact v_zret rfl rfl dX12_in_15
-- less
def f_X12_less (x0 : Int32) (x1 : Int32) : Mo Int32 := if (x1 ≤ x0 : Prop) then (pu x1) else pu x0
set_option maxRecDepth 20000 in
theorem h_X12_less (g : GW) (x0 : Int32) (x1 : Int32) : V g mX12_less 8 rtI 0 [(0, .int x0), (1, .int x1)] [] (f_X12_less x0 x1) := by
  unfold f_X12_less
  refine v_iload_n (pc' := 1) 0 dX12_less_0 rfl rfl rfl ?_
  refine v_iload_n (pc' := 2) 1 dX12_less_1 rfl rfl rfl ?_
  refine v_icmpge (t := 9) (pc' := 5) dX12_less_2 (by decide) rfl ?_ ?_
  · refine v_iload_n (pc' := 10) 1 dX12_less_9 rfl rfl rfl ?_
    exact v_ireturn rfl dX12_less_10
  · refine v_iload_n (pc' := 6) 0 dX12_less_5 rfl rfl rfl ?_
    refine v_goto (t := 10) dX12_less_6 (by decide) ?_
    exact v_ireturn rfl dX12_less_10
-- more
def f_X12_more (x0 : Int32) (x1 : Int32) : Mo Int32 := if (x0 ≤ x1 : Prop) then (pu x1) else pu x0
set_option maxRecDepth 20000 in
theorem h_X12_more (g : GW) (x0 : Int32) (x1 : Int32) : V g mX12_more 8 rtI 0 [(0, .int x0), (1, .int x1)] [] (f_X12_more x0 x1) := by
  unfold f_X12_more
  refine v_iload_n (pc' := 1) 0 dX12_more_0 rfl rfl rfl ?_
  refine v_iload_n (pc' := 2) 1 dX12_more_1 rfl rfl rfl ?_
  refine v_icmple (t := 9) (pc' := 5) dX12_more_2 (by decide) rfl ?_ ?_
  · refine v_iload_n (pc' := 10) 1 dX12_more_9 rfl rfl rfl ?_
    exact v_ireturn rfl dX12_more_10
  · refine v_iload_n (pc' := 6) 0 dX12_more_5 rfl rfl rfl ?_
    refine v_goto (t := 10) dX12_more_6 (by decide) ?_
    exact v_ireturn rfl dX12_more_10
-- has
def f_X12_has (x0 : Int32) (x1 : Int32) : Mo Int32 := if (((x0 >>> (x1 &&& 31)) &&& (1 : Int32)) = 1 : Prop) then (pu 1) else pu 0
set_option maxRecDepth 20000 in
theorem h_X12_has (g : GW) (x0 : Int32) (x1 : Int32) : V g mX12_has 8 rtI 0 [(0, .int x0), (1, .int x1)] [] (f_X12_has x0 x1) := by
  unfold f_X12_has
  refine v_iload_n (pc' := 1) 0 dX12_has_0 rfl rfl rfl ?_
  refine v_iload_n (pc' := 2) 1 dX12_has_1 rfl rfl rfl ?_
  refine v_ishr (pc' := 3) dX12_has_2 rfl ?_
  refine v_iconst (v := 1) (pc' := 4) dX12_has_3 rfl rfl ?_
  refine v_iand (pc' := 5) dX12_has_4 rfl ?_
  refine v_iconst (v := 1) (pc' := 6) dX12_has_5 rfl rfl ?_
  refine v_icmpne (t := 13) (pc' := 9) dX12_has_6 (by decide) rfl ?_ ?_
  · refine v_iconst (v := 0) (pc' := 14) dX12_has_13 rfl rfl ?_
    exact v_zret rfl rfl dX12_has_14
  · refine v_iconst (v := 1) (pc' := 10) dX12_has_9 rfl rfl ?_
    refine v_goto (t := 14) dX12_has_10 (by decide) ?_
    exact v_zret rfl rfl dX12_has_14
-- feed
def f_X12_feed_b76 (k23 : Nat → Int32 → Int32 → Int32 → Int32 → Int32 → Int32 → Mo Int32) (a0 : Nat) (x1 : Int32) (x2 : Int32) (x3 : Int32) (x4 : Int32) (x5 : Int32) (x6 : Int32) (xs0 : Int32) : Mo Int32 := bd (gR 12 9 a0) fun r1 => bd (gI 12 1 a0) fun v2 => bd (rm_ x6 4) fun v3 => bd (as_ r1 v2 ((xs0 >>> (((24 : Int32) - ((8 : Int32) * v3)) &&& 31)) &&& (255 : Int32))) fun _ => bd (gI 12 1 a0) fun v4 => bd (pf 12 1 a0 (.int (v4 + (1 : Int32)))) fun _ => k23 a0 x1 x2 x3 x4 x5 (x6 + 1)
def f_X12_feed_b23 : Nat → Nat → Int32 → Int32 → Int32 → Int32 → Int32 → Int32 → Mo Int32
  | 0, _, _, _, _, _, _, _ => fl
  | n + 1, a0, x1, x2, x3, x4, x5, x6 => if (20 ≤ x6 : Prop) then (bd (gI 12 1 a0) fun v5 => pu v5) else if (4 ≤ x6 : Prop) then (if (8 ≤ x6 : Prop) then (if (12 ≤ x6 : Prop) then (if (16 ≤ x6 : Prop) then (f_X12_feed_b76 (f_X12_feed_b23 n) a0 x1 x2 x3 x4 x5 x6 x5) else f_X12_feed_b76 (f_X12_feed_b23 n) a0 x1 x2 x3 x4 x5 x6 x4) else f_X12_feed_b76 (f_X12_feed_b23 n) a0 x1 x2 x3 x4 x5 x6 x3) else f_X12_feed_b76 (f_X12_feed_b23 n) a0 x1 x2 x3 x4 x5 x6 x2) else f_X12_feed_b76 (f_X12_feed_b23 n) a0 x1 x2 x3 x4 x5 x6 x1
def f_X12_feed (a0 : Nat) (x1 : Int32) (x2 : Int32) (x3 : Int32) (x4 : Int32) (x5 : Int32) : Mo Int32 := bd (pf 12 0 a0 (.int 0)) fun _ => bd (gI 12 1 a0) fun v6 => if ((v6 + (20 : Int32)) ≤ 600 : Prop) then (f_X12_feed_b23 NF a0 x1 x2 x3 x4 x5 0) else pu (-1)
set_option maxRecDepth 20000 in
theorem h_X12_feed_b76 (g : GW) (k23 : Nat → Int32 → Int32 → Int32 → Int32 → Int32 → Int32 → Mo Int32) (hk23 : ∀ a0 x1 x2 x3 x4 x5 x6, V g mX12_feed 8 rtI 23 [(0, rf g a0), (1, .int x1), (2, .int x2), (3, .int x3), (4, .int x4), (5, .int x5), (6, .int x6)] [] (k23 a0 x1 x2 x3 x4 x5 x6)) (a0 : Nat) (x1 : Int32) (x2 : Int32) (x3 : Int32) (x4 : Int32) (x5 : Int32) (x6 : Int32) (xs0 : Int32) : V g mX12_feed 8 rtI 76 [(0, rf g a0), (1, .int x1), (2, .int x2), (3, .int x3), (4, .int x4), (5, .int x5), (6, .int x6)] [.int xs0] (f_X12_feed_b76 k23 a0 x1 x2 x3 x4 x5 x6 xs0) := by
  unfold f_X12_feed_b76
  refine v_istore (lv' := [(7, .int xs0), (0, rf g a0), (1, .int x1), (2, .int x2), (3, .int x3), (4, .int x4), (5, .int x5), (6, .int x6)]) (pc' := 78) dX12_feed_76 (by decide) rfl rfl ?_
  refine v_aload_n (pc' := 79) 1 dX12_feed_78 rfl rfl rfl ?_
  refine v_getR (pc' := 82) fl_X12_13 dX12_feed_79 rfl fun r1 => ?_
  refine v_aload_n (pc' := 83) 1 dX12_feed_82 rfl rfl rfl ?_
  refine v_getI (pc' := 86) fl_X12_97 dX12_feed_83 rfl fun v2 => ?_
  refine v_iload (pc' := 88) 0 dX12_feed_86 rfl rfl ?_
  refine v_bipush (v := 24) (pc' := 90) dX12_feed_88 rfl rfl ?_
  refine v_bipush (v := 8) (pc' := 92) dX12_feed_90 rfl rfl ?_
  refine v_iload (pc' := 94) 7 dX12_feed_92 rfl rfl ?_
  refine v_iconst (v := 4) (pc' := 95) dX12_feed_94 rfl rfl ?_
  refine v_irem (pc' := 96) dX12_feed_95 rfl fun v3 => ?_
  refine v_imul (pc' := 97) dX12_feed_96 rfl ?_
  refine v_isub (pc' := 98) dX12_feed_97 rfl ?_
  refine v_ishr (pc' := 99) dX12_feed_98 rfl ?_
  refine v_sipush (v := 255) (pc' := 102) dX12_feed_99 rfl rfl ?_
  refine v_iand (pc' := 103) dX12_feed_102 rfl ?_
  refine v_iast (pc' := 104) dX12_feed_103 rfl ?_
  refine v_aload_n (pc' := 105) 1 dX12_feed_104 rfl rfl rfl ?_
  refine v_dup (pc' := 106) dX12_feed_105 rfl rfl ?_
  refine v_getI (pc' := 109) fl_X12_97 dX12_feed_106 rfl fun v4 => ?_
  refine v_iconst (v := 1) (pc' := 110) dX12_feed_109 rfl rfl ?_
  refine v_iadd (pc' := 111) dX12_feed_110 rfl ?_
  refine v_put (v := (.int (v4 + (1 : Int32)))) (v' := .int (v4 + (1 : Int32))) (pc' := 114) fw_X12_97 rfl rfl rfl (fun h => nomatch h) dX12_feed_111 rfl ?_
  refine v_iinc (v := x6 + 1) (lv' := [(6, .int (x6 + 1)), (7, .int xs0), (0, rf g a0), (1, .int x1), (2, .int x2), (3, .int x3), (4, .int x4), (5, .int x5)]) (pc' := 117) 7 dX12_feed_114 rfl rfl (by decide) rfl rfl ?_
  refine v_goto (t := 23) dX12_feed_117 (by decide) ?_
  refine V.sub [2, 3, 4, 5, 6, 7, 0] rfl ?_
  exact hk23 a0 x1 x2 x3 x4 x5 (x6 + 1)
set_option maxRecDepth 20000 in
theorem h_X12_feed_b23 (g : GW) : ∀ n : Nat, ∀ a0 x1 x2 x3 x4 x5 x6, V g mX12_feed 8 rtI 23 [(0, rf g a0), (1, .int x1), (2, .int x2), (3, .int x3), (4, .int x4), (5, .int x5), (6, .int x6)] [] (f_X12_feed_b23 n a0 x1 x2 x3 x4 x5 x6) := by
  intro n
  induction n with
  | zero => intro a0 x1 x2 x3 x4 x5 x6; exact V.vain
  | succ n ih =>
    intro a0 x1 x2 x3 x4 x5 x6
    unfold f_X12_feed_b23
    refine v_iload (pc' := 25) 6 dX12_feed_23 rfl rfl ?_
    refine v_bipush (v := 20) (pc' := 27) dX12_feed_25 rfl rfl ?_
    refine v_icmpge (t := 120) (pc' := 30) dX12_feed_27 (by decide) rfl ?_ ?_
    · refine v_aload_n (pc' := 121) 0 dX12_feed_120 rfl rfl rfl ?_
      refine v_getI (pc' := 124) fl_X12_97 dX12_feed_121 rfl fun v5 => ?_
      exact v_ireturn rfl dX12_feed_124
    · refine v_iload (pc' := 32) 6 dX12_feed_30 rfl rfl ?_
      refine v_iconst (v := 4) (pc' := 33) dX12_feed_32 rfl rfl ?_
      refine v_icmpge (t := 40) (pc' := 36) dX12_feed_33 (by decide) rfl ?_ ?_
      · refine v_iload (pc' := 42) 6 dX12_feed_40 rfl rfl ?_
        refine v_bipush (v := 8) (pc' := 44) dX12_feed_42 rfl rfl ?_
        refine v_icmpge (t := 51) (pc' := 47) dX12_feed_44 (by decide) rfl ?_ ?_
        · refine v_iload (pc' := 53) 6 dX12_feed_51 rfl rfl ?_
          refine v_bipush (v := 12) (pc' := 55) dX12_feed_53 rfl rfl ?_
          refine v_icmpge (t := 62) (pc' := 58) dX12_feed_55 (by decide) rfl ?_ ?_
          · refine v_iload (pc' := 64) 6 dX12_feed_62 rfl rfl ?_
            refine v_bipush (v := 16) (pc' := 66) dX12_feed_64 rfl rfl ?_
            refine v_icmpge (t := 74) (pc' := 69) dX12_feed_66 (by decide) rfl ?_ ?_
            · refine v_iload (pc' := 76) 5 dX12_feed_74 rfl rfl ?_
              refine V.sub [0, 1, 2, 3, 4, 5, 6] rfl ?_
              exact h_X12_feed_b76 g (f_X12_feed_b23 n) ih a0 x1 x2 x3 x4 x5 x6 x5
            · refine v_iload (pc' := 71) 4 dX12_feed_69 rfl rfl ?_
              refine v_goto (t := 76) dX12_feed_71 (by decide) ?_
              refine V.sub [0, 1, 2, 3, 4, 5, 6] rfl ?_
              exact h_X12_feed_b76 g (f_X12_feed_b23 n) ih a0 x1 x2 x3 x4 x5 x6 x4
          · refine v_iload_n (pc' := 59) 3 dX12_feed_58 rfl rfl rfl ?_
            refine v_goto (t := 76) dX12_feed_59 (by decide) ?_
            refine V.sub [0, 1, 2, 3, 4, 5, 6] rfl ?_
            exact h_X12_feed_b76 g (f_X12_feed_b23 n) ih a0 x1 x2 x3 x4 x5 x6 x3
        · refine v_iload_n (pc' := 48) 2 dX12_feed_47 rfl rfl rfl ?_
          refine v_goto (t := 76) dX12_feed_48 (by decide) ?_
          refine V.sub [0, 1, 2, 3, 4, 5, 6] rfl ?_
          exact h_X12_feed_b76 g (f_X12_feed_b23 n) ih a0 x1 x2 x3 x4 x5 x6 x2
      · refine v_iload_n (pc' := 37) 1 dX12_feed_36 rfl rfl rfl ?_
        refine v_goto (t := 76) dX12_feed_37 (by decide) ?_
        refine V.sub [0, 1, 2, 3, 4, 5, 6] rfl ?_
        exact h_X12_feed_b76 g (f_X12_feed_b23 n) ih a0 x1 x2 x3 x4 x5 x6 x1
set_option maxRecDepth 20000 in
theorem h_X12_feed (g : GW) (a0 : Nat) (x1 : Int32) (x2 : Int32) (x3 : Int32) (x4 : Int32) (x5 : Int32) : V g mX12_feed 8 rtI 0 [(0, rf g a0), (1, .int x1), (2, .int x2), (3, .int x3), (4, .int x4), (5, .int x5)] [] (f_X12_feed a0 x1 x2 x3 x4 x5) := by
  unfold f_X12_feed
  refine v_aload_n (pc' := 1) 0 dX12_feed_0 rfl rfl rfl ?_
  refine v_iconst (v := 0) (pc' := 2) dX12_feed_1 rfl rfl ?_
  refine v_put (v := (.int 0)) (v' := .int 0) (pc' := 5) fw_X12_94 rfl rfl rfl (fun h => nomatch h) dX12_feed_2 rfl ?_
  refine v_aload_n (pc' := 6) 0 dX12_feed_5 rfl rfl rfl ?_
  refine v_getI (pc' := 9) fl_X12_97 dX12_feed_6 rfl fun v6 => ?_
  refine v_bipush (v := 20) (pc' := 11) dX12_feed_9 rfl rfl ?_
  refine v_iadd (pc' := 12) dX12_feed_11 rfl ?_
  refine v_sipush (v := 600) (pc' := 15) dX12_feed_12 rfl rfl ?_
  refine v_icmple (t := 20) (pc' := 18) dX12_feed_15 (by decide) rfl ?_ ?_
  · refine v_iconst (v := 0) (pc' := 21) dX12_feed_20 rfl rfl ?_
    refine v_istore (lv' := [(6, .int 0), (0, rf g a0), (1, .int x1), (2, .int x2), (3, .int x3), (4, .int x4), (5, .int x5)]) (pc' := 23) dX12_feed_21 (by decide) rfl rfl ?_
    refine V.sub [1, 2, 3, 4, 5, 6, 0] rfl ?_
    exact h_X12_feed_b23 g NF a0 x1 x2 x3 x4 x5 0
  · refine v_iconst (v := -1) (pc' := 19) dX12_feed_18 rfl rfl ?_
    exact v_ireturn rfl dX12_feed_19
-- byteAt
def f_X12_byteAt (a0 : Nat) (x1 : Int32) : Mo Int32 := bd (gI 12 2 a0) fun v1 => if (x1 < v1 : Prop) then (bd (gR 12 9 a0) fun r2 => bd (al 0 r2 x1) fun v3 => pu v3) else pu (-1)
set_option maxRecDepth 20000 in
theorem h_X12_byteAt (g : GW) (a0 : Nat) (x1 : Int32) : V g mX12_byteAt 8 rtI 0 [(0, rf g a0), (1, .int x1)] [] (f_X12_byteAt a0 x1) := by
  unfold f_X12_byteAt
  refine v_iload_n (pc' := 1) 1 dX12_byteAt_0 rfl rfl rfl ?_
  refine v_aload_n (pc' := 2) 0 dX12_byteAt_1 rfl rfl rfl ?_
  refine v_getI (pc' := 5) fl_X12_100 dX12_byteAt_2 rfl fun v1 => ?_
  refine v_icmplt (t := 12) (pc' := 8) dX12_byteAt_5 (by decide) rfl ?_ ?_
  · refine v_aload_n (pc' := 13) 0 dX12_byteAt_12 rfl rfl rfl ?_
    refine v_getR (pc' := 16) fl_X12_13 dX12_byteAt_13 rfl fun r2 => ?_
    refine v_iload_n (pc' := 17) 1 dX12_byteAt_16 rfl rfl rfl ?_
    refine v_iald (pc' := 18) dX12_byteAt_17 rfl fun v3 => ?_
    exact v_ireturn rfl dX12_byteAt_18
  · refine v_iconst (v := -1) (pc' := 9) dX12_byteAt_8 rfl rfl ?_
    refine v_goto (t := 18) dX12_byteAt_9 (by decide) ?_
    exact v_ireturn rfl dX12_byteAt_18
-- blanks
def f_X12_blanks_b0 : Nat → Nat → Mo Unit
  | 0, _ => fl
  | n + 1, a0 => bd (gI 12 4 a0) fun v1 => bd (cv 12 a0 (f_X12_byteAt a0 v1)) fun v2 => if (v2 = 32 : Prop) then (bd (gI 12 4 a0) fun v3 => bd (pf 12 4 a0 (.int (v3 + (1 : Int32)))) fun _ => (f_X12_blanks_b0 n) a0) else pu ()
def f_X12_blanks (a0 : Nat) : Mo Unit := f_X12_blanks_b0 NF a0
set_option maxRecDepth 20000 in
theorem h_X12_blanks_b0 (g : GW) : ∀ n : Nat, ∀ a0, V g mX12_blanks 9 rtU 0 [(0, rf g a0)] [] (f_X12_blanks_b0 n a0) := by
  intro n
  induction n with
  | zero => intro a0; exact V.vain
  | succ n ih =>
    intro a0
    unfold f_X12_blanks_b0
    refine v_aload_n (pc' := 1) 0 dX12_blanks_0 rfl rfl rfl ?_
    refine v_aload_n (pc' := 2) 0 dX12_blanks_1 rfl rfl rfl ?_
    refine v_getI (pc' := 5) fl_X12_103 dX12_blanks_2 rfl fun v1 => ?_
    refine v_callV (vs := [.int v1]) (pc' := 8) (h_X12_byteAt g a0 v1) mv_X12_byteAt wl_X12_106 rfl (Nat.le_of_ble_eq_true rfl) (by omega) (by decide) (Nat.le_of_ble_eq_true rfl) rfl dX12_blanks_5 rfl fun v2 => ?_
    refine v_bipush (v := 32) (pc' := 10) dX12_blanks_8 rfl rfl ?_
    refine v_icmpne (t := 26) (pc' := 13) dX12_blanks_10 (by decide) rfl ?_ ?_
    · exact v_return rfl dX12_blanks_26
    · refine v_aload_n (pc' := 14) 0 dX12_blanks_13 rfl rfl rfl ?_
      refine v_dup (pc' := 15) dX12_blanks_14 rfl rfl ?_
      refine v_getI (pc' := 18) fl_X12_103 dX12_blanks_15 rfl fun v3 => ?_
      refine v_iconst (v := 1) (pc' := 19) dX12_blanks_18 rfl rfl ?_
      refine v_iadd (pc' := 20) dX12_blanks_19 rfl ?_
      refine v_put (v := (.int (v3 + (1 : Int32)))) (v' := .int (v3 + (1 : Int32))) (pc' := 23) fw_X12_103 rfl rfl rfl (fun h => nomatch h) dX12_blanks_20 rfl ?_
      refine v_goto (t := 0) dX12_blanks_23 (by decide) ?_
      refine V.sub [0] rfl ?_
      exact ih a0
set_option maxRecDepth 20000 in
theorem h_X12_blanks (g : GW) (a0 : Nat) : V g mX12_blanks 9 rtU 0 [(0, rf g a0)] [] (f_X12_blanks a0) := by
  unfold f_X12_blanks
  refine V.sub [0] rfl ?_
  exact h_X12_blanks_b0 g NF a0
-- wrong
def f_X12_wrong (a0 : Nat) (x1 : Int32) (x2 : Int32) : Mo Unit := bd (gI 12 5 a0) fun v1 => if (v1 = 0 : Prop) then (bd (pf 12 5 a0 (.int x1)) fun _ => bd (pf 12 6 a0 (.int x2)) fun _ => pu ()) else pu ()
set_option maxRecDepth 20000 in
theorem h_X12_wrong (g : GW) (a0 : Nat) (x1 : Int32) (x2 : Int32) : V g mX12_wrong 8 rtU 0 [(0, rf g a0), (1, .int x1), (2, .int x2)] [] (f_X12_wrong a0 x1 x2) := by
  unfold f_X12_wrong
  refine v_aload_n (pc' := 1) 0 dX12_wrong_0 rfl rfl rfl ?_
  refine v_getI (pc' := 4) fl_X12_110 dX12_wrong_1 rfl fun v1 => ?_
  refine v_ifne (t := 17) (pc' := 7) dX12_wrong_4 (by decide) rfl ?_ ?_
  · exact v_return rfl dX12_wrong_17
  · refine v_aload_n (pc' := 8) 0 dX12_wrong_7 rfl rfl rfl ?_
    refine v_iload_n (pc' := 9) 1 dX12_wrong_8 rfl rfl rfl ?_
    refine v_put (v := (.int x1)) (v' := .int x1) (pc' := 12) fw_X12_110 rfl rfl rfl (fun h => nomatch h) dX12_wrong_9 rfl ?_
    refine v_aload_n (pc' := 13) 0 dX12_wrong_12 rfl rfl rfl ?_
    refine v_iload_n (pc' := 14) 2 dX12_wrong_13 rfl rfl rfl ?_
    refine v_put (v := (.int x2)) (v' := .int x2) (pc' := 17) fw_X12_113 rfl rfl rfl (fun h => nomatch h) dX12_wrong_14 rfl ?_
    exact v_return rfl dX12_wrong_17
-- isDigit
def f_X12_isDigit (x0 : Int32) : Mo Int32 := if (x0 < 48 : Prop) then (pu 0) else if (57 < x0 : Prop) then (pu 0) else pu 1
set_option maxRecDepth 20000 in
theorem h_X12_isDigit (g : GW) (x0 : Int32) : V g mX12_isDigit 8 rtI 0 [(0, .int x0)] [] (f_X12_isDigit x0) := by
  unfold f_X12_isDigit
  refine v_iload_n (pc' := 1) 0 dX12_isDigit_0 rfl rfl rfl ?_
  refine v_bipush (v := 48) (pc' := 3) dX12_isDigit_1 rfl rfl ?_
  refine v_icmplt (t := 16) (pc' := 6) dX12_isDigit_3 (by decide) rfl ?_ ?_
  · refine v_iconst (v := 0) (pc' := 17) dX12_isDigit_16 rfl rfl ?_
    exact v_zret rfl rfl dX12_isDigit_17
  · refine v_iload_n (pc' := 7) 0 dX12_isDigit_6 rfl rfl rfl ?_
    refine v_bipush (v := 57) (pc' := 9) dX12_isDigit_7 rfl rfl ?_
    refine v_icmpgt (t := 16) (pc' := 12) dX12_isDigit_9 (by decide) rfl ?_ ?_
    · refine v_iconst (v := 0) (pc' := 17) dX12_isDigit_16 rfl rfl ?_
      exact v_zret rfl rfl dX12_isDigit_17
    · refine v_iconst (v := 1) (pc' := 13) dX12_isDigit_12 rfl rfl ?_
      refine v_goto (t := 17) dX12_isDigit_13 (by decide) ?_
      exact v_zret rfl rfl dX12_isDigit_17
-- isSmall
def f_X12_isSmall (x0 : Int32) : Mo Int32 := if (x0 < 97 : Prop) then (pu 0) else if (122 < x0 : Prop) then (pu 0) else pu 1
set_option maxRecDepth 20000 in
theorem h_X12_isSmall (g : GW) (x0 : Int32) : V g mX12_isSmall 8 rtI 0 [(0, .int x0)] [] (f_X12_isSmall x0) := by
  unfold f_X12_isSmall
  refine v_iload_n (pc' := 1) 0 dX12_isSmall_0 rfl rfl rfl ?_
  refine v_bipush (v := 97) (pc' := 3) dX12_isSmall_1 rfl rfl ?_
  refine v_icmplt (t := 16) (pc' := 6) dX12_isSmall_3 (by decide) rfl ?_ ?_
  · refine v_iconst (v := 0) (pc' := 17) dX12_isSmall_16 rfl rfl ?_
    exact v_zret rfl rfl dX12_isSmall_17
  · refine v_iload_n (pc' := 7) 0 dX12_isSmall_6 rfl rfl rfl ?_
    refine v_bipush (v := 122) (pc' := 9) dX12_isSmall_7 rfl rfl ?_
    refine v_icmpgt (t := 16) (pc' := 12) dX12_isSmall_9 (by decide) rfl ?_ ?_
    · refine v_iconst (v := 0) (pc' := 17) dX12_isSmall_16 rfl rfl ?_
      exact v_zret rfl rfl dX12_isSmall_17
    · refine v_iconst (v := 1) (pc' := 13) dX12_isSmall_12 rfl rfl ?_
      refine v_goto (t := 17) dX12_isSmall_13 (by decide) ?_
      exact v_zret rfl rfl dX12_isSmall_17
-- number
def f_X12_number_b122 (a0 : Nat) (x4 : Int32) : Mo Int32 := bd (gI 12 5 a0) fun v1 => if (v1 = 0 : Prop) then (pu x4) else pu 0
def f_X12_number_b91 (k44 : Nat → Int32 → Int32 → Int32 → Int32 → Mo Int32) (a0 : Nat) (x1 : Int32) (x2 : Int32) (x3 : Int32) (xs0 : Int32) : Mo Int32 := bd (gI 12 4 a0) fun v2 => bd (pf 12 4 a0 (.int (v2 + (1 : Int32)))) fun _ => k44 a0 x1 x2 x3 xs0
def f_X12_number_b44 : Nat → Nat → Int32 → Int32 → Int32 → Int32 → Mo Int32
  | 0, _, _, _, _, _ => fl
  | n + 1, a0, x1, x2, x3, x4 => bd (gI 12 4 a0) fun v3 => bd (cv 12 a0 (f_X12_byteAt a0 v3)) fun v4 => bd (f_X12_isDigit v4) fun v5 => if (v5 = 0 : Prop) then (bd (f_X12_in x4 x1 x2) fun v6 => if (v6 = 0 : Prop) then (bd (cv 12 a0 (f_X12_wrong a0 2 x3)) fun _ => f_X12_number_b122 a0 x4) else f_X12_number_b122 a0 x4) else bd (gI 12 4 a0) fun v7 => bd (cv 12 a0 (f_X12_byteAt a0 v7)) fun v8 => if (((((10 : Int32) * x4) + v8) - (48 : Int32)) ≤ 100000 : Prop) then (f_X12_number_b91 (f_X12_number_b44 n) a0 x1 x2 x3 ((((10 : Int32) * x4) + v8) - (48 : Int32))) else f_X12_number_b91 (f_X12_number_b44 n) a0 x1 x2 x3 100000
def f_X12_number (a0 : Nat) (x1 : Int32) (x2 : Int32) : Mo Int32 := bd (gI 12 5 a0) fun v9 => if (v9 = 0 : Prop) then (bd (cv 12 a0 (f_X12_blanks a0)) fun _ => bd (gI 12 4 a0) fun v10 => bd (gI 12 4 a0) fun v11 => bd (cv 12 a0 (f_X12_byteAt a0 v11)) fun v12 => bd (f_X12_isDigit v12) fun v13 => if (v13 = 0 : Prop) then (bd (gI 12 4 a0) fun v14 => bd (cv 12 a0 (f_X12_wrong a0 1 v14)) fun _ => f_X12_number_b44 NF a0 x1 x2 v10 0) else f_X12_number_b44 NF a0 x1 x2 v10 0) else pu 0
set_option maxRecDepth 20000 in
theorem h_X12_number_b122 (g : GW) (a0 : Nat) (x4 : Int32) : V g mX12_number 10 rtI 122 [(0, rf g a0), (4, .int x4)] [] (f_X12_number_b122 a0 x4) := by
  unfold f_X12_number_b122
  refine v_aload_n (pc' := 123) 0 dX12_number_122 rfl rfl rfl ?_
  refine v_getI (pc' := 126) fl_X12_110 dX12_number_123 rfl fun v1 => ?_
  refine v_ifne (t := 134) (pc' := 129) dX12_number_126 (by decide) rfl ?_ ?_
  · refine v_iconst (v := 0) (pc' := 135) dX12_number_134 rfl rfl ?_
    exact v_ireturn rfl dX12_number_135
  · refine v_iload (pc' := 131) 1 dX12_number_129 rfl rfl ?_
    refine v_goto (t := 135) dX12_number_131 (by decide) ?_
    exact v_ireturn rfl dX12_number_135
set_option maxRecDepth 20000 in
theorem h_X12_number_b91 (g : GW) (k44 : Nat → Int32 → Int32 → Int32 → Int32 → Mo Int32) (hk44 : ∀ a0 x1 x2 x3 x4, V g mX12_number 10 rtI 44 [(0, rf g a0), (1, .int x1), (2, .int x2), (3, .int x3), (4, .int x4)] [] (k44 a0 x1 x2 x3 x4)) (a0 : Nat) (x1 : Int32) (x2 : Int32) (x3 : Int32) (xs0 : Int32) : V g mX12_number 10 rtI 91 [(0, rf g a0), (1, .int x1), (2, .int x2), (3, .int x3)] [.int xs0] (f_X12_number_b91 k44 a0 x1 x2 x3 xs0) := by
  unfold f_X12_number_b91
  refine v_istore (lv' := [(4, .int xs0), (0, rf g a0), (1, .int x1), (2, .int x2), (3, .int x3)]) (pc' := 93) dX12_number_91 (by decide) rfl rfl ?_
  refine v_aload_n (pc' := 94) 1 dX12_number_93 rfl rfl rfl ?_
  refine v_dup (pc' := 95) dX12_number_94 rfl rfl ?_
  refine v_getI (pc' := 98) fl_X12_103 dX12_number_95 rfl fun v2 => ?_
  refine v_iconst (v := 1) (pc' := 99) dX12_number_98 rfl rfl ?_
  refine v_iadd (pc' := 100) dX12_number_99 rfl ?_
  refine v_put (v := (.int (v2 + (1 : Int32)))) (v' := .int (v2 + (1 : Int32))) (pc' := 103) fw_X12_103 rfl rfl rfl (fun h => nomatch h) dX12_number_100 rfl ?_
  refine v_goto (t := 44) dX12_number_103 (by decide) ?_
  refine V.sub [1, 2, 3, 4, 0] rfl ?_
  exact hk44 a0 x1 x2 x3 xs0
set_option maxRecDepth 20000 in
theorem h_X12_number_b44 (g : GW) : ∀ n : Nat, ∀ a0 x1 x2 x3 x4, V g mX12_number 10 rtI 44 [(0, rf g a0), (1, .int x1), (2, .int x2), (3, .int x3), (4, .int x4)] [] (f_X12_number_b44 n a0 x1 x2 x3 x4) := by
  intro n
  induction n with
  | zero => intro a0 x1 x2 x3 x4; exact V.vain
  | succ n ih =>
    intro a0 x1 x2 x3 x4
    unfold f_X12_number_b44
    refine v_aload_n (pc' := 45) 0 dX12_number_44 rfl rfl rfl ?_
    refine v_aload_n (pc' := 46) 0 dX12_number_45 rfl rfl rfl ?_
    refine v_getI (pc' := 49) fl_X12_103 dX12_number_46 rfl fun v3 => ?_
    refine v_callV (vs := [.int v3]) (pc' := 52) (h_X12_byteAt g a0 v3) mv_X12_byteAt wl_X12_106 rfl (Nat.le_of_ble_eq_true rfl) (by omega) (by decide) (Nat.le_of_ble_eq_true rfl) rfl dX12_number_49 rfl fun v4 => ?_
    refine v_callS (vs := [.int v4]) (pc' := 55) (h_X12_isDigit g v4) ms_X12_isDigit wl_X12_119 (Nat.le_of_ble_eq_true rfl) (by omega) (by decide) (Nat.le_of_ble_eq_true rfl) rfl dX12_number_52 rfl fun v5 => ?_
    refine v_ifeq (t := 106) (pc' := 58) dX12_number_55 (by decide) rfl ?_ ?_
    · refine v_iload (pc' := 108) 4 dX12_number_106 rfl rfl ?_
      refine v_iload_n (pc' := 109) 1 dX12_number_108 rfl rfl rfl ?_
      refine v_iload_n (pc' := 110) 2 dX12_number_109 rfl rfl rfl ?_
      refine v_callS (vs := [.int x4, .int x1, .int x2]) (pc' := 113) (h_X12_in g x4 x1 x2) ms_X12_in wl_X12_128 (Nat.le_of_ble_eq_true rfl) (by omega) (by decide) (Nat.le_of_ble_eq_true rfl) rfl dX12_number_110 rfl fun v6 => ?_
      refine v_ifne (t := 122) (pc' := 116) dX12_number_113 (by decide) rfl ?_ ?_
      · refine V.sub [0, 4] rfl ?_
        exact h_X12_number_b122 g a0 x4
      · refine v_aload_n (pc' := 117) 0 dX12_number_116 rfl rfl rfl ?_
        refine v_iconst (v := 2) (pc' := 118) dX12_number_117 rfl rfl ?_
        refine v_iload_n (pc' := 119) 3 dX12_number_118 rfl rfl rfl ?_
        refine v_callV (vs := [.int 2, .int x3]) (pc' := 122) (h_X12_wrong g a0 2 x3) mv_X12_wrong wl_X12_123 rfl (Nat.le_of_ble_eq_true rfl) (by omega) (by decide) (Nat.le_of_ble_eq_true rfl) rfl dX12_number_119 rfl fun _ => ?_
        refine V.sub [0, 4] rfl ?_
        exact h_X12_number_b122 g a0 x4
    · refine v_bipush (v := 10) (pc' := 60) dX12_number_58 rfl rfl ?_
      refine v_iload (pc' := 62) 4 dX12_number_60 rfl rfl ?_
      refine v_imul (pc' := 63) dX12_number_62 rfl ?_
      refine v_aload_n (pc' := 64) 0 dX12_number_63 rfl rfl rfl ?_
      refine v_aload_n (pc' := 65) 0 dX12_number_64 rfl rfl rfl ?_
      refine v_getI (pc' := 68) fl_X12_103 dX12_number_65 rfl fun v7 => ?_
      refine v_callV (vs := [.int v7]) (pc' := 71) (h_X12_byteAt g a0 v7) mv_X12_byteAt wl_X12_106 rfl (Nat.le_of_ble_eq_true rfl) (by omega) (by decide) (Nat.le_of_ble_eq_true rfl) rfl dX12_number_68 rfl fun v8 => ?_
      refine v_iadd (pc' := 72) dX12_number_71 rfl ?_
      refine v_bipush (v := 48) (pc' := 74) dX12_number_72 rfl rfl ?_
      refine v_isub (pc' := 75) dX12_number_74 rfl ?_
      refine v_istore (lv' := [(4, .int ((((10 : Int32) * x4) + v8) - (48 : Int32))), (0, rf g a0), (1, .int x1), (2, .int x2), (3, .int x3)]) (pc' := 77) dX12_number_75 (by decide) rfl rfl ?_
      refine v_iload (pc' := 79) 0 dX12_number_77 rfl rfl ?_
      refine v_ldc (v := 100000) (pc' := 81) (tg7 100 (by decide +kernel) (by decide +kernel)) dX12_number_79 rfl ?_
      refine v_icmple (t := 89) (pc' := 84) dX12_number_81 (by decide) rfl ?_ ?_
      · refine v_iload (pc' := 91) 0 dX12_number_89 rfl rfl ?_
        refine V.sub [1, 2, 3, 4] rfl ?_
        exact h_X12_number_b91 g (f_X12_number_b44 n) ih a0 x1 x2 x3 ((((10 : Int32) * x4) + v8) - (48 : Int32))
      · refine v_ldc (v := 100000) (pc' := 86) (tg7 100 (by decide +kernel) (by decide +kernel)) dX12_number_84 rfl ?_
        refine v_goto (t := 91) dX12_number_86 (by decide) ?_
        refine V.sub [1, 2, 3, 4] rfl ?_
        exact h_X12_number_b91 g (f_X12_number_b44 n) ih a0 x1 x2 x3 100000
set_option maxRecDepth 20000 in
theorem h_X12_number (g : GW) (a0 : Nat) (x1 : Int32) (x2 : Int32) : V g mX12_number 10 rtI 0 [(0, rf g a0), (1, .int x1), (2, .int x2)] [] (f_X12_number a0 x1 x2) := by
  unfold f_X12_number
  refine v_aload_n (pc' := 1) 0 dX12_number_0 rfl rfl rfl ?_
  refine v_getI (pc' := 4) fl_X12_110 dX12_number_1 rfl fun v9 => ?_
  refine v_ifeq (t := 9) (pc' := 7) dX12_number_4 (by decide) rfl ?_ ?_
  · refine v_aload_n (pc' := 10) 0 dX12_number_9 rfl rfl rfl ?_
    refine v_callV (vs := []) (pc' := 13) (h_X12_blanks g a0) mv_X12_blanks wl_X12_116 rfl (Nat.le_of_ble_eq_true rfl) (by omega) (by decide) (Nat.le_of_ble_eq_true rfl) rfl dX12_number_10 rfl fun _ => ?_
    refine v_aload_n (pc' := 14) 0 dX12_number_13 rfl rfl rfl ?_
    refine v_getI (pc' := 17) fl_X12_103 dX12_number_14 rfl fun v10 => ?_
    refine v_istore_n (lv' := [(3, .int v10), (0, rf g a0), (1, .int x1), (2, .int x2)]) (pc' := 18) dX12_number_17 rfl (by decide) rfl rfl ?_
    refine v_iconst (v := 0) (pc' := 19) dX12_number_18 rfl rfl ?_
    refine v_istore (lv' := [(4, .int 0), (3, .int v10), (0, rf g a0), (1, .int x1), (2, .int x2)]) (pc' := 21) dX12_number_19 (by decide) rfl rfl ?_
    refine v_aload_n (pc' := 22) 2 dX12_number_21 rfl rfl rfl ?_
    refine v_aload_n (pc' := 23) 2 dX12_number_22 rfl rfl rfl ?_
    refine v_getI (pc' := 26) fl_X12_103 dX12_number_23 rfl fun v11 => ?_
    refine v_callV (vs := [.int v11]) (pc' := 29) (h_X12_byteAt g a0 v11) mv_X12_byteAt wl_X12_106 rfl (Nat.le_of_ble_eq_true rfl) (by omega) (by decide) (Nat.le_of_ble_eq_true rfl) rfl dX12_number_26 rfl fun v12 => ?_
    refine v_callS (vs := [.int v12]) (pc' := 32) (h_X12_isDigit g v12) ms_X12_isDigit wl_X12_119 (Nat.le_of_ble_eq_true rfl) (by omega) (by decide) (Nat.le_of_ble_eq_true rfl) rfl dX12_number_29 rfl fun v13 => ?_
    refine v_ifne (t := 44) (pc' := 35) dX12_number_32 (by decide) rfl ?_ ?_
    · refine V.sub [2, 3, 4, 1, 0] rfl ?_
      exact h_X12_number_b44 g NF a0 x1 x2 v10 0
    · refine v_aload_n (pc' := 36) 2 dX12_number_35 rfl rfl rfl ?_
      refine v_iconst (v := 1) (pc' := 37) dX12_number_36 rfl rfl ?_
      refine v_aload_n (pc' := 38) 2 dX12_number_37 rfl rfl rfl ?_
      refine v_getI (pc' := 41) fl_X12_103 dX12_number_38 rfl fun v14 => ?_
      refine v_callV (vs := [.int 1, .int v14]) (pc' := 44) (h_X12_wrong g a0 1 v14) mv_X12_wrong wl_X12_123 rfl (Nat.le_of_ble_eq_true rfl) (by omega) (by decide) (Nat.le_of_ble_eq_true rfl) rfl dX12_number_41 rfl fun _ => ?_
      refine V.sub [2, 3, 4, 1, 0] rfl ?_
      exact h_X12_number_b44 g NF a0 x1 x2 v10 0
  · refine v_iconst (v := 0) (pc' := 8) dX12_number_7 rfl rfl ?_
    exact v_ireturn rfl dX12_number_8
-- wordHere
def f_X12_wordHere_b54 (k8 : Nat → Int32 → Int32 → Mo Int32) (a0 : Nat) (x2 : Int32) (xs0 : Int32) : Mo Int32 := k8 a0 xs0 (x2 + 1)
def f_X12_wordHere_b8 : Nat → Nat → Int32 → Int32 → Mo Int32
  | 0, _, _, _ => fl
  | n + 1, a0, x1, x2 => bd (gI 12 4 a0) fun v1 => bd (cv 12 a0 (f_X12_byteAt a0 (v1 + x2))) fun v2 => bd (f_X12_isSmall v2) fun v3 => if (v3 = 0 : Prop) then (if (x2 ≤ 6 : Prop) then (pu x1) else pu (-1)) else if (6 ≤ x2 : Prop) then (f_X12_wordHere_b54 (f_X12_wordHere_b8 n) a0 x2 x1) else bd (gI 12 4 a0) fun v4 => bd (cv 12 a0 (f_X12_byteAt a0 (v4 + x2))) fun v5 => f_X12_wordHere_b54 (f_X12_wordHere_b8 n) a0 x2 (((((27 : Int32) * x1) + v5) - (97 : Int32)) + (1 : Int32))
def f_X12_wordHere (a0 : Nat) : Mo Int32 := bd (cv 12 a0 (f_X12_blanks a0)) fun _ => f_X12_wordHere_b8 NF a0 0 0
set_option maxRecDepth 20000 in
theorem h_X12_wordHere_b54 (g : GW) (k8 : Nat → Int32 → Int32 → Mo Int32) (hk8 : ∀ a0 x1 x2, V g mX12_wordHere 10 rtI 8 [(0, rf g a0), (1, .int x1), (2, .int x2)] [] (k8 a0 x1 x2)) (a0 : Nat) (x2 : Int32) (xs0 : Int32) : V g mX12_wordHere 10 rtI 54 [(0, rf g a0), (2, .int x2)] [.int xs0] (f_X12_wordHere_b54 k8 a0 x2 xs0) := by
  unfold f_X12_wordHere_b54
  refine v_istore_n (lv' := [(1, .int xs0), (0, rf g a0), (2, .int x2)]) (pc' := 55) dX12_wordHere_54 rfl (by decide) rfl rfl ?_
  refine v_iinc (v := x2 + 1) (lv' := [(2, .int (x2 + 1)), (1, .int xs0), (0, rf g a0)]) (pc' := 58) 2 dX12_wordHere_55 rfl rfl (by decide) rfl rfl ?_
  refine v_goto (t := 8) dX12_wordHere_58 (by decide) ?_
  refine V.sub [2, 1, 0] rfl ?_
  exact hk8 a0 xs0 (x2 + 1)
set_option maxRecDepth 20000 in
theorem h_X12_wordHere_b8 (g : GW) : ∀ n : Nat, ∀ a0 x1 x2, V g mX12_wordHere 10 rtI 8 [(0, rf g a0), (1, .int x1), (2, .int x2)] [] (f_X12_wordHere_b8 n a0 x1 x2) := by
  intro n
  induction n with
  | zero => intro a0 x1 x2; exact V.vain
  | succ n ih =>
    intro a0 x1 x2
    unfold f_X12_wordHere_b8
    refine v_aload_n (pc' := 9) 0 dX12_wordHere_8 rfl rfl rfl ?_
    refine v_aload_n (pc' := 10) 0 dX12_wordHere_9 rfl rfl rfl ?_
    refine v_getI (pc' := 13) fl_X12_103 dX12_wordHere_10 rfl fun v1 => ?_
    refine v_iload_n (pc' := 14) 2 dX12_wordHere_13 rfl rfl rfl ?_
    refine v_iadd (pc' := 15) dX12_wordHere_14 rfl ?_
    refine v_callV (vs := [.int (v1 + x2)]) (pc' := 18) (h_X12_byteAt g a0 (v1 + x2)) mv_X12_byteAt wl_X12_106 rfl (Nat.le_of_ble_eq_true rfl) (by omega) (by decide) (Nat.le_of_ble_eq_true rfl) rfl dX12_wordHere_15 rfl fun v2 => ?_
    refine v_callS (vs := [.int v2]) (pc' := 21) (h_X12_isSmall g v2) ms_X12_isSmall wl_X12_132 (Nat.le_of_ble_eq_true rfl) (by omega) (by decide) (Nat.le_of_ble_eq_true rfl) rfl dX12_wordHere_18 rfl fun v3 => ?_
    refine v_ifeq (t := 61) (pc' := 24) dX12_wordHere_21 (by decide) rfl ?_ ?_
    · refine v_iload_n (pc' := 62) 2 dX12_wordHere_61 rfl rfl rfl ?_
      refine v_bipush (v := 6) (pc' := 64) dX12_wordHere_62 rfl rfl ?_
      refine v_icmple (t := 71) (pc' := 67) dX12_wordHere_64 (by decide) rfl ?_ ?_
      · refine v_iload_n (pc' := 72) 1 dX12_wordHere_71 rfl rfl rfl ?_
        exact v_ireturn rfl dX12_wordHere_72
      · refine v_iconst (v := -1) (pc' := 68) dX12_wordHere_67 rfl rfl ?_
        refine v_goto (t := 72) dX12_wordHere_68 (by decide) ?_
        exact v_ireturn rfl dX12_wordHere_72
    · refine v_iload_n (pc' := 25) 2 dX12_wordHere_24 rfl rfl rfl ?_
      refine v_bipush (v := 6) (pc' := 27) dX12_wordHere_25 rfl rfl ?_
      refine v_icmpge (t := 53) (pc' := 30) dX12_wordHere_27 (by decide) rfl ?_ ?_
      · refine v_iload_n (pc' := 54) 1 dX12_wordHere_53 rfl rfl rfl ?_
        refine V.sub [0, 2] rfl ?_
        exact h_X12_wordHere_b54 g (f_X12_wordHere_b8 n) ih a0 x2 x1
      · refine v_bipush (v := 27) (pc' := 32) dX12_wordHere_30 rfl rfl ?_
        refine v_iload_n (pc' := 33) 1 dX12_wordHere_32 rfl rfl rfl ?_
        refine v_imul (pc' := 34) dX12_wordHere_33 rfl ?_
        refine v_aload_n (pc' := 35) 0 dX12_wordHere_34 rfl rfl rfl ?_
        refine v_aload_n (pc' := 36) 0 dX12_wordHere_35 rfl rfl rfl ?_
        refine v_getI (pc' := 39) fl_X12_103 dX12_wordHere_36 rfl fun v4 => ?_
        refine v_iload_n (pc' := 40) 2 dX12_wordHere_39 rfl rfl rfl ?_
        refine v_iadd (pc' := 41) dX12_wordHere_40 rfl ?_
        refine v_callV (vs := [.int (v4 + x2)]) (pc' := 44) (h_X12_byteAt g a0 (v4 + x2)) mv_X12_byteAt wl_X12_106 rfl (Nat.le_of_ble_eq_true rfl) (by omega) (by decide) (Nat.le_of_ble_eq_true rfl) rfl dX12_wordHere_41 rfl fun v5 => ?_
        refine v_iadd (pc' := 45) dX12_wordHere_44 rfl ?_
        refine v_bipush (v := 97) (pc' := 47) dX12_wordHere_45 rfl rfl ?_
        refine v_isub (pc' := 48) dX12_wordHere_47 rfl ?_
        refine v_iconst (v := 1) (pc' := 49) dX12_wordHere_48 rfl rfl ?_
        refine v_iadd (pc' := 50) dX12_wordHere_49 rfl ?_
        refine v_goto (t := 54) dX12_wordHere_50 (by decide) ?_
        refine V.sub [0, 2] rfl ?_
        exact h_X12_wordHere_b54 g (f_X12_wordHere_b8 n) ih a0 x2 (((((27 : Int32) * x1) + v5) - (97 : Int32)) + (1 : Int32))
set_option maxRecDepth 20000 in
theorem h_X12_wordHere (g : GW) (a0 : Nat) : V g mX12_wordHere 10 rtI 0 [(0, rf g a0)] [] (f_X12_wordHere a0) := by
  unfold f_X12_wordHere
  refine v_aload_n (pc' := 1) 0 dX12_wordHere_0 rfl rfl rfl ?_
  refine v_callV (vs := []) (pc' := 4) (h_X12_blanks g a0) mv_X12_blanks wl_X12_116 rfl (Nat.le_of_ble_eq_true rfl) (by omega) (by decide) (Nat.le_of_ble_eq_true rfl) rfl dX12_wordHere_1 rfl fun _ => ?_
  refine v_iconst (v := 0) (pc' := 5) dX12_wordHere_4 rfl rfl ?_
  refine v_istore_n (lv' := [(1, .int 0), (0, rf g a0)]) (pc' := 6) dX12_wordHere_5 rfl (by decide) rfl rfl ?_
  refine v_iconst (v := 0) (pc' := 7) dX12_wordHere_6 rfl rfl ?_
  refine v_istore_n (lv' := [(2, .int 0), (1, .int 0), (0, rf g a0)]) (pc' := 8) dX12_wordHere_7 rfl (by decide) rfl rfl ?_
  refine V.sub [2, 1, 0] rfl ?_
  exact h_X12_wordHere_b8 g NF a0 0 0
-- six
def f_X12_six_b49 (x5 : Int32) (xs0 : Int32) : Mo Int32 := if (x5 = 0 : Prop) then (pu xs0) else pu (((27 : Int32) * xs0) + x5)
def f_X12_six_b29 (x4 : Int32) (x5 : Int32) (xs0 : Int32) : Mo Int32 := if (x4 = 0 : Prop) then (f_X12_six_b49 x5 xs0) else f_X12_six_b49 x5 (((27 : Int32) * xs0) + x4)
def f_X12_six (x0 : Int32) (x1 : Int32) (x2 : Int32) (x3 : Int32) (x4 : Int32) (x5 : Int32) : Mo Int32 := if (x3 = 0 : Prop) then (f_X12_six_b29 x4 x5 (((27 : Int32) * (((27 : Int32) * x0) + x1)) + x2)) else f_X12_six_b29 x4 x5 (((27 : Int32) * (((27 : Int32) * (((27 : Int32) * x0) + x1)) + x2)) + x3)
set_option maxRecDepth 20000 in
theorem h_X12_six_b49 (g : GW) (x5 : Int32) (xs0 : Int32) : V g mX12_six 8 rtI 49 [(5, .int x5)] [.int xs0] (f_X12_six_b49 x5 xs0) := by
  unfold f_X12_six_b49
  refine v_istore (lv' := [(6, .int xs0), (5, .int x5)]) (pc' := 51) dX12_six_49 (by decide) rfl rfl ?_
  refine v_iload (pc' := 53) 1 dX12_six_51 rfl rfl ?_
  refine v_ifne (t := 61) (pc' := 56) dX12_six_53 (by decide) rfl ?_ ?_
  · refine v_bipush (v := 27) (pc' := 63) dX12_six_61 rfl rfl ?_
    refine v_iload (pc' := 65) 0 dX12_six_63 rfl rfl ?_
    refine v_imul (pc' := 66) dX12_six_65 rfl ?_
    refine v_iload (pc' := 68) 1 dX12_six_66 rfl rfl ?_
    refine v_iadd (pc' := 69) dX12_six_68 rfl ?_
    exact v_ireturn rfl dX12_six_69
  · refine v_iload (pc' := 58) 0 dX12_six_56 rfl rfl ?_
    refine v_goto (t := 69) dX12_six_58 (by decide) ?_
    exact v_ireturn rfl dX12_six_69
set_option maxRecDepth 20000 in
theorem h_X12_six_b29 (g : GW) (x4 : Int32) (x5 : Int32) (xs0 : Int32) : V g mX12_six 8 rtI 29 [(4, .int x4), (5, .int x5)] [.int xs0] (f_X12_six_b29 x4 x5 xs0) := by
  unfold f_X12_six_b29
  refine v_istore (lv' := [(6, .int xs0), (4, .int x4), (5, .int x5)]) (pc' := 31) dX12_six_29 (by decide) rfl rfl ?_
  refine v_iload (pc' := 33) 1 dX12_six_31 rfl rfl ?_
  refine v_ifne (t := 41) (pc' := 36) dX12_six_33 (by decide) rfl ?_ ?_
  · refine v_bipush (v := 27) (pc' := 43) dX12_six_41 rfl rfl ?_
    refine v_iload (pc' := 45) 0 dX12_six_43 rfl rfl ?_
    refine v_imul (pc' := 46) dX12_six_45 rfl ?_
    refine v_iload (pc' := 48) 1 dX12_six_46 rfl rfl ?_
    refine v_iadd (pc' := 49) dX12_six_48 rfl ?_
    refine V.sub [2] rfl ?_
    exact h_X12_six_b49 g x5 (((27 : Int32) * xs0) + x4)
  · refine v_iload (pc' := 38) 0 dX12_six_36 rfl rfl ?_
    refine v_goto (t := 49) dX12_six_38 (by decide) ?_
    refine V.sub [2] rfl ?_
    exact h_X12_six_b49 g x5 xs0
set_option maxRecDepth 20000 in
theorem h_X12_six (g : GW) (x0 : Int32) (x1 : Int32) (x2 : Int32) (x3 : Int32) (x4 : Int32) (x5 : Int32) : V g mX12_six 8 rtI 0 [(0, .int x0), (1, .int x1), (2, .int x2), (3, .int x3), (4, .int x4), (5, .int x5)] [] (f_X12_six x0 x1 x2 x3 x4 x5) := by
  unfold f_X12_six
  refine v_bipush (v := 27) (pc' := 2) dX12_six_0 rfl rfl ?_
  refine v_bipush (v := 27) (pc' := 4) dX12_six_2 rfl rfl ?_
  refine v_iload_n (pc' := 5) 0 dX12_six_4 rfl rfl rfl ?_
  refine v_imul (pc' := 6) dX12_six_5 rfl ?_
  refine v_iload_n (pc' := 7) 1 dX12_six_6 rfl rfl rfl ?_
  refine v_iadd (pc' := 8) dX12_six_7 rfl ?_
  refine v_imul (pc' := 9) dX12_six_8 rfl ?_
  refine v_iload_n (pc' := 10) 2 dX12_six_9 rfl rfl rfl ?_
  refine v_iadd (pc' := 11) dX12_six_10 rfl ?_
  refine v_istore (lv' := [(6, .int (((27 : Int32) * (((27 : Int32) * x0) + x1)) + x2)), (0, .int x0), (1, .int x1), (2, .int x2), (3, .int x3), (4, .int x4), (5, .int x5)]) (pc' := 13) dX12_six_11 (by decide) rfl rfl ?_
  refine v_iload_n (pc' := 14) 4 dX12_six_13 rfl rfl rfl ?_
  refine v_ifne (t := 22) (pc' := 17) dX12_six_14 (by decide) rfl ?_ ?_
  · refine v_bipush (v := 27) (pc' := 24) dX12_six_22 rfl rfl ?_
    refine v_iload (pc' := 26) 0 dX12_six_24 rfl rfl ?_
    refine v_imul (pc' := 27) dX12_six_26 rfl ?_
    refine v_iload_n (pc' := 28) 4 dX12_six_27 rfl rfl rfl ?_
    refine v_iadd (pc' := 29) dX12_six_28 rfl ?_
    refine V.sub [5, 6] rfl ?_
    exact h_X12_six_b29 g x4 x5 (((27 : Int32) * (((27 : Int32) * (((27 : Int32) * x0) + x1)) + x2)) + x3)
  · refine v_iload (pc' := 19) 0 dX12_six_17 rfl rfl ?_
    refine v_goto (t := 29) dX12_six_19 (by decide) ?_
    refine V.sub [5, 6] rfl ?_
    exact h_X12_six_b29 g x4 x5 (((27 : Int32) * (((27 : Int32) * x0) + x1)) + x2)
-- isWord
def f_X12_isWord (a0 : Nat) (x1 : Int32) (x2 : Int32) (x3 : Int32) (x4 : Int32) (x5 : Int32) (x6 : Int32) : Mo Int32 := bd (gI 12 5 a0) fun v1 => if (v1 = 0 : Prop) then (bd (cv 12 a0 (f_X12_wordHere a0)) fun v2 => bd (f_X12_six x1 x2 x3 x4 x5 x6) fun v3 => if (v2 = v3 : Prop) then (pu 1) else pu 0) else pu 0
set_option maxRecDepth 20000 in
theorem h_X12_isWord (g : GW) (a0 : Nat) (x1 : Int32) (x2 : Int32) (x3 : Int32) (x4 : Int32) (x5 : Int32) (x6 : Int32) : V g mX12_isWord 11 rtI 0 [(0, rf g a0), (1, .int x1), (2, .int x2), (3, .int x3), (4, .int x4), (5, .int x5), (6, .int x6)] [] (f_X12_isWord a0 x1 x2 x3 x4 x5 x6) := by
  unfold f_X12_isWord
  refine v_aload_n (pc' := 1) 0 dX12_isWord_0 rfl rfl rfl ?_
  refine v_getI (pc' := 4) fl_X12_110 dX12_isWord_1 rfl fun v1 => ?_
  refine v_ifne (t := 30) (pc' := 7) dX12_isWord_4 (by decide) rfl ?_ ?_
  · refine v_iconst (v := 0) (pc' := 31) dX12_isWord_30 rfl rfl ?_
    exact v_zret rfl rfl dX12_isWord_31
  · refine v_aload_n (pc' := 8) 0 dX12_isWord_7 rfl rfl rfl ?_
    refine v_callV (vs := []) (pc' := 11) (h_X12_wordHere g a0) mv_X12_wordHere wl_X12_135 rfl (Nat.le_of_ble_eq_true rfl) (by omega) (by decide) (Nat.le_of_ble_eq_true rfl) rfl dX12_isWord_8 rfl fun v2 => ?_
    refine v_iload_n (pc' := 12) 1 dX12_isWord_11 rfl rfl rfl ?_
    refine v_iload_n (pc' := 13) 2 dX12_isWord_12 rfl rfl rfl ?_
    refine v_iload_n (pc' := 14) 3 dX12_isWord_13 rfl rfl rfl ?_
    refine v_iload (pc' := 16) 4 dX12_isWord_14 rfl rfl ?_
    refine v_iload (pc' := 18) 5 dX12_isWord_16 rfl rfl ?_
    refine v_iload (pc' := 20) 6 dX12_isWord_18 rfl rfl ?_
    refine v_callS (vs := [.int x1, .int x2, .int x3, .int x4, .int x5, .int x6]) (pc' := 23) (h_X12_six g x1 x2 x3 x4 x5 x6) ms_X12_six wl_X12_139 (Nat.le_of_ble_eq_true rfl) (by omega) (by decide) (Nat.le_of_ble_eq_true rfl) rfl dX12_isWord_20 rfl fun v3 => ?_
    refine v_icmpne (t := 30) (pc' := 26) dX12_isWord_23 (by decide) rfl ?_ ?_
    · refine v_iconst (v := 0) (pc' := 31) dX12_isWord_30 rfl rfl ?_
      exact v_zret rfl rfl dX12_isWord_31
    · refine v_iconst (v := 1) (pc' := 27) dX12_isWord_26 rfl rfl ?_
      refine v_goto (t := 31) dX12_isWord_27 (by decide) ?_
      exact v_zret rfl rfl dX12_isWord_31
-- skipWord
def f_X12_skipWord_b0 : Nat → Nat → Mo Unit
  | 0, _ => fl
  | n + 1, a0 => bd (gI 12 4 a0) fun v1 => bd (cv 12 a0 (f_X12_byteAt a0 v1)) fun v2 => bd (f_X12_isSmall v2) fun v3 => if (v3 = 0 : Prop) then (pu ()) else bd (gI 12 4 a0) fun v4 => bd (pf 12 4 a0 (.int (v4 + (1 : Int32)))) fun _ => (f_X12_skipWord_b0 n) a0
def f_X12_skipWord (a0 : Nat) : Mo Unit := f_X12_skipWord_b0 NF a0
set_option maxRecDepth 20000 in
theorem h_X12_skipWord_b0 (g : GW) : ∀ n : Nat, ∀ a0, V g mX12_skipWord 9 rtU 0 [(0, rf g a0)] [] (f_X12_skipWord_b0 n a0) := by
  intro n
  induction n with
  | zero => intro a0; exact V.vain
  | succ n ih =>
    intro a0
    unfold f_X12_skipWord_b0
    refine v_aload_n (pc' := 1) 0 dX12_skipWord_0 rfl rfl rfl ?_
    refine v_aload_n (pc' := 2) 0 dX12_skipWord_1 rfl rfl rfl ?_
    refine v_getI (pc' := 5) fl_X12_103 dX12_skipWord_2 rfl fun v1 => ?_
    refine v_callV (vs := [.int v1]) (pc' := 8) (h_X12_byteAt g a0 v1) mv_X12_byteAt wl_X12_106 rfl (Nat.le_of_ble_eq_true rfl) (by omega) (by decide) (Nat.le_of_ble_eq_true rfl) rfl dX12_skipWord_5 rfl fun v2 => ?_
    refine v_callS (vs := [.int v2]) (pc' := 11) (h_X12_isSmall g v2) ms_X12_isSmall wl_X12_132 (Nat.le_of_ble_eq_true rfl) (by omega) (by decide) (Nat.le_of_ble_eq_true rfl) rfl dX12_skipWord_8 rfl fun v3 => ?_
    refine v_ifeq (t := 27) (pc' := 14) dX12_skipWord_11 (by decide) rfl ?_ ?_
    · exact v_return rfl dX12_skipWord_27
    · refine v_aload_n (pc' := 15) 0 dX12_skipWord_14 rfl rfl rfl ?_
      refine v_dup (pc' := 16) dX12_skipWord_15 rfl rfl ?_
      refine v_getI (pc' := 19) fl_X12_103 dX12_skipWord_16 rfl fun v4 => ?_
      refine v_iconst (v := 1) (pc' := 20) dX12_skipWord_19 rfl rfl ?_
      refine v_iadd (pc' := 21) dX12_skipWord_20 rfl ?_
      refine v_put (v := (.int (v4 + (1 : Int32)))) (v' := .int (v4 + (1 : Int32))) (pc' := 24) fw_X12_103 rfl rfl rfl (fun h => nomatch h) dX12_skipWord_21 rfl ?_
      refine v_goto (t := 0) dX12_skipWord_24 (by decide) ?_
      refine V.sub [0] rfl ?_
      exact ih a0
set_option maxRecDepth 20000 in
theorem h_X12_skipWord (g : GW) (a0 : Nat) : V g mX12_skipWord 9 rtU 0 [(0, rf g a0)] [] (f_X12_skipWord a0) := by
  unfold f_X12_skipWord
  refine V.sub [0] rfl ?_
  exact h_X12_skipWord_b0 g NF a0
-- takes
def f_X12_takes (a0 : Nat) (x1 : Int32) (x2 : Int32) (x3 : Int32) (x4 : Int32) (x5 : Int32) (x6 : Int32) : Mo Int32 := bd (cv 12 a0 (f_X12_isWord a0 x1 x2 x3 x4 x5 x6)) fun v1 => if (v1 = 0 : Prop) then (rz v1) else bd (cv 12 a0 (f_X12_skipWord a0)) fun _ => rz v1
set_option maxRecDepth 20000 in
theorem h_X12_takes (g : GW) (a0 : Nat) (x1 : Int32) (x2 : Int32) (x3 : Int32) (x4 : Int32) (x5 : Int32) (x6 : Int32) : V g mX12_takes 12 rtI 0 [(0, rf g a0), (1, .int x1), (2, .int x2), (3, .int x3), (4, .int x4), (5, .int x5), (6, .int x6)] [] (f_X12_takes a0 x1 x2 x3 x4 x5 x6) := by
  unfold f_X12_takes
  refine v_aload_n (pc' := 1) 0 dX12_takes_0 rfl rfl rfl ?_
  refine v_iload_n (pc' := 2) 1 dX12_takes_1 rfl rfl rfl ?_
  refine v_iload_n (pc' := 3) 2 dX12_takes_2 rfl rfl rfl ?_
  refine v_iload_n (pc' := 4) 3 dX12_takes_3 rfl rfl rfl ?_
  refine v_iload (pc' := 6) 4 dX12_takes_4 rfl rfl ?_
  refine v_iload (pc' := 8) 5 dX12_takes_6 rfl rfl ?_
  refine v_iload (pc' := 10) 6 dX12_takes_8 rfl rfl ?_
  refine v_callV (vs := [.int x1, .int x2, .int x3, .int x4, .int x5, .int x6]) (pc' := 13) (h_X12_isWord g a0 x1 x2 x3 x4 x5 x6) mv_X12_isWord wl_X12_143 rfl (Nat.le_of_ble_eq_true rfl) (by omega) (by decide) (Nat.le_of_ble_eq_true rfl) rfl dX12_takes_10 rfl fun v1 => ?_
  refine v_istore (lv' := [(7, .int v1), (0, rf g a0), (1, .int x1), (2, .int x2), (3, .int x3), (4, .int x4), (5, .int x5), (6, .int x6)]) (pc' := 15) dX12_takes_13 (by decide) rfl rfl ?_
  refine v_iload (pc' := 17) 0 dX12_takes_15 rfl rfl ?_
  refine v_ifeq (t := 24) (pc' := 20) dX12_takes_17 (by decide) rfl ?_ ?_
  · refine v_iload (pc' := 26) 0 dX12_takes_24 rfl rfl ?_
    exact v_zretV rfl dX12_takes_26
  · refine v_aload_n (pc' := 21) 1 dX12_takes_20 rfl rfl rfl ?_
    refine v_callV (vs := []) (pc' := 24) (h_X12_skipWord g a0) mv_X12_skipWord wl_X12_147 rfl (Nat.le_of_ble_eq_true rfl) (by omega) (by decide) (Nat.le_of_ble_eq_true rfl) rfl dX12_takes_21 rfl fun _ => ?_
    refine v_iload (pc' := 26) 0 dX12_takes_24 rfl rfl ?_
    exact v_zretV rfl dX12_takes_26
-- sign
def f_X12_sign (a0 : Nat) (x1 : Int32) : Mo Unit := bd (gI 12 5 a0) fun v1 => if (v1 = 0 : Prop) then (bd (cv 12 a0 (f_X12_blanks a0)) fun _ => bd (gI 12 4 a0) fun v2 => bd (cv 12 a0 (f_X12_byteAt a0 v2)) fun v3 => if (v3 = x1 : Prop) then (bd (gI 12 4 a0) fun v5 => bd (pf 12 4 a0 (.int (v5 + (1 : Int32)))) fun _ => pu ()) else bd (gI 12 4 a0) fun v4 => bd (cv 12 a0 (f_X12_wrong a0 1 v4)) fun _ => pu ()) else pu ()
set_option maxRecDepth 20000 in
theorem h_X12_sign (g : GW) (a0 : Nat) (x1 : Int32) : V g mX12_sign 10 rtU 0 [(0, rf g a0), (1, .int x1)] [] (f_X12_sign a0 x1) := by
  unfold f_X12_sign
  refine v_aload_n (pc' := 1) 0 dX12_sign_0 rfl rfl rfl ?_
  refine v_getI (pc' := 4) fl_X12_110 dX12_sign_1 rfl fun v1 => ?_
  refine v_ifeq (t := 8) (pc' := 7) dX12_sign_4 (by decide) rfl ?_ ?_
  · refine v_aload_n (pc' := 9) 0 dX12_sign_8 rfl rfl rfl ?_
    refine v_callV (vs := []) (pc' := 12) (h_X12_blanks g a0) mv_X12_blanks wl_X12_116 rfl (Nat.le_of_ble_eq_true rfl) (by omega) (by decide) (Nat.le_of_ble_eq_true rfl) rfl dX12_sign_9 rfl fun _ => ?_
    refine v_aload_n (pc' := 13) 0 dX12_sign_12 rfl rfl rfl ?_
    refine v_aload_n (pc' := 14) 0 dX12_sign_13 rfl rfl rfl ?_
    refine v_getI (pc' := 17) fl_X12_103 dX12_sign_14 rfl fun v2 => ?_
    refine v_callV (vs := [.int v2]) (pc' := 20) (h_X12_byteAt g a0 v2) mv_X12_byteAt wl_X12_106 rfl (Nat.le_of_ble_eq_true rfl) (by omega) (by decide) (Nat.le_of_ble_eq_true rfl) rfl dX12_sign_17 rfl fun v3 => ?_
    refine v_iload_n (pc' := 21) 1 dX12_sign_20 rfl rfl rfl ?_
    refine v_icmpne (t := 37) (pc' := 24) dX12_sign_21 (by decide) rfl ?_ ?_
    · refine v_aload_n (pc' := 38) 0 dX12_sign_37 rfl rfl rfl ?_
      refine v_iconst (v := 1) (pc' := 39) dX12_sign_38 rfl rfl ?_
      refine v_aload_n (pc' := 40) 0 dX12_sign_39 rfl rfl rfl ?_
      refine v_getI (pc' := 43) fl_X12_103 dX12_sign_40 rfl fun v4 => ?_
      refine v_callV (vs := [.int 1, .int v4]) (pc' := 46) (h_X12_wrong g a0 1 v4) mv_X12_wrong wl_X12_123 rfl (Nat.le_of_ble_eq_true rfl) (by omega) (by decide) (Nat.le_of_ble_eq_true rfl) rfl dX12_sign_43 rfl fun _ => ?_
      exact v_return rfl dX12_sign_46
    · refine v_aload_n (pc' := 25) 0 dX12_sign_24 rfl rfl rfl ?_
      refine v_dup (pc' := 26) dX12_sign_25 rfl rfl ?_
      refine v_getI (pc' := 29) fl_X12_103 dX12_sign_26 rfl fun v5 => ?_
      refine v_iconst (v := 1) (pc' := 30) dX12_sign_29 rfl rfl ?_
      refine v_iadd (pc' := 31) dX12_sign_30 rfl ?_
      refine v_put (v := (.int (v5 + (1 : Int32)))) (v' := .int (v5 + (1 : Int32))) (pc' := 34) fw_X12_103 rfl rfl rfl (fun h => nomatch h) dX12_sign_31 rfl ?_
      refine v_goto (t := 46) dX12_sign_34 (by decide) ?_
      exact v_return rfl dX12_sign_46
  · exact v_return rfl dX12_sign_7
-- takesSign
def f_X12_takesSign_b30 (a0 : Nat) (xs0 : Int32) : Mo Int32 := if (xs0 = 0 : Prop) then (rz xs0) else bd (gI 12 4 a0) fun v1 => bd (pf 12 4 a0 (.int (v1 + (1 : Int32)))) fun _ => rz xs0
def f_X12_takesSign (a0 : Nat) (x1 : Int32) : Mo Int32 := bd (gI 12 5 a0) fun v2 => if (v2 = 0 : Prop) then (bd (cv 12 a0 (f_X12_blanks a0)) fun _ => bd (gI 12 4 a0) fun v3 => bd (cv 12 a0 (f_X12_byteAt a0 v3)) fun v4 => if (v4 = x1 : Prop) then (f_X12_takesSign_b30 a0 1) else f_X12_takesSign_b30 a0 0) else pu 0
set_option maxRecDepth 20000 in
theorem h_X12_takesSign_b30 (g : GW) (a0 : Nat) (xs0 : Int32) : V g mX12_takesSign 10 rtI 30 [(0, rf g a0)] [.int xs0] (f_X12_takesSign_b30 a0 xs0) := by
  unfold f_X12_takesSign_b30
  refine v_istore_n (lv' := [(2, .int xs0), (0, rf g a0)]) (pc' := 31) dX12_takesSign_30 rfl (by decide) rfl rfl ?_
  refine v_iload_n (pc' := 32) 0 dX12_takesSign_31 rfl rfl rfl ?_
  refine v_ifeq (t := 45) (pc' := 35) dX12_takesSign_32 (by decide) rfl ?_ ?_
  · refine v_iload_n (pc' := 46) 0 dX12_takesSign_45 rfl rfl rfl ?_
    exact v_zretV rfl dX12_takesSign_46
  · refine v_aload_n (pc' := 36) 1 dX12_takesSign_35 rfl rfl rfl ?_
    refine v_dup (pc' := 37) dX12_takesSign_36 rfl rfl ?_
    refine v_getI (pc' := 40) fl_X12_103 dX12_takesSign_37 rfl fun v1 => ?_
    refine v_iconst (v := 1) (pc' := 41) dX12_takesSign_40 rfl rfl ?_
    refine v_iadd (pc' := 42) dX12_takesSign_41 rfl ?_
    refine v_put (v := (.int (v1 + (1 : Int32)))) (v' := .int (v1 + (1 : Int32))) (pc' := 45) fw_X12_103 rfl rfl rfl (fun h => nomatch h) dX12_takesSign_42 rfl ?_
    refine v_iload_n (pc' := 46) 0 dX12_takesSign_45 rfl rfl rfl ?_
    exact v_zretV rfl dX12_takesSign_46
set_option maxRecDepth 20000 in
theorem h_X12_takesSign (g : GW) (a0 : Nat) (x1 : Int32) : V g mX12_takesSign 10 rtI 0 [(0, rf g a0), (1, .int x1)] [] (f_X12_takesSign a0 x1) := by
  unfold f_X12_takesSign
  refine v_aload_n (pc' := 1) 0 dX12_takesSign_0 rfl rfl rfl ?_
  refine v_getI (pc' := 4) fl_X12_110 dX12_takesSign_1 rfl fun v2 => ?_
  refine v_ifeq (t := 9) (pc' := 7) dX12_takesSign_4 (by decide) rfl ?_ ?_
  · refine v_aload_n (pc' := 10) 0 dX12_takesSign_9 rfl rfl rfl ?_
    refine v_callV (vs := []) (pc' := 13) (h_X12_blanks g a0) mv_X12_blanks wl_X12_116 rfl (Nat.le_of_ble_eq_true rfl) (by omega) (by decide) (Nat.le_of_ble_eq_true rfl) rfl dX12_takesSign_10 rfl fun _ => ?_
    refine v_aload_n (pc' := 14) 0 dX12_takesSign_13 rfl rfl rfl ?_
    refine v_aload_n (pc' := 15) 0 dX12_takesSign_14 rfl rfl rfl ?_
    refine v_getI (pc' := 18) fl_X12_103 dX12_takesSign_15 rfl fun v3 => ?_
    refine v_callV (vs := [.int v3]) (pc' := 21) (h_X12_byteAt g a0 v3) mv_X12_byteAt wl_X12_106 rfl (Nat.le_of_ble_eq_true rfl) (by omega) (by decide) (Nat.le_of_ble_eq_true rfl) rfl dX12_takesSign_18 rfl fun v4 => ?_
    refine v_iload_n (pc' := 22) 1 dX12_takesSign_21 rfl rfl rfl ?_
    refine v_icmpne (t := 29) (pc' := 25) dX12_takesSign_22 (by decide) rfl ?_ ?_
    · refine v_iconst (v := 0) (pc' := 30) dX12_takesSign_29 rfl rfl ?_
      refine V.sub [0] rfl ?_
      exact h_X12_takesSign_b30 g a0 0
    · refine v_iconst (v := 1) (pc' := 26) dX12_takesSign_25 rfl rfl ?_
      refine v_goto (t := 30) dX12_takesSign_26 (by decide) ?_
      refine V.sub [0] rfl ?_
      exact h_X12_takesSign_b30 g a0 1
  · refine v_iconst (v := 0) (pc' := 8) dX12_takesSign_7 rfl rfl ?_
    exact v_zret rfl rfl dX12_takesSign_8
-- starts
def f_X12_starts (a0 : Nat) (x1 : Int32) : Mo Unit := bd (pf 12 1 a0 (.int 0)) fun _ => bd (pf 12 2 a0 (.int x1)) fun _ => bd (pf 12 4 a0 (.int 0)) fun _ => bd (pf 12 5 a0 (.int 0)) fun _ => bd (pf 12 6 a0 (.int (-1))) fun _ => bd (pf 12 7 a0 (.int 0)) fun _ => bd (pf 12 8 a0 (.int 0)) fun _ => bd (cv 12 a0 (f_X12_blanks a0)) fun _ => pu ()
set_option maxRecDepth 20000 in
theorem h_X12_starts (g : GW) (a0 : Nat) (x1 : Int32) : V g mX12_starts 10 rtU 0 [(0, rf g a0), (1, .int x1)] [] (f_X12_starts a0 x1) := by
  unfold f_X12_starts
  refine v_aload_n (pc' := 1) 0 dX12_starts_0 rfl rfl rfl ?_
  refine v_iconst (v := 0) (pc' := 2) dX12_starts_1 rfl rfl ?_
  refine v_put (v := (.int 0)) (v' := .int 0) (pc' := 5) fw_X12_97 rfl rfl rfl (fun h => nomatch h) dX12_starts_2 rfl ?_
  refine v_aload_n (pc' := 6) 0 dX12_starts_5 rfl rfl rfl ?_
  refine v_iload_n (pc' := 7) 1 dX12_starts_6 rfl rfl rfl ?_
  refine v_put (v := (.int x1)) (v' := .int x1) (pc' := 10) fw_X12_100 rfl rfl rfl (fun h => nomatch h) dX12_starts_7 rfl ?_
  refine v_aload_n (pc' := 11) 0 dX12_starts_10 rfl rfl rfl ?_
  refine v_iconst (v := 0) (pc' := 12) dX12_starts_11 rfl rfl ?_
  refine v_put (v := (.int 0)) (v' := .int 0) (pc' := 15) fw_X12_103 rfl rfl rfl (fun h => nomatch h) dX12_starts_12 rfl ?_
  refine v_aload_n (pc' := 16) 0 dX12_starts_15 rfl rfl rfl ?_
  refine v_iconst (v := 0) (pc' := 17) dX12_starts_16 rfl rfl ?_
  refine v_put (v := (.int 0)) (v' := .int 0) (pc' := 20) fw_X12_110 rfl rfl rfl (fun h => nomatch h) dX12_starts_17 rfl ?_
  refine v_aload_n (pc' := 21) 0 dX12_starts_20 rfl rfl rfl ?_
  refine v_iconst (v := -1) (pc' := 22) dX12_starts_21 rfl rfl ?_
  refine v_put (v := (.int (-1))) (v' := .int (-1)) (pc' := 25) fw_X12_113 rfl rfl rfl (fun h => nomatch h) dX12_starts_22 rfl ?_
  refine v_aload_n (pc' := 26) 0 dX12_starts_25 rfl rfl rfl ?_
  refine v_iconst (v := 0) (pc' := 27) dX12_starts_26 rfl rfl ?_
  refine v_put (v := (.int 0)) (v' := .int 0) (pc' := 30) fw_X12_150 rfl rfl rfl (fun h => nomatch h) dX12_starts_27 rfl ?_
  refine v_aload_n (pc' := 31) 0 dX12_starts_30 rfl rfl rfl ?_
  refine v_iconst (v := 0) (pc' := 32) dX12_starts_31 rfl rfl ?_
  refine v_put (v := (.int 0)) (v' := .int 0) (pc' := 35) fw_X12_153 rfl rfl rfl (fun h => nomatch h) dX12_starts_32 rfl ?_
  refine v_aload_n (pc' := 36) 0 dX12_starts_35 rfl rfl rfl ?_
  refine v_callV (vs := []) (pc' := 39) (h_X12_blanks g a0) mv_X12_blanks wl_X12_116 rfl (Nat.le_of_ble_eq_true rfl) (by omega) (by decide) (Nat.le_of_ble_eq_true rfl) rfl dX12_starts_36 rfl fun _ => ?_
  exact v_return rfl dX12_starts_39
-- ends
def f_X12_ends (a0 : Nat) : Mo Int32 := bd (gI 12 6 a0) fun v1 => bd (pf 12 3 a0 (.int v1)) fun _ => bd (gI 12 5 a0) fun v2 => pu (v2 - (10 : Int32))
set_option maxRecDepth 20000 in
theorem h_X12_ends (g : GW) (a0 : Nat) : V g mX12_ends 8 rtI 0 [(0, rf g a0)] [] (f_X12_ends a0) := by
  unfold f_X12_ends
  refine v_aload_n (pc' := 1) 0 dX12_ends_0 rfl rfl rfl ?_
  refine v_aload_n (pc' := 2) 0 dX12_ends_1 rfl rfl rfl ?_
  refine v_getI (pc' := 5) fl_X12_113 dX12_ends_2 rfl fun v1 => ?_
  refine v_put (v := (.int v1)) (v' := .int v1) (pc' := 8) fw_X12_9 rfl rfl rfl (fun h => nomatch h) dX12_ends_5 rfl ?_
  refine v_aload_n (pc' := 9) 0 dX12_ends_8 rfl rfl rfl ?_
  refine v_getI (pc' := 12) fl_X12_110 dX12_ends_9 rfl fun v2 => ?_
  refine v_bipush (v := 10) (pc' := 14) dX12_ends_12 rfl rfl ?_
  refine v_isub (pc' := 15) dX12_ends_14 rfl ?_
  exact v_ireturn rfl dX12_ends_15
-- kindHere
def f_X12_kindHere (a0 : Nat) : Mo Int32 := bd (cv 12 a0 (f_X12_isWord a0 16 5 18 19 15 14)) fun v1 => if (v1 = 0 : Prop) then (bd (cv 12 a0 (f_X12_isWord a0 12 9 11 5 0 0)) fun v2 => if (v2 = 0 : Prop) then (bd (cv 12 a0 (f_X12_isWord a0 19 8 25 0 0 0)) fun v3 => if (v3 = 0 : Prop) then (pu (-1)) else pu 2) else pu 1) else pu 0
set_option maxRecDepth 20000 in
theorem h_X12_kindHere (g : GW) (a0 : Nat) : V g mX12_kindHere 12 rtI 0 [(0, rf g a0)] [] (f_X12_kindHere a0) := by
  unfold f_X12_kindHere
  refine v_aload_n (pc' := 1) 0 dX12_kindHere_0 rfl rfl rfl ?_
  refine v_bipush (v := 16) (pc' := 3) dX12_kindHere_1 rfl rfl ?_
  refine v_iconst (v := 5) (pc' := 4) dX12_kindHere_3 rfl rfl ?_
  refine v_bipush (v := 18) (pc' := 6) dX12_kindHere_4 rfl rfl ?_
  refine v_bipush (v := 19) (pc' := 8) dX12_kindHere_6 rfl rfl ?_
  refine v_bipush (v := 15) (pc' := 10) dX12_kindHere_8 rfl rfl ?_
  refine v_bipush (v := 14) (pc' := 12) dX12_kindHere_10 rfl rfl ?_
  refine v_callV (vs := [.int 16, .int 5, .int 18, .int 19, .int 15, .int 14]) (pc' := 15) (h_X12_isWord g a0 16 5 18 19 15 14) mv_X12_isWord wl_X12_143 rfl (Nat.le_of_ble_eq_true rfl) (by omega) (by decide) (Nat.le_of_ble_eq_true rfl) rfl dX12_kindHere_12 rfl fun v1 => ?_
  refine v_ifeq (t := 20) (pc' := 18) dX12_kindHere_15 (by decide) rfl ?_ ?_
  · refine v_aload_n (pc' := 21) 0 dX12_kindHere_20 rfl rfl rfl ?_
    refine v_bipush (v := 12) (pc' := 23) dX12_kindHere_21 rfl rfl ?_
    refine v_bipush (v := 9) (pc' := 25) dX12_kindHere_23 rfl rfl ?_
    refine v_bipush (v := 11) (pc' := 27) dX12_kindHere_25 rfl rfl ?_
    refine v_iconst (v := 5) (pc' := 28) dX12_kindHere_27 rfl rfl ?_
    refine v_iconst (v := 0) (pc' := 29) dX12_kindHere_28 rfl rfl ?_
    refine v_iconst (v := 0) (pc' := 30) dX12_kindHere_29 rfl rfl ?_
    refine v_callV (vs := [.int 12, .int 9, .int 11, .int 5, .int 0, .int 0]) (pc' := 33) (h_X12_isWord g a0 12 9 11 5 0 0) mv_X12_isWord wl_X12_143 rfl (Nat.le_of_ble_eq_true rfl) (by omega) (by decide) (Nat.le_of_ble_eq_true rfl) rfl dX12_kindHere_30 rfl fun v2 => ?_
    refine v_ifeq (t := 38) (pc' := 36) dX12_kindHere_33 (by decide) rfl ?_ ?_
    · refine v_aload_n (pc' := 39) 0 dX12_kindHere_38 rfl rfl rfl ?_
      refine v_bipush (v := 19) (pc' := 41) dX12_kindHere_39 rfl rfl ?_
      refine v_bipush (v := 8) (pc' := 43) dX12_kindHere_41 rfl rfl ?_
      refine v_bipush (v := 25) (pc' := 45) dX12_kindHere_43 rfl rfl ?_
      refine v_iconst (v := 0) (pc' := 46) dX12_kindHere_45 rfl rfl ?_
      refine v_iconst (v := 0) (pc' := 47) dX12_kindHere_46 rfl rfl ?_
      refine v_iconst (v := 0) (pc' := 48) dX12_kindHere_47 rfl rfl ?_
      refine v_callV (vs := [.int 19, .int 8, .int 25, .int 0, .int 0, .int 0]) (pc' := 51) (h_X12_isWord g a0 19 8 25 0 0 0) mv_X12_isWord wl_X12_143 rfl (Nat.le_of_ble_eq_true rfl) (by omega) (by decide) (Nat.le_of_ble_eq_true rfl) rfl dX12_kindHere_48 rfl fun v3 => ?_
      refine v_ifeq (t := 58) (pc' := 54) dX12_kindHere_51 (by decide) rfl ?_ ?_
      · refine v_iconst (v := -1) (pc' := 59) dX12_kindHere_58 rfl rfl ?_
        exact v_ireturn rfl dX12_kindHere_59
      · refine v_iconst (v := 2) (pc' := 55) dX12_kindHere_54 rfl rfl ?_
        refine v_goto (t := 59) dX12_kindHere_55 (by decide) ?_
        exact v_ireturn rfl dX12_kindHere_59
    · refine v_iconst (v := 1) (pc' := 37) dX12_kindHere_36 rfl rfl ?_
      exact v_ireturn rfl dX12_kindHere_37
  · refine v_iconst (v := 0) (pc' := 19) dX12_kindHere_18 rfl rfl ?_
    exact v_ireturn rfl dX12_kindHere_19
-- clause
def f_X12_clause_b245 (a0 : Nat) : Mo Unit := bd (cv 12 a0 (f_X12_sign a0 59)) fun _ => pu ()
def f_X12_clause_b165 (a0 : Nat) (xs0 : Int32) (xs1 : Int32) (xs2 : Int32) (as3 : Nat) : Mo Unit := bd (as_ as3 xs2 (xs1 + xs0)) fun _ => f_X12_clause_b245 a0
def f_X12_clause_b55 (a0 : Nat) (x1 : Int32) : Mo Unit := bd (gI 12 5 a0) fun v1 => if (v1 = 0 : Prop) then (bd (cv 12 a0 (f_X12_skipWord a0)) fun _ => bd (gI 12 7 a0) fun v2 => bd (pf 12 7 a0 (.int (v2 + (1 : Int32)))) fun _ => if (x1 = 0 : Prop) then (bd (gR 12 15 a0) fun r3 => bd (gR 12 11 a0) fun r4 => bd (al 0 r4 0) fun v5 => bd (aR 3 r3 v5) fun r6 => bd (cv 12 a0 (f_X12_number a0 0 63)) fun v7 => bd (as_ r6 0 v7) fun _ => bd (cv 12 a0 (f_X12_number a0 0 9)) fun v8 => bd (as_ r6 1 v8) fun _ => bd (cv 12 a0 (f_X12_number a0 0 40)) fun v9 => bd (as_ r6 2 v9) fun _ => bd (gR 12 11 a0) fun r10 => bd (al 0 r10 0) fun v11 => bd (gI 12 5 a0) fun v12 => if (v12 = 0 : Prop) then (f_X12_clause_b165 a0 1 v11 0 r10) else f_X12_clause_b165 a0 0 v11 0 r10) else if (x1 = 1 : Prop) then (bd (cv 12 a0 (f_X12_number a0 0 6)) fun v13 => bd (gI 12 5 a0) fun v14 => if (v14 = 0 : Prop) then (bd (gR 12 11 a0) fun r15 => bd (as_ r15 1 v13) fun _ => f_X12_clause_b245 a0) else f_X12_clause_b245 a0) else bd (gR 12 11 a0) fun r16 => bd (al 0 r16 0) fun v17 => bd (cv 12 a0 (f_X12_number a0 0 (v17 - (1 : Int32)))) fun v18 => bd (gR 12 11 a0) fun r19 => bd (al 0 r19 0) fun v20 => bd (cv 12 a0 (f_X12_number a0 0 (v20 - (1 : Int32)))) fun v21 => bd (gI 12 5 a0) fun v22 => if (v22 = 0 : Prop) then (bd (gR 12 13 a0) fun r23 => bd (al 0 r23 v18) fun v24 => bd (as_ r23 v18 (v24 ||| ((1 : Int32) <<< (v21 &&& 31)))) fun _ => f_X12_clause_b245 a0) else f_X12_clause_b245 a0) else pu ()
def f_X12_clause_b46 (a0 : Nat) (x1 : Int32) : Mo Unit := bd (gI 12 4 a0) fun v25 => bd (cv 12 a0 (f_X12_wrong a0 3 v25)) fun _ => f_X12_clause_b55 a0 x1
def f_X12_clause (a0 : Nat) : Mo Unit := bd (cv 12 a0 (f_X12_kindHere a0)) fun v26 => if (v26 = (-1) : Prop) then (bd (gI 12 4 a0) fun v30 => bd (cv 12 a0 (f_X12_wrong a0 1 v30)) fun _ => f_X12_clause_b55 a0 v26) else bd (gI 12 7 a0) fun v27 => if (v27 = 60 : Prop) then (f_X12_clause_b46 a0 v26) else if (v26 = 0 : Prop) then (bd (gR 12 11 a0) fun r28 => bd (al 0 r28 0) fun v29 => if (v29 = 8 : Prop) then (f_X12_clause_b46 a0 v26) else f_X12_clause_b55 a0 v26) else f_X12_clause_b55 a0 v26
set_option maxRecDepth 20000 in
theorem h_X12_clause_b245 (g : GW) (a0 : Nat) : V g mX12_clause 13 rtU 245 [(0, rf g a0)] [] (f_X12_clause_b245 a0) := by
  unfold f_X12_clause_b245
  refine v_aload_n (pc' := 246) 0 dX12_clause_245 rfl rfl rfl ?_
  refine v_bipush (v := 59) (pc' := 248) dX12_clause_246 rfl rfl ?_
  refine v_callV (vs := [.int 59]) (pc' := 251) (h_X12_sign g a0 59) mv_X12_sign wl_X12_163 rfl (Nat.le_of_ble_eq_true rfl) (by omega) (by decide) (Nat.le_of_ble_eq_true rfl) rfl dX12_clause_248 rfl fun _ => ?_
  exact v_return rfl dX12_clause_251
set_option maxRecDepth 20000 in
theorem h_X12_clause_b165 (g : GW) (a0 : Nat) (xs0 : Int32) (xs1 : Int32) (xs2 : Int32) (as3 : Nat) : V g mX12_clause 13 rtU 165 [(0, rf g a0)] [.int xs0, .int xs1, .int xs2, rf g as3] (f_X12_clause_b165 a0 xs0 xs1 xs2 as3) := by
  unfold f_X12_clause_b165
  refine v_iadd (pc' := 166) dX12_clause_165 rfl ?_
  refine v_iast (pc' := 167) dX12_clause_166 rfl ?_
  refine v_goto (t := 245) dX12_clause_167 (by decide) ?_
  refine V.sub [0] rfl ?_
  exact h_X12_clause_b245 g a0
set_option maxRecDepth 20000 in
theorem h_X12_clause_b55 (g : GW) (a0 : Nat) (x1 : Int32) : V g mX12_clause 13 rtU 55 [(0, rf g a0), (1, .int x1)] [] (f_X12_clause_b55 a0 x1) := by
  unfold f_X12_clause_b55
  refine v_aload_n (pc' := 56) 0 dX12_clause_55 rfl rfl rfl ?_
  refine v_getI (pc' := 59) fl_X12_110 dX12_clause_56 rfl fun v1 => ?_
  refine v_ifeq (t := 63) (pc' := 62) dX12_clause_59 (by decide) rfl ?_ ?_
  · refine v_aload_n (pc' := 64) 0 dX12_clause_63 rfl rfl rfl ?_
    refine v_callV (vs := []) (pc' := 67) (h_X12_skipWord g a0) mv_X12_skipWord wl_X12_147 rfl (Nat.le_of_ble_eq_true rfl) (by omega) (by decide) (Nat.le_of_ble_eq_true rfl) rfl dX12_clause_64 rfl fun _ => ?_
    refine v_aload_n (pc' := 68) 0 dX12_clause_67 rfl rfl rfl ?_
    refine v_dup (pc' := 69) dX12_clause_68 rfl rfl ?_
    refine v_getI (pc' := 72) fl_X12_150 dX12_clause_69 rfl fun v2 => ?_
    refine v_iconst (v := 1) (pc' := 73) dX12_clause_72 rfl rfl ?_
    refine v_iadd (pc' := 74) dX12_clause_73 rfl ?_
    refine v_put (v := (.int (v2 + (1 : Int32)))) (v' := .int (v2 + (1 : Int32))) (pc' := 77) fw_X12_150 rfl rfl rfl (fun h => nomatch h) dX12_clause_74 rfl ?_
    refine v_iload_n (pc' := 78) 1 dX12_clause_77 rfl rfl rfl ?_
    refine v_look01 (t0 := 104) (t1 := 170) (td := 195) dX12_clause_78 (by decide) (by decide) (by decide) ?_ ?_ ?_
    · refine v_aload_n (pc' := 105) 0 dX12_clause_104 rfl rfl rfl ?_
      refine v_getR (pc' := 108) fl_X12_34 dX12_clause_105 rfl fun r3 => ?_
      refine v_aload_n (pc' := 109) 0 dX12_clause_108 rfl rfl rfl ?_
      refine v_getR (pc' := 112) fl_X12_20 dX12_clause_109 rfl fun r4 => ?_
      refine v_iconst (v := 0) (pc' := 113) dX12_clause_112 rfl rfl ?_
      refine v_iald (pc' := 114) dX12_clause_113 rfl fun v5 => ?_
      refine v_aaldR (pc' := 115) dX12_clause_114 rfl fun r6 => ?_
      refine v_astore_n (lv' := [(2, rf g r6), (0, rf g a0), (1, .int x1)]) (pc' := 116) dX12_clause_115 rfl (by decide) rfl rfl ?_
      refine v_aload_n (pc' := 117) 0 dX12_clause_116 rfl rfl rfl ?_
      refine v_iconst (v := 0) (pc' := 118) dX12_clause_117 rfl rfl ?_
      refine v_aload_n (pc' := 119) 1 dX12_clause_118 rfl rfl rfl ?_
      refine v_iconst (v := 0) (pc' := 120) dX12_clause_119 rfl rfl ?_
      refine v_bipush (v := 63) (pc' := 122) dX12_clause_120 rfl rfl ?_
      refine v_callV (vs := [.int 0, .int 63]) (pc' := 125) (h_X12_number g a0 0 63) mv_X12_number wl_X12_159 rfl (Nat.le_of_ble_eq_true rfl) (by omega) (by decide) (Nat.le_of_ble_eq_true rfl) rfl dX12_clause_122 rfl fun v7 => ?_
      refine v_iast (pc' := 126) dX12_clause_125 rfl ?_
      refine v_aload_n (pc' := 127) 0 dX12_clause_126 rfl rfl rfl ?_
      refine v_iconst (v := 1) (pc' := 128) dX12_clause_127 rfl rfl ?_
      refine v_aload_n (pc' := 129) 1 dX12_clause_128 rfl rfl rfl ?_
      refine v_iconst (v := 0) (pc' := 130) dX12_clause_129 rfl rfl ?_
      refine v_bipush (v := 9) (pc' := 132) dX12_clause_130 rfl rfl ?_
      refine v_callV (vs := [.int 0, .int 9]) (pc' := 135) (h_X12_number g a0 0 9) mv_X12_number wl_X12_159 rfl (Nat.le_of_ble_eq_true rfl) (by omega) (by decide) (Nat.le_of_ble_eq_true rfl) rfl dX12_clause_132 rfl fun v8 => ?_
      refine v_iast (pc' := 136) dX12_clause_135 rfl ?_
      refine v_aload_n (pc' := 137) 0 dX12_clause_136 rfl rfl rfl ?_
      refine v_iconst (v := 2) (pc' := 138) dX12_clause_137 rfl rfl ?_
      refine v_aload_n (pc' := 139) 1 dX12_clause_138 rfl rfl rfl ?_
      refine v_iconst (v := 0) (pc' := 140) dX12_clause_139 rfl rfl ?_
      refine v_bipush (v := 40) (pc' := 142) dX12_clause_140 rfl rfl ?_
      refine v_callV (vs := [.int 0, .int 40]) (pc' := 145) (h_X12_number g a0 0 40) mv_X12_number wl_X12_159 rfl (Nat.le_of_ble_eq_true rfl) (by omega) (by decide) (Nat.le_of_ble_eq_true rfl) rfl dX12_clause_142 rfl fun v9 => ?_
      refine v_iast (pc' := 146) dX12_clause_145 rfl ?_
      refine v_aload_n (pc' := 147) 1 dX12_clause_146 rfl rfl rfl ?_
      refine v_getR (pc' := 150) fl_X12_20 dX12_clause_147 rfl fun r10 => ?_
      refine v_iconst (v := 0) (pc' := 151) dX12_clause_150 rfl rfl ?_
      refine v_dup2 (pc' := 152) dX12_clause_151 rfl rfl rfl ?_
      refine v_iald (pc' := 153) dX12_clause_152 rfl fun v11 => ?_
      refine v_aload_n (pc' := 154) 1 dX12_clause_153 rfl rfl rfl ?_
      refine v_getI (pc' := 157) fl_X12_110 dX12_clause_154 rfl fun v12 => ?_
      refine v_ifne (t := 164) (pc' := 160) dX12_clause_157 (by decide) rfl ?_ ?_
      · refine v_iconst (v := 0) (pc' := 165) dX12_clause_164 rfl rfl ?_
        refine V.sub [1] rfl ?_
        exact h_X12_clause_b165 g a0 0 v11 0 r10
      · refine v_iconst (v := 1) (pc' := 161) dX12_clause_160 rfl rfl ?_
        refine v_goto (t := 165) dX12_clause_161 (by decide) ?_
        refine V.sub [1] rfl ?_
        exact h_X12_clause_b165 g a0 1 v11 0 r10
    · refine v_aload_n (pc' := 171) 0 dX12_clause_170 rfl rfl rfl ?_
      refine v_iconst (v := 0) (pc' := 172) dX12_clause_171 rfl rfl ?_
      refine v_bipush (v := 6) (pc' := 174) dX12_clause_172 rfl rfl ?_
      refine v_callV (vs := [.int 0, .int 6]) (pc' := 177) (h_X12_number g a0 0 6) mv_X12_number wl_X12_159 rfl (Nat.le_of_ble_eq_true rfl) (by omega) (by decide) (Nat.le_of_ble_eq_true rfl) rfl dX12_clause_174 rfl fun v13 => ?_
      refine v_istore_n (lv' := [(2, .int v13), (0, rf g a0), (1, .int x1)]) (pc' := 178) dX12_clause_177 rfl (by decide) rfl rfl ?_
      refine v_aload_n (pc' := 179) 1 dX12_clause_178 rfl rfl rfl ?_
      refine v_getI (pc' := 182) fl_X12_110 dX12_clause_179 rfl fun v14 => ?_
      refine v_ifne (t := 245) (pc' := 185) dX12_clause_182 (by decide) rfl ?_ ?_
      · refine V.sub [1] rfl ?_
        exact h_X12_clause_b245 g a0
      · refine v_aload_n (pc' := 186) 1 dX12_clause_185 rfl rfl rfl ?_
        refine v_getR (pc' := 189) fl_X12_20 dX12_clause_186 rfl fun r15 => ?_
        refine v_iconst (v := 1) (pc' := 190) dX12_clause_189 rfl rfl ?_
        refine v_iload_n (pc' := 191) 0 dX12_clause_190 rfl rfl rfl ?_
        refine v_iast (pc' := 192) dX12_clause_191 rfl ?_
        refine v_goto (t := 245) dX12_clause_192 (by decide) ?_
        refine V.sub [1] rfl ?_
        exact h_X12_clause_b245 g a0
    · refine v_aload_n (pc' := 196) 0 dX12_clause_195 rfl rfl rfl ?_
      refine v_iconst (v := 0) (pc' := 197) dX12_clause_196 rfl rfl ?_
      refine v_aload_n (pc' := 198) 0 dX12_clause_197 rfl rfl rfl ?_
      refine v_getR (pc' := 201) fl_X12_20 dX12_clause_198 rfl fun r16 => ?_
      refine v_iconst (v := 0) (pc' := 202) dX12_clause_201 rfl rfl ?_
      refine v_iald (pc' := 203) dX12_clause_202 rfl fun v17 => ?_
      refine v_iconst (v := 1) (pc' := 204) dX12_clause_203 rfl rfl ?_
      refine v_isub (pc' := 205) dX12_clause_204 rfl ?_
      refine v_callV (vs := [.int 0, .int (v17 - (1 : Int32))]) (pc' := 208) (h_X12_number g a0 0 (v17 - (1 : Int32))) mv_X12_number wl_X12_159 rfl (Nat.le_of_ble_eq_true rfl) (by omega) (by decide) (Nat.le_of_ble_eq_true rfl) rfl dX12_clause_205 rfl fun v18 => ?_
      refine v_istore_n (lv' := [(2, .int v18), (0, rf g a0), (1, .int x1)]) (pc' := 209) dX12_clause_208 rfl (by decide) rfl rfl ?_
      refine v_aload_n (pc' := 210) 1 dX12_clause_209 rfl rfl rfl ?_
      refine v_iconst (v := 0) (pc' := 211) dX12_clause_210 rfl rfl ?_
      refine v_aload_n (pc' := 212) 1 dX12_clause_211 rfl rfl rfl ?_
      refine v_getR (pc' := 215) fl_X12_20 dX12_clause_212 rfl fun r19 => ?_
      refine v_iconst (v := 0) (pc' := 216) dX12_clause_215 rfl rfl ?_
      refine v_iald (pc' := 217) dX12_clause_216 rfl fun v20 => ?_
      refine v_iconst (v := 1) (pc' := 218) dX12_clause_217 rfl rfl ?_
      refine v_isub (pc' := 219) dX12_clause_218 rfl ?_
      refine v_callV (vs := [.int 0, .int (v20 - (1 : Int32))]) (pc' := 222) (h_X12_number g a0 0 (v20 - (1 : Int32))) mv_X12_number wl_X12_159 rfl (Nat.le_of_ble_eq_true rfl) (by omega) (by decide) (Nat.le_of_ble_eq_true rfl) rfl dX12_clause_219 rfl fun v21 => ?_
      refine v_istore_n (lv' := [(3, .int v21), (2, .int v18), (0, rf g a0), (1, .int x1)]) (pc' := 223) dX12_clause_222 rfl (by decide) rfl rfl ?_
      refine v_aload_n (pc' := 224) 2 dX12_clause_223 rfl rfl rfl ?_
      refine v_getI (pc' := 227) fl_X12_110 dX12_clause_224 rfl fun v22 => ?_
      refine v_ifne (t := 245) (pc' := 230) dX12_clause_227 (by decide) rfl ?_ ?_
      · refine V.sub [2] rfl ?_
        exact h_X12_clause_b245 g a0
      · refine v_aload_n (pc' := 231) 2 dX12_clause_230 rfl rfl rfl ?_
        refine v_getR (pc' := 234) fl_X12_26 dX12_clause_231 rfl fun r23 => ?_
        refine v_iload_n (pc' := 235) 1 dX12_clause_234 rfl rfl rfl ?_
        refine v_dup2 (pc' := 236) dX12_clause_235 rfl rfl rfl ?_
        refine v_iald (pc' := 237) dX12_clause_236 rfl fun v24 => ?_
        refine v_iconst (v := 1) (pc' := 238) dX12_clause_237 rfl rfl ?_
        refine v_iload_n (pc' := 239) 0 dX12_clause_238 rfl rfl rfl ?_
        refine v_ishl (pc' := 240) dX12_clause_239 rfl ?_
        refine v_ior (pc' := 241) dX12_clause_240 rfl ?_
        refine v_iast (pc' := 242) dX12_clause_241 rfl ?_
        refine v_goto (t := 245) dX12_clause_242 (by decide) ?_
        refine V.sub [2] rfl ?_
        exact h_X12_clause_b245 g a0
  · exact v_return rfl dX12_clause_62
set_option maxRecDepth 20000 in
theorem h_X12_clause_b46 (g : GW) (a0 : Nat) (x1 : Int32) : V g mX12_clause 13 rtU 46 [(0, rf g a0), (1, .int x1)] [] (f_X12_clause_b46 a0 x1) := by
  unfold f_X12_clause_b46
  refine v_aload_n (pc' := 47) 0 dX12_clause_46 rfl rfl rfl ?_
  refine v_iconst (v := 3) (pc' := 48) dX12_clause_47 rfl rfl ?_
  refine v_aload_n (pc' := 49) 0 dX12_clause_48 rfl rfl rfl ?_
  refine v_getI (pc' := 52) fl_X12_103 dX12_clause_49 rfl fun v25 => ?_
  refine v_callV (vs := [.int 3, .int v25]) (pc' := 55) (h_X12_wrong g a0 3 v25) mv_X12_wrong wl_X12_123 rfl (Nat.le_of_ble_eq_true rfl) (by omega) (by decide) (Nat.le_of_ble_eq_true rfl) rfl dX12_clause_52 rfl fun _ => ?_
  refine V.sub [0, 1] rfl ?_
  exact h_X12_clause_b55 g a0 x1
set_option maxRecDepth 20000 in
theorem h_X12_clause (g : GW) (a0 : Nat) : V g mX12_clause 13 rtU 0 [(0, rf g a0)] [] (f_X12_clause a0) := by
  unfold f_X12_clause
  refine v_aload_n (pc' := 1) 0 dX12_clause_0 rfl rfl rfl ?_
  refine v_callV (vs := []) (pc' := 4) (h_X12_kindHere g a0) mv_X12_kindHere wl_X12_156 rfl (Nat.le_of_ble_eq_true rfl) (by omega) (by decide) (Nat.le_of_ble_eq_true rfl) rfl dX12_clause_1 rfl fun v26 => ?_
  refine v_istore_n (lv' := [(1, .int v26), (0, rf g a0)]) (pc' := 5) dX12_clause_4 rfl (by decide) rfl rfl ?_
  refine v_iload_n (pc' := 6) 0 dX12_clause_5 rfl rfl rfl ?_
  refine v_iconst (v := -1) (pc' := 7) dX12_clause_6 rfl rfl ?_
  refine v_icmpne (t := 22) (pc' := 10) dX12_clause_7 (by decide) rfl ?_ ?_
  · refine v_aload_n (pc' := 23) 1 dX12_clause_22 rfl rfl rfl ?_
    refine v_getI (pc' := 26) fl_X12_150 dX12_clause_23 rfl fun v27 => ?_
    refine v_bipush (v := 60) (pc' := 28) dX12_clause_26 rfl rfl ?_
    refine v_icmpeq (t := 46) (pc' := 31) dX12_clause_28 (by decide) rfl ?_ ?_
    · refine V.sub [1, 0] rfl ?_
      exact h_X12_clause_b46 g a0 v26
    · refine v_iload_n (pc' := 32) 0 dX12_clause_31 rfl rfl rfl ?_
      refine v_ifne (t := 55) (pc' := 35) dX12_clause_32 (by decide) rfl ?_ ?_
      · refine V.sub [1, 0] rfl ?_
        exact h_X12_clause_b55 g a0 v26
      · refine v_aload_n (pc' := 36) 1 dX12_clause_35 rfl rfl rfl ?_
        refine v_getR (pc' := 39) fl_X12_20 dX12_clause_36 rfl fun r28 => ?_
        refine v_iconst (v := 0) (pc' := 40) dX12_clause_39 rfl rfl ?_
        refine v_iald (pc' := 41) dX12_clause_40 rfl fun v29 => ?_
        refine v_bipush (v := 8) (pc' := 43) dX12_clause_41 rfl rfl ?_
        refine v_icmpne (t := 55) (pc' := 46) dX12_clause_43 (by decide) rfl ?_ ?_
        · refine V.sub [1, 0] rfl ?_
          exact h_X12_clause_b55 g a0 v26
        · refine V.sub [1, 0] rfl ?_
          exact h_X12_clause_b46 g a0 v26
  · refine v_aload_n (pc' := 11) 1 dX12_clause_10 rfl rfl rfl ?_
    refine v_iconst (v := 1) (pc' := 12) dX12_clause_11 rfl rfl ?_
    refine v_aload_n (pc' := 13) 1 dX12_clause_12 rfl rfl rfl ?_
    refine v_getI (pc' := 16) fl_X12_103 dX12_clause_13 rfl fun v30 => ?_
    refine v_callV (vs := [.int 1, .int v30]) (pc' := 19) (h_X12_wrong g a0 1 v30) mv_X12_wrong wl_X12_123 rfl (Nat.le_of_ble_eq_true rfl) (by omega) (by decide) (Nat.le_of_ble_eq_true rfl) rfl dX12_clause_16 rfl fun _ => ?_
    refine v_goto (t := 55) dX12_clause_19 (by decide) ?_
    refine V.sub [1, 0] rfl ?_
    exact h_X12_clause_b55 g a0 v26
-- town
def f_X12_town_b71 (a0 : Nat) : Mo Int32 := bd (gI 12 5 a0) fun v1 => if (v1 = 0 : Prop) then (bd (pf 12 3 a0 (.int (-1))) fun _ => bd (cv 12 a0 (f_X12_beginsAnew a0)) fun _ => bd (gR 12 12 a0) fun r2 => bd (al 0 r2 0) fun v3 => pu v3) else bd (cv 12 a0 (f_X12_ends a0)) fun v4 => pu v4
def f_X12_town_b42 : Nat → Nat → Mo Int32
  | 0, _ => fl
  | n + 1, a0 => bd (gI 12 5 a0) fun v5 => if (v5 = 0 : Prop) then (bd (gI 12 4 a0) fun v6 => bd (gI 12 2 a0) fun v7 => if (v7 ≤ v6 : Prop) then (f_X12_town_b71 a0) else bd (cv 12 a0 (f_X12_clause a0)) fun _ => bd (cv 12 a0 (f_X12_blanks a0)) fun _ => (f_X12_town_b42 n) a0) else f_X12_town_b71 a0
def f_X12_town_b23 (a0 : Nat) (x1 : Int32) (xs0 : Int32) (as1 : Nat) : Mo Int32 := bd (cv 12 as1 (f_X12_bad as1 xs0 1 1)) fun v8 => if (v8 = 0 : Prop) then (bd (cv 12 a0 (f_X12_starts a0 x1)) fun _ => bd (cv 12 a0 (f_X12_tellsNothing a0)) fun _ => f_X12_town_b42 NF a0) else pu 0
def f_X12_town (a0 : Nat) (x1 : Int32) : Mo Int32 := bd (pf 12 0 a0 (.int 0)) fun _ => bd (gI 12 1 a0) fun v9 => bd (f_X12_in x1 0 v9) fun v10 => if (v10 = 0 : Prop) then (f_X12_town_b23 a0 x1 1 a0) else f_X12_town_b23 a0 x1 0 a0
set_option maxRecDepth 20000 in
theorem h_X12_town_b71 (g : GW) (a0 : Nat) : V g mX12_town 14 rtI 71 [(0, rf g a0)] [] (f_X12_town_b71 a0) := by
  unfold f_X12_town_b71
  refine v_aload_n (pc' := 72) 0 dX12_town_71 rfl rfl rfl ?_
  refine v_getI (pc' := 75) fl_X12_110 dX12_town_72 rfl fun v1 => ?_
  refine v_ifeq (t := 83) (pc' := 78) dX12_town_75 (by decide) rfl ?_ ?_
  · refine v_aload_n (pc' := 84) 0 dX12_town_83 rfl rfl rfl ?_
    refine v_iconst (v := -1) (pc' := 85) dX12_town_84 rfl rfl ?_
    refine v_put (v := (.int (-1))) (v' := .int (-1)) (pc' := 88) fw_X12_9 rfl rfl rfl (fun h => nomatch h) dX12_town_85 rfl ?_
    refine v_aload_n (pc' := 89) 0 dX12_town_88 rfl rfl rfl ?_
    refine v_callV (vs := []) (pc' := 92) (h_X12_beginsAnew g a0) mv_X12_beginsAnew wl_X12_91 rfl (Nat.le_of_ble_eq_true rfl) (by omega) (by decide) (Nat.le_of_ble_eq_true rfl) rfl dX12_town_89 rfl fun _ => ?_
    refine v_aload_n (pc' := 93) 0 dX12_town_92 rfl rfl rfl ?_
    refine v_getR (pc' := 96) fl_X12_23 dX12_town_93 rfl fun r2 => ?_
    refine v_iconst (v := 0) (pc' := 97) dX12_town_96 rfl rfl ?_
    refine v_iald (pc' := 98) dX12_town_97 rfl fun v3 => ?_
    exact v_ireturn rfl dX12_town_98
  · refine v_aload_n (pc' := 79) 0 dX12_town_78 rfl rfl rfl ?_
    refine v_callV (vs := []) (pc' := 82) (h_X12_ends g a0) mv_X12_ends wl_X12_177 rfl (Nat.le_of_ble_eq_true rfl) (by omega) (by decide) (Nat.le_of_ble_eq_true rfl) rfl dX12_town_79 rfl fun v4 => ?_
    exact v_ireturn rfl dX12_town_82
set_option maxRecDepth 20000 in
theorem h_X12_town_b42 (g : GW) : ∀ n : Nat, ∀ a0, V g mX12_town 14 rtI 42 [(0, rf g a0)] [] (f_X12_town_b42 n a0) := by
  intro n
  induction n with
  | zero => intro a0; exact V.vain
  | succ n ih =>
    intro a0
    unfold f_X12_town_b42
    refine v_aload_n (pc' := 43) 0 dX12_town_42 rfl rfl rfl ?_
    refine v_getI (pc' := 46) fl_X12_110 dX12_town_43 rfl fun v5 => ?_
    refine v_ifne (t := 71) (pc' := 49) dX12_town_46 (by decide) rfl ?_ ?_
    · refine V.sub [0] rfl ?_
      exact h_X12_town_b71 g a0
    · refine v_aload_n (pc' := 50) 0 dX12_town_49 rfl rfl rfl ?_
      refine v_getI (pc' := 53) fl_X12_103 dX12_town_50 rfl fun v6 => ?_
      refine v_aload_n (pc' := 54) 0 dX12_town_53 rfl rfl rfl ?_
      refine v_getI (pc' := 57) fl_X12_100 dX12_town_54 rfl fun v7 => ?_
      refine v_icmpge (t := 71) (pc' := 60) dX12_town_57 (by decide) rfl ?_ ?_
      · refine V.sub [0] rfl ?_
        exact h_X12_town_b71 g a0
      · refine v_aload_n (pc' := 61) 0 dX12_town_60 rfl rfl rfl ?_
        refine v_callV (vs := []) (pc' := 64) (h_X12_clause g a0) mv_X12_clause wl_X12_174 rfl (Nat.le_of_ble_eq_true rfl) (by omega) (by decide) (Nat.le_of_ble_eq_true rfl) rfl dX12_town_61 rfl fun _ => ?_
        refine v_aload_n (pc' := 65) 0 dX12_town_64 rfl rfl rfl ?_
        refine v_callV (vs := []) (pc' := 68) (h_X12_blanks g a0) mv_X12_blanks wl_X12_116 rfl (Nat.le_of_ble_eq_true rfl) (by omega) (by decide) (Nat.le_of_ble_eq_true rfl) rfl dX12_town_65 rfl fun _ => ?_
        refine v_goto (t := 42) dX12_town_68 (by decide) ?_
        refine V.sub [0] rfl ?_
        exact ih a0
set_option maxRecDepth 20000 in
theorem h_X12_town_b23 (g : GW) (a0 : Nat) (x1 : Int32) (xs0 : Int32) (as1 : Nat) : V g mX12_town 14 rtI 23 [(0, rf g a0), (1, .int x1)] [.int xs0, rf g as1] (f_X12_town_b23 a0 x1 xs0 as1) := by
  unfold f_X12_town_b23
  refine v_iconst (v := 1) (pc' := 24) dX12_town_23 rfl rfl ?_
  refine v_iconst (v := 1) (pc' := 25) dX12_town_24 rfl rfl ?_
  refine v_callV (vs := [.int xs0, .int 1, .int 1]) (pc' := 28) (h_X12_bad g as1 xs0 1 1) mv_X12_bad wl_X12_167 rfl (Nat.le_of_ble_eq_true rfl) (by omega) (by decide) (Nat.le_of_ble_eq_true rfl) rfl dX12_town_25 rfl fun v8 => ?_
  refine v_ifeq (t := 33) (pc' := 31) dX12_town_28 (by decide) rfl ?_ ?_
  · refine v_aload_n (pc' := 34) 0 dX12_town_33 rfl rfl rfl ?_
    refine v_iload_n (pc' := 35) 1 dX12_town_34 rfl rfl rfl ?_
    refine v_callV (vs := [.int x1]) (pc' := 38) (h_X12_starts g a0 x1) mv_X12_starts wl_X12_171 rfl (Nat.le_of_ble_eq_true rfl) (by omega) (by decide) (Nat.le_of_ble_eq_true rfl) rfl dX12_town_35 rfl fun _ => ?_
    refine v_aload_n (pc' := 39) 0 dX12_town_38 rfl rfl rfl ?_
    refine v_callV (vs := []) (pc' := 42) (h_X12_tellsNothing g a0) mv_X12_tellsNothing wl_X12_88 rfl (Nat.le_of_ble_eq_true rfl) (by omega) (by decide) (Nat.le_of_ble_eq_true rfl) rfl dX12_town_39 rfl fun _ => ?_
    refine V.sub [0] rfl ?_
    exact h_X12_town_b42 g NF a0
  · refine v_iconst (v := 0) (pc' := 32) dX12_town_31 rfl rfl ?_
    exact v_ireturn rfl dX12_town_32
set_option maxRecDepth 20000 in
theorem h_X12_town (g : GW) (a0 : Nat) (x1 : Int32) : V g mX12_town 14 rtI 0 [(0, rf g a0), (1, .int x1)] [] (f_X12_town a0 x1) := by
  unfold f_X12_town
  refine v_aload_n (pc' := 1) 0 dX12_town_0 rfl rfl rfl ?_
  refine v_iconst (v := 0) (pc' := 2) dX12_town_1 rfl rfl ?_
  refine v_put (v := (.int 0)) (v' := .int 0) (pc' := 5) fw_X12_94 rfl rfl rfl (fun h => nomatch h) dX12_town_2 rfl ?_
  refine v_aload_n (pc' := 6) 0 dX12_town_5 rfl rfl rfl ?_
  refine v_iload_n (pc' := 7) 1 dX12_town_6 rfl rfl rfl ?_
  refine v_iconst (v := 0) (pc' := 8) dX12_town_7 rfl rfl ?_
  refine v_aload_n (pc' := 9) 0 dX12_town_8 rfl rfl rfl ?_
  refine v_getI (pc' := 12) fl_X12_97 dX12_town_9 rfl fun v9 => ?_
  refine v_callS (vs := [.int x1, .int 0, .int v9]) (pc' := 15) (h_X12_in g x1 0 v9) ms_X12_in wl_X12_128 (Nat.le_of_ble_eq_true rfl) (by omega) (by decide) (Nat.le_of_ble_eq_true rfl) rfl dX12_town_12 rfl fun v10 => ?_
  refine v_ifne (t := 22) (pc' := 18) dX12_town_15 (by decide) rfl ?_ ?_
  · refine v_iconst (v := 0) (pc' := 23) dX12_town_22 rfl rfl ?_
    refine V.sub [0, 1] rfl ?_
    exact h_X12_town_b23 g a0 x1 0 a0
  · refine v_iconst (v := 1) (pc' := 19) dX12_town_18 rfl rfl ?_
    refine v_goto (t := 23) dX12_town_19 (by decide) ?_
    refine V.sub [0, 1] rfl ?_
    exact h_X12_town_b23 g a0 x1 1 a0
