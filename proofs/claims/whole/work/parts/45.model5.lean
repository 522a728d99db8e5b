-- unseen
def f_X12_unseen_b49 (k9 : Nat → Int32 → Int32 → Mo Int32) (a0 : Nat) (x2 : Int32) (xs0 : Int32) (xs1 : Int32) : Mo Int32 := k9 a0 (xs1 ||| xs0) (x2 + 1)
def f_X12_unseen_b9 : Nat → Nat → Int32 → Int32 → Mo Int32
  | 0, _, _, _ => fl
  | n + 1, a0, x1, x2 => bd (gR 12 12 a0) fun r1 => bd (al 0 r1 0) fun v2 => if (v2 ≤ x2 : Prop) then (pu x1) else bd (gR 12 27 a0) fun r3 => bd (al 0 r3 ((8 : Int32) + x2)) fun v4 => bd (gR 12 27 a0) fun r5 => bd (al 0 r5 ((16 : Int32) + x2)) fun v6 => if ((v4 + v6) = 0 : Prop) then (f_X12_unseen_b49 (f_X12_unseen_b9 n) a0 x2 ((1 : Int32) <<< (x2 &&& 31)) x1) else f_X12_unseen_b49 (f_X12_unseen_b9 n) a0 x2 0 x1
def f_X12_unseen (a0 : Nat) : Mo Int32 := bd (pf 12 0 a0 (.int 0)) fun _ => f_X12_unseen_b9 NF a0 0 0
set_option maxRecDepth 20000 in
theorem h_X12_unseen_b49 (g : GW) (k9 : Nat → Int32 → Int32 → Mo Int32) (hk9 : ∀ a0 x1 x2, V g mX12_unseen 8 rtI 9 [(0, rf g a0), (1, .int x1), (2, .int x2)] [] (k9 a0 x1 x2)) (a0 : Nat) (x2 : Int32) (xs0 : Int32) (xs1 : Int32) : V g mX12_unseen 8 rtI 49 [(0, rf g a0), (2, .int x2)] [.int xs0, .int xs1] (f_X12_unseen_b49 k9 a0 x2 xs0 xs1) := by
  unfold f_X12_unseen_b49
  refine v_ior (pc' := 50) dX12_unseen_49 rfl ?_
  refine v_istore_n (lv' := [(1, .int (xs1 ||| xs0)), (0, rf g a0), (2, .int x2)]) (pc' := 51) dX12_unseen_50 rfl (by decide) rfl rfl ?_
  refine v_iinc (v := x2 + 1) (lv' := [(2, .int (x2 + 1)), (1, .int (xs1 ||| xs0)), (0, rf g a0)]) (pc' := 54) 2 dX12_unseen_51 rfl rfl (by decide) rfl rfl ?_
  refine v_goto (t := 9) dX12_unseen_54 (by decide) ?_
  refine V.sub [2, 1, 0] rfl ?_
  exact hk9 a0 (xs1 ||| xs0) (x2 + 1)
set_option maxRecDepth 20000 in
theorem h_X12_unseen_b9 (g : GW) : ∀ n : Nat, ∀ a0 x1 x2, V g mX12_unseen 8 rtI 9 [(0, rf g a0), (1, .int x1), (2, .int x2)] [] (f_X12_unseen_b9 n a0 x1 x2) := by
  intro n
  induction n with
  | zero => intro a0 x1 x2; exact V.vain
  | succ n ih =>
    intro a0 x1 x2
    unfold f_X12_unseen_b9
    refine v_iload_n (pc' := 10) 2 dX12_unseen_9 rfl rfl rfl ?_
    refine v_aload_n (pc' := 11) 0 dX12_unseen_10 rfl rfl rfl ?_
    refine v_getR (pc' := 14) fl_X12_23 dX12_unseen_11 rfl fun r1 => ?_
    refine v_iconst (v := 0) (pc' := 15) dX12_unseen_14 rfl rfl ?_
    refine v_iald (pc' := 16) dX12_unseen_15 rfl fun v2 => ?_
    refine v_icmpge (t := 57) (pc' := 19) dX12_unseen_16 (by decide) rfl ?_ ?_
    · refine v_iload_n (pc' := 58) 1 dX12_unseen_57 rfl rfl rfl ?_
      exact v_ireturn rfl dX12_unseen_58
    · refine v_iload_n (pc' := 20) 1 dX12_unseen_19 rfl rfl rfl ?_
      refine v_aload_n (pc' := 21) 0 dX12_unseen_20 rfl rfl rfl ?_
      refine v_getR (pc' := 24) fl_X12_61 dX12_unseen_21 rfl fun r3 => ?_
      refine v_bipush (v := 8) (pc' := 26) dX12_unseen_24 rfl rfl ?_
      refine v_iload_n (pc' := 27) 2 dX12_unseen_26 rfl rfl rfl ?_
      refine v_iadd (pc' := 28) dX12_unseen_27 rfl ?_
      refine v_iald (pc' := 29) dX12_unseen_28 rfl fun v4 => ?_
      refine v_aload_n (pc' := 30) 0 dX12_unseen_29 rfl rfl rfl ?_
      refine v_getR (pc' := 33) fl_X12_61 dX12_unseen_30 rfl fun r5 => ?_
      refine v_bipush (v := 16) (pc' := 35) dX12_unseen_33 rfl rfl ?_
      refine v_iload_n (pc' := 36) 2 dX12_unseen_35 rfl rfl rfl ?_
      refine v_iadd (pc' := 37) dX12_unseen_36 rfl ?_
      refine v_iald (pc' := 38) dX12_unseen_37 rfl fun v6 => ?_
      refine v_iadd (pc' := 39) dX12_unseen_38 rfl ?_
      refine v_ifne (t := 48) (pc' := 42) dX12_unseen_39 (by decide) rfl ?_ ?_
      · refine v_iconst (v := 0) (pc' := 49) dX12_unseen_48 rfl rfl ?_
        refine V.sub [0, 2] rfl ?_
        exact h_X12_unseen_b49 g (f_X12_unseen_b9 n) ih a0 x2 0 x1
      · refine v_iconst (v := 1) (pc' := 43) dX12_unseen_42 rfl rfl ?_
        refine v_iload_n (pc' := 44) 2 dX12_unseen_43 rfl rfl rfl ?_
        refine v_ishl (pc' := 45) dX12_unseen_44 rfl ?_
        refine v_goto (t := 49) dX12_unseen_45 (by decide) ?_
        refine V.sub [0, 2] rfl ?_
        exact h_X12_unseen_b49 g (f_X12_unseen_b9 n) ih a0 x2 ((1 : Int32) <<< (x2 &&& 31)) x1
set_option maxRecDepth 20000 in
theorem h_X12_unseen (g : GW) (a0 : Nat) : V g mX12_unseen 8 rtI 0 [(0, rf g a0)] [] (f_X12_unseen a0) := by
  unfold f_X12_unseen
  refine v_aload_n (pc' := 1) 0 dX12_unseen_0 rfl rfl rfl ?_
  refine v_iconst (v := 0) (pc' := 2) dX12_unseen_1 rfl rfl ?_
  refine v_put (v := (.int 0)) (v' := .int 0) (pc' := 5) fw_X12_94 rfl rfl rfl (fun h => nomatch h) dX12_unseen_2 rfl ?_
  refine v_iconst (v := 0) (pc' := 6) dX12_unseen_5 rfl rfl ?_
  refine v_istore_n (lv' := [(1, .int 0), (0, rf g a0)]) (pc' := 7) dX12_unseen_6 rfl (by decide) rfl rfl ?_
  refine v_iconst (v := 0) (pc' := 8) dX12_unseen_7 rfl rfl ?_
  refine v_istore_n (lv' := [(2, .int 0), (1, .int 0), (0, rf g a0)]) (pc' := 9) dX12_unseen_8 rfl (by decide) rfl rfl ?_
  refine V.sub [2, 1, 0] rfl ?_
  exact h_X12_unseen_b9 g NF a0 0 0
-- where
def f_X12_where_b77 (k33 : Nat → Int32 → Int32 → Int32 → Mo Int32) (a0 : Nat) (x1 : Int32) (x3 : Int32) (xs0 : Int32) (xs1 : Int32) : Mo Int32 := k33 a0 x1 (xs1 ||| xs0) (x3 + 1)
def f_X12_where_b33 : Nat → Nat → Int32 → Int32 → Int32 → Mo Int32
  | 0, _, _, _, _ => fl
  | n + 1, a0, x1, x2, x3 => bd (gR 12 27 a0) fun r1 => bd (al 0 r1 24) fun v2 => if (v2 ≤ x3 : Prop) then (pu x2) else bd (gR 12 27 a0) fun r3 => bd (f_X12_plateOf r3 x3 3) fun v4 => bd (cv 12 a0 (f_X12_looksOf a0 v4)) fun v5 => if (v5 = x1 : Prop) then (bd (gR 12 27 a0) fun r6 => bd (f_X12_plateOf r6 x3 2) fun v7 => f_X12_where_b77 (f_X12_where_b33 n) a0 x1 x3 ((1 : Int32) <<< (v7 &&& 31)) x2) else f_X12_where_b77 (f_X12_where_b33 n) a0 x1 x3 0 x2
def f_X12_where_b19 (a0 : Nat) (x1 : Int32) (xs0 : Int32) (as1 : Nat) : Mo Int32 := bd (cv 12 as1 (f_X12_bad as1 xs0 1 0)) fun v8 => if (v8 = 0 : Prop) then (f_X12_where_b33 NF a0 x1 0 0) else pu 0
def f_X12_where (a0 : Nat) (x1 : Int32) : Mo Int32 := bd (pf 12 0 a0 (.int 0)) fun _ => bd (cv 12 a0 (f_X12_isPerson a0 x1)) fun v9 => if (v9 = 0 : Prop) then (f_X12_where_b19 a0 x1 1 a0) else f_X12_where_b19 a0 x1 0 a0
set_option maxRecDepth 20000 in
theorem h_X12_where_b77 (g : GW) (k33 : Nat → Int32 → Int32 → Int32 → Mo Int32) (hk33 : ∀ a0 x1 x2 x3, V g mX12_where 10 rtI 33 [(0, rf g a0), (1, .int x1), (2, .int x2), (3, .int x3)] [] (k33 a0 x1 x2 x3)) (a0 : Nat) (x1 : Int32) (x3 : Int32) (xs0 : Int32) (xs1 : Int32) : V g mX12_where 10 rtI 77 [(0, rf g a0), (1, .int x1), (3, .int x3)] [.int xs0, .int xs1] (f_X12_where_b77 k33 a0 x1 x3 xs0 xs1) := by
  unfold f_X12_where_b77
  refine v_ior (pc' := 78) dX12_where_77 rfl ?_
  refine v_istore_n (lv' := [(2, .int (xs1 ||| xs0)), (0, rf g a0), (1, .int x1), (3, .int x3)]) (pc' := 79) dX12_where_78 rfl (by decide) rfl rfl ?_
  refine v_iinc (v := x3 + 1) (lv' := [(3, .int (x3 + 1)), (2, .int (xs1 ||| xs0)), (0, rf g a0), (1, .int x1)]) (pc' := 82) 3 dX12_where_79 rfl rfl (by decide) rfl rfl ?_
  refine v_goto (t := 33) dX12_where_82 (by decide) ?_
  refine V.sub [2, 3, 1, 0] rfl ?_
  exact hk33 a0 x1 (xs1 ||| xs0) (x3 + 1)
set_option maxRecDepth 20000 in
theorem h_X12_where_b33 (g : GW) : ∀ n : Nat, ∀ a0 x1 x2 x3, V g mX12_where 10 rtI 33 [(0, rf g a0), (1, .int x1), (2, .int x2), (3, .int x3)] [] (f_X12_where_b33 n a0 x1 x2 x3) := by
  intro n
  induction n with
  | zero => intro a0 x1 x2 x3; exact V.vain
  | succ n ih =>
    intro a0 x1 x2 x3
    unfold f_X12_where_b33
    refine v_iload_n (pc' := 34) 3 dX12_where_33 rfl rfl rfl ?_
    refine v_aload_n (pc' := 35) 0 dX12_where_34 rfl rfl rfl ?_
    refine v_getR (pc' := 38) fl_X12_61 dX12_where_35 rfl fun r1 => ?_
    refine v_bipush (v := 24) (pc' := 40) dX12_where_38 rfl rfl ?_
    refine v_iald (pc' := 41) dX12_where_40 rfl fun v2 => ?_
    refine v_icmpge (t := 85) (pc' := 44) dX12_where_41 (by decide) rfl ?_ ?_
    · refine v_iload_n (pc' := 86) 2 dX12_where_85 rfl rfl rfl ?_
      exact v_ireturn rfl dX12_where_86
    · refine v_iload_n (pc' := 45) 2 dX12_where_44 rfl rfl rfl ?_
      refine v_aload_n (pc' := 46) 0 dX12_where_45 rfl rfl rfl ?_
      refine v_aload_n (pc' := 47) 0 dX12_where_46 rfl rfl rfl ?_
      refine v_getR (pc' := 50) fl_X12_61 dX12_where_47 rfl fun r3 => ?_
      refine v_iload_n (pc' := 51) 3 dX12_where_50 rfl rfl rfl ?_
      refine v_iconst (v := 3) (pc' := 52) dX12_where_51 rfl rfl ?_
      refine v_callS (vs := [rf g r3, .int x3, .int 3]) (pc' := 55) (h_X12_plateOf g r3 x3 3) ms_X12_plateOf wl_X12_263 (Nat.le_of_ble_eq_true rfl) (by omega) (by decide) (Nat.le_of_ble_eq_true rfl) rfl dX12_where_52 rfl fun v4 => ?_
      refine v_callV (vs := [.int v4]) (pc' := 58) (h_X12_looksOf g a0 v4) mv_X12_looksOf wl_X12_302 rfl (Nat.le_of_ble_eq_true rfl) (by omega) (by decide) (Nat.le_of_ble_eq_true rfl) rfl dX12_where_55 rfl fun v5 => ?_
      refine v_iload_n (pc' := 59) 1 dX12_where_58 rfl rfl rfl ?_
      refine v_icmpne (t := 76) (pc' := 62) dX12_where_59 (by decide) rfl ?_ ?_
      · refine v_iconst (v := 0) (pc' := 77) dX12_where_76 rfl rfl ?_
        refine V.sub [0, 1, 3] rfl ?_
        exact h_X12_where_b77 g (f_X12_where_b33 n) ih a0 x1 x3 0 x2
      · refine v_iconst (v := 1) (pc' := 63) dX12_where_62 rfl rfl ?_
        refine v_aload_n (pc' := 64) 0 dX12_where_63 rfl rfl rfl ?_
        refine v_getR (pc' := 67) fl_X12_61 dX12_where_64 rfl fun r6 => ?_
        refine v_iload_n (pc' := 68) 3 dX12_where_67 rfl rfl rfl ?_
        refine v_iconst (v := 2) (pc' := 69) dX12_where_68 rfl rfl ?_
        refine v_callS (vs := [rf g r6, .int x3, .int 2]) (pc' := 72) (h_X12_plateOf g r6 x3 2) ms_X12_plateOf wl_X12_263 (Nat.le_of_ble_eq_true rfl) (by omega) (by decide) (Nat.le_of_ble_eq_true rfl) rfl dX12_where_69 rfl fun v7 => ?_
        refine v_ishl (pc' := 73) dX12_where_72 rfl ?_
        refine v_goto (t := 77) dX12_where_73 (by decide) ?_
        refine V.sub [0, 1, 3] rfl ?_
        exact h_X12_where_b77 g (f_X12_where_b33 n) ih a0 x1 x3 ((1 : Int32) <<< (v7 &&& 31)) x2
set_option maxRecDepth 20000 in
theorem h_X12_where_b19 (g : GW) (a0 : Nat) (x1 : Int32) (xs0 : Int32) (as1 : Nat) : V g mX12_where 10 rtI 19 [(0, rf g a0), (1, .int x1)] [.int xs0, rf g as1] (f_X12_where_b19 a0 x1 xs0 as1) := by
  unfold f_X12_where_b19
  refine v_iconst (v := 1) (pc' := 20) dX12_where_19 rfl rfl ?_
  refine v_iconst (v := 0) (pc' := 21) dX12_where_20 rfl rfl ?_
  refine v_callV (vs := [.int xs0, .int 1, .int 0]) (pc' := 24) (h_X12_bad g as1 xs0 1 0) mv_X12_bad wl_X12_167 rfl (Nat.le_of_ble_eq_true rfl) (by omega) (by decide) (Nat.le_of_ble_eq_true rfl) rfl dX12_where_21 rfl fun v8 => ?_
  refine v_ifeq (t := 29) (pc' := 27) dX12_where_24 (by decide) rfl ?_ ?_
  · refine v_iconst (v := 0) (pc' := 30) dX12_where_29 rfl rfl ?_
    refine v_istore_n (lv' := [(2, .int 0), (0, rf g a0), (1, .int x1)]) (pc' := 31) dX12_where_30 rfl (by decide) rfl rfl ?_
    refine v_iconst (v := 0) (pc' := 32) dX12_where_31 rfl rfl ?_
    refine v_istore_n (lv' := [(3, .int 0), (2, .int 0), (0, rf g a0), (1, .int x1)]) (pc' := 33) dX12_where_32 rfl (by decide) rfl rfl ?_
    refine V.sub [2, 3, 1, 0] rfl ?_
    exact h_X12_where_b33 g NF a0 x1 0 0
  · refine v_iconst (v := 0) (pc' := 28) dX12_where_27 rfl rfl ?_
    exact v_ireturn rfl dX12_where_28
set_option maxRecDepth 20000 in
theorem h_X12_where (g : GW) (a0 : Nat) (x1 : Int32) : V g mX12_where 10 rtI 0 [(0, rf g a0), (1, .int x1)] [] (f_X12_where a0 x1) := by
  unfold f_X12_where
  refine v_aload_n (pc' := 1) 0 dX12_where_0 rfl rfl rfl ?_
  refine v_iconst (v := 0) (pc' := 2) dX12_where_1 rfl rfl ?_
  refine v_put (v := (.int 0)) (v' := .int 0) (pc' := 5) fw_X12_94 rfl rfl rfl (fun h => nomatch h) dX12_where_2 rfl ?_
  refine v_aload_n (pc' := 6) 0 dX12_where_5 rfl rfl rfl ?_
  refine v_aload_n (pc' := 7) 0 dX12_where_6 rfl rfl rfl ?_
  refine v_iload_n (pc' := 8) 1 dX12_where_7 rfl rfl rfl ?_
  refine v_callV (vs := [.int x1]) (pc' := 11) (h_X12_isPerson g a0 x1) mv_X12_isPerson wl_X12_296 rfl (Nat.le_of_ble_eq_true rfl) (by omega) (by decide) (Nat.le_of_ble_eq_true rfl) rfl dX12_where_8 rfl fun v9 => ?_
  refine v_ifne (t := 18) (pc' := 14) dX12_where_11 (by decide) rfl ?_ ?_
  · refine v_iconst (v := 0) (pc' := 19) dX12_where_18 rfl rfl ?_
    refine V.sub [0, 1] rfl ?_
    exact h_X12_where_b19 g a0 x1 0 a0
  · refine v_iconst (v := 1) (pc' := 15) dX12_where_14 rfl rfl ?_
    refine v_goto (t := 19) dX12_where_15 (by decide) ?_
    refine V.sub [0, 1] rfl ?_
    exact h_X12_where_b19 g a0 x1 1 a0
-- twins
def f_X12_twins_b68 (k33 : Nat → Int32 → Int32 → Int32 → Mo Int32) (a0 : Nat) (x1 : Int32) (x3 : Int32) (xs0 : Int32) (xs1 : Int32) : Mo Int32 := k33 a0 x1 (xs1 ||| xs0) (x3 + 1)
def f_X12_twins_b33 : Nat → Nat → Int32 → Int32 → Int32 → Mo Int32
  | 0, _, _, _, _ => fl
  | n + 1, a0, x1, x2, x3 => bd (gR 12 12 a0) fun r1 => bd (al 0 r1 0) fun v2 => if (v2 ≤ x3 : Prop) then (pu x2) else bd (cv 12 a0 (f_X12_faceOf a0 x1)) fun v3 => bd (cv 12 a0 (f_X12_faceOf a0 x3)) fun v4 => bd (cv 12 a0 (f_X12_isAlike a0 v3 v4)) fun v5 => if (v5 = 0 : Prop) then (f_X12_twins_b68 (f_X12_twins_b33 n) a0 x1 x3 0 x2) else f_X12_twins_b68 (f_X12_twins_b33 n) a0 x1 x3 ((1 : Int32) <<< (x3 &&& 31)) x2
def f_X12_twins_b19 (a0 : Nat) (x1 : Int32) (xs0 : Int32) (as1 : Nat) : Mo Int32 := bd (cv 12 as1 (f_X12_bad as1 xs0 1 0)) fun v6 => if (v6 = 0 : Prop) then (f_X12_twins_b33 NF a0 x1 0 0) else pu 0
def f_X12_twins (a0 : Nat) (x1 : Int32) : Mo Int32 := bd (pf 12 0 a0 (.int 0)) fun _ => bd (cv 12 a0 (f_X12_isPerson a0 x1)) fun v7 => if (v7 = 0 : Prop) then (f_X12_twins_b19 a0 x1 1 a0) else f_X12_twins_b19 a0 x1 0 a0
set_option maxRecDepth 20000 in
theorem h_X12_twins_b68 (g : GW) (k33 : Nat → Int32 → Int32 → Int32 → Mo Int32) (hk33 : ∀ a0 x1 x2 x3, V g mX12_twins 10 rtI 33 [(0, rf g a0), (1, .int x1), (2, .int x2), (3, .int x3)] [] (k33 a0 x1 x2 x3)) (a0 : Nat) (x1 : Int32) (x3 : Int32) (xs0 : Int32) (xs1 : Int32) : V g mX12_twins 10 rtI 68 [(0, rf g a0), (1, .int x1), (3, .int x3)] [.int xs0, .int xs1] (f_X12_twins_b68 k33 a0 x1 x3 xs0 xs1) := by
  unfold f_X12_twins_b68
  refine v_ior (pc' := 69) dX12_twins_68 rfl ?_
  refine v_istore_n (lv' := [(2, .int (xs1 ||| xs0)), (0, rf g a0), (1, .int x1), (3, .int x3)]) (pc' := 70) dX12_twins_69 rfl (by decide) rfl rfl ?_
  refine v_iinc (v := x3 + 1) (lv' := [(3, .int (x3 + 1)), (2, .int (xs1 ||| xs0)), (0, rf g a0), (1, .int x1)]) (pc' := 73) 3 dX12_twins_70 rfl rfl (by decide) rfl rfl ?_
  refine v_goto (t := 33) dX12_twins_73 (by decide) ?_
  refine V.sub [2, 3, 1, 0] rfl ?_
  exact hk33 a0 x1 (xs1 ||| xs0) (x3 + 1)
set_option maxRecDepth 20000 in
theorem h_X12_twins_b33 (g : GW) : ∀ n : Nat, ∀ a0 x1 x2 x3, V g mX12_twins 10 rtI 33 [(0, rf g a0), (1, .int x1), (2, .int x2), (3, .int x3)] [] (f_X12_twins_b33 n a0 x1 x2 x3) := by
  intro n
  induction n with
  | zero => intro a0 x1 x2 x3; exact V.vain
  | succ n ih =>
    intro a0 x1 x2 x3
    unfold f_X12_twins_b33
    refine v_iload_n (pc' := 34) 3 dX12_twins_33 rfl rfl rfl ?_
    refine v_aload_n (pc' := 35) 0 dX12_twins_34 rfl rfl rfl ?_
    refine v_getR (pc' := 38) fl_X12_23 dX12_twins_35 rfl fun r1 => ?_
    refine v_iconst (v := 0) (pc' := 39) dX12_twins_38 rfl rfl ?_
    refine v_iald (pc' := 40) dX12_twins_39 rfl fun v2 => ?_
    refine v_icmpge (t := 76) (pc' := 43) dX12_twins_40 (by decide) rfl ?_ ?_
    · refine v_iload_n (pc' := 77) 2 dX12_twins_76 rfl rfl rfl ?_
      exact v_ireturn rfl dX12_twins_77
    · refine v_iload_n (pc' := 44) 2 dX12_twins_43 rfl rfl rfl ?_
      refine v_aload_n (pc' := 45) 0 dX12_twins_44 rfl rfl rfl ?_
      refine v_aload_n (pc' := 46) 0 dX12_twins_45 rfl rfl rfl ?_
      refine v_iload_n (pc' := 47) 1 dX12_twins_46 rfl rfl rfl ?_
      refine v_callV (vs := [.int x1]) (pc' := 50) (h_X12_faceOf g a0 x1) mv_X12_faceOf wl_X12_253 rfl (Nat.le_of_ble_eq_true rfl) (by omega) (by decide) (Nat.le_of_ble_eq_true rfl) rfl dX12_twins_47 rfl fun v3 => ?_
      refine v_aload_n (pc' := 51) 0 dX12_twins_50 rfl rfl rfl ?_
      refine v_iload_n (pc' := 52) 3 dX12_twins_51 rfl rfl rfl ?_
      refine v_callV (vs := [.int x3]) (pc' := 55) (h_X12_faceOf g a0 x3) mv_X12_faceOf wl_X12_253 rfl (Nat.le_of_ble_eq_true rfl) (by omega) (by decide) (Nat.le_of_ble_eq_true rfl) rfl dX12_twins_52 rfl fun v4 => ?_
      refine v_callV (vs := [.int v3, .int v4]) (pc' := 58) (h_X12_isAlike g a0 v3 v4) mv_X12_isAlike wl_X12_311 rfl (Nat.le_of_ble_eq_true rfl) (by omega) (by decide) (Nat.le_of_ble_eq_true rfl) rfl dX12_twins_55 rfl fun v5 => ?_
      refine v_ifeq (t := 67) (pc' := 61) dX12_twins_58 (by decide) rfl ?_ ?_
      · refine v_iconst (v := 0) (pc' := 68) dX12_twins_67 rfl rfl ?_
        refine V.sub [0, 1, 3] rfl ?_
        exact h_X12_twins_b68 g (f_X12_twins_b33 n) ih a0 x1 x3 0 x2
      · refine v_iconst (v := 1) (pc' := 62) dX12_twins_61 rfl rfl ?_
        refine v_iload_n (pc' := 63) 3 dX12_twins_62 rfl rfl rfl ?_
        refine v_ishl (pc' := 64) dX12_twins_63 rfl ?_
        refine v_goto (t := 68) dX12_twins_64 (by decide) ?_
        refine V.sub [0, 1, 3] rfl ?_
        exact h_X12_twins_b68 g (f_X12_twins_b33 n) ih a0 x1 x3 ((1 : Int32) <<< (x3 &&& 31)) x2
set_option maxRecDepth 20000 in
theorem h_X12_twins_b19 (g : GW) (a0 : Nat) (x1 : Int32) (xs0 : Int32) (as1 : Nat) : V g mX12_twins 10 rtI 19 [(0, rf g a0), (1, .int x1)] [.int xs0, rf g as1] (f_X12_twins_b19 a0 x1 xs0 as1) := by
  unfold f_X12_twins_b19
  refine v_iconst (v := 1) (pc' := 20) dX12_twins_19 rfl rfl ?_
  refine v_iconst (v := 0) (pc' := 21) dX12_twins_20 rfl rfl ?_
  refine v_callV (vs := [.int xs0, .int 1, .int 0]) (pc' := 24) (h_X12_bad g as1 xs0 1 0) mv_X12_bad wl_X12_167 rfl (Nat.le_of_ble_eq_true rfl) (by omega) (by decide) (Nat.le_of_ble_eq_true rfl) rfl dX12_twins_21 rfl fun v6 => ?_
  refine v_ifeq (t := 29) (pc' := 27) dX12_twins_24 (by decide) rfl ?_ ?_
  · refine v_iconst (v := 0) (pc' := 30) dX12_twins_29 rfl rfl ?_
    refine v_istore_n (lv' := [(2, .int 0), (0, rf g a0), (1, .int x1)]) (pc' := 31) dX12_twins_30 rfl (by decide) rfl rfl ?_
    refine v_iconst (v := 0) (pc' := 32) dX12_twins_31 rfl rfl ?_
    refine v_istore_n (lv' := [(3, .int 0), (2, .int 0), (0, rf g a0), (1, .int x1)]) (pc' := 33) dX12_twins_32 rfl (by decide) rfl rfl ?_
    refine V.sub [2, 3, 1, 0] rfl ?_
    exact h_X12_twins_b33 g NF a0 x1 0 0
  · refine v_iconst (v := 0) (pc' := 28) dX12_twins_27 rfl rfl ?_
    exact v_ireturn rfl dX12_twins_28
set_option maxRecDepth 20000 in
theorem h_X12_twins (g : GW) (a0 : Nat) (x1 : Int32) : V g mX12_twins 10 rtI 0 [(0, rf g a0), (1, .int x1)] [] (f_X12_twins a0 x1) := by
  unfold f_X12_twins
  refine v_aload_n (pc' := 1) 0 dX12_twins_0 rfl rfl rfl ?_
  refine v_iconst (v := 0) (pc' := 2) dX12_twins_1 rfl rfl ?_
  refine v_put (v := (.int 0)) (v' := .int 0) (pc' := 5) fw_X12_94 rfl rfl rfl (fun h => nomatch h) dX12_twins_2 rfl ?_
  refine v_aload_n (pc' := 6) 0 dX12_twins_5 rfl rfl rfl ?_
  refine v_aload_n (pc' := 7) 0 dX12_twins_6 rfl rfl rfl ?_
  refine v_iload_n (pc' := 8) 1 dX12_twins_7 rfl rfl rfl ?_
  refine v_callV (vs := [.int x1]) (pc' := 11) (h_X12_isPerson g a0 x1) mv_X12_isPerson wl_X12_296 rfl (Nat.le_of_ble_eq_true rfl) (by omega) (by decide) (Nat.le_of_ble_eq_true rfl) rfl dX12_twins_8 rfl fun v7 => ?_
  refine v_ifne (t := 18) (pc' := 14) dX12_twins_11 (by decide) rfl ?_ ?_
  · refine v_iconst (v := 0) (pc' := 19) dX12_twins_18 rfl rfl ?_
    refine V.sub [0, 1] rfl ?_
    exact h_X12_twins_b19 g a0 x1 0 a0
  · refine v_iconst (v := 1) (pc' := 15) dX12_twins_14 rfl rfl ?_
    refine v_goto (t := 19) dX12_twins_15 (by decide) ?_
    refine V.sub [0, 1] rfl ?_
    exact h_X12_twins_b19 g a0 x1 1 a0
-- draw
def f_X12_draw (a0 : Nat) (x1 : Int32) : Mo Int32 := bd (gI 12 46 a0) fun v1 => bd (pf 12 46 a0 (.int ((v1 * (1103515245 : Int32)) + (12345 : Int32)))) fun _ => bd (gI 12 46 a0) fun v2 => bd (rm_ ((v2 >>> ((16 : Int32) &&& 31)) &&& (32767 : Int32)) x1) fun v3 => pu v3
set_option maxRecDepth 20000 in
theorem h_X12_draw (g : GW) (a0 : Nat) (x1 : Int32) : V g mX12_draw 8 rtI 0 [(0, rf g a0), (1, .int x1)] [] (f_X12_draw a0 x1) := by
  unfold f_X12_draw
  refine v_aload_n (pc' := 1) 0 dX12_draw_0 rfl rfl rfl ?_
  refine v_aload_n (pc' := 2) 0 dX12_draw_1 rfl rfl rfl ?_
  refine v_getI (pc' := 5) fl_X12_372 dX12_draw_2 rfl fun v1 => ?_
  refine v_ldcw (v := 1103515245) (pc' := 8) (tg8 202 (by decide +kernel) (by decide +kernel)) dX12_draw_5 rfl ?_
  refine v_imul (pc' := 9) dX12_draw_8 rfl ?_
  refine v_sipush (v := 12345) (pc' := 12) dX12_draw_9 rfl rfl ?_
  refine v_iadd (pc' := 13) dX12_draw_12 rfl ?_
  refine v_put (v := (.int ((v1 * (1103515245 : Int32)) + (12345 : Int32)))) (v' := .int ((v1 * (1103515245 : Int32)) + (12345 : Int32))) (pc' := 16) fw_X12_372 rfl rfl rfl (fun h => nomatch h) dX12_draw_13 rfl ?_
  refine v_aload_n (pc' := 17) 0 dX12_draw_16 rfl rfl rfl ?_
  refine v_getI (pc' := 20) fl_X12_372 dX12_draw_17 rfl fun v2 => ?_
  refine v_bipush (v := 16) (pc' := 22) dX12_draw_20 rfl rfl ?_
  refine v_ishr (pc' := 23) dX12_draw_22 rfl ?_
  refine v_sipush (v := 32767) (pc' := 26) dX12_draw_23 rfl rfl ?_
  refine v_iand (pc' := 27) dX12_draw_26 rfl ?_
  refine v_iload_n (pc' := 28) 1 dX12_draw_27 rfl rfl rfl ?_
  refine v_irem (pc' := 29) dX12_draw_28 rfl fun v3 => ?_
  exact v_ireturn rfl dX12_draw_29
-- yearsBy
def f_X12_yearsBy_b157 (k29 : Nat → Int32 → Int32 → Int32 → Mo Unit) (a0 : Nat) (x2 : Int32) (x3 : Int32) (x4 : Int32) : Mo Unit := k29 a0 x2 x3 (x4 + 1)
def f_X12_yearsBy_b143 (k29 : Nat → Int32 → Int32 → Int32 → Mo Unit) (a0 : Nat) (x2 : Int32) (x3 : Int32) (x4 : Int32) : Mo Unit := bd (rm_ x4 4) fun v1 => if (v1 = 0 : Prop) then (bd (gR 12 28 a0) fun r2 => bd (f_X12_yearEnds r2) fun _ => f_X12_yearsBy_b157 k29 a0 x2 x3 x4) else f_X12_yearsBy_b157 k29 a0 x2 x3 x4
def f_X12_yearsBy_b139 (k29 : Nat → Int32 → Int32 → Int32 → Mo Unit) (a0 : Nat) (x2 : Int32) (x3 : Int32) (x4 : Int32) (xs0 : Int32) (xs1 : Int32) (as2 : Nat) : Mo Unit := bd (pf 12 48 as2 (.int (xs1 + xs0))) fun _ => f_X12_yearsBy_b143 k29 a0 x2 x3 x4
def f_X12_yearsBy_b103 (k29 : Nat → Int32 → Int32 → Int32 → Mo Unit) (a0 : Nat) (x2 : Int32) (x3 : Int32) (x4 : Int32) (x7 : Int32) (xs0 : Int32) (xs1 : Int32) (as2 : Nat) : Mo Unit := bd (pf 12 47 as2 (.int (xs1 + xs0))) fun _ => bd (cv 12 a0 (f_X12_draw a0 16)) fun v3 => if (x3 ≤ v3 : Prop) then (f_X12_yearsBy_b143 k29 a0 x2 x3 x4) else bd (gI 12 48 a0) fun v4 => bd (gR 12 28 a0) fun r5 => bd (f_X12_burns r5 x7) fun v6 => if (v6 = 0 : Prop) then (f_X12_yearsBy_b139 k29 a0 x2 x3 x4 0 v4 a0) else f_X12_yearsBy_b139 k29 a0 x2 x3 x4 1 v4 a0
def f_X12_yearsBy_b29 : Nat → Nat → Int32 → Int32 → Int32 → Mo Unit
  | 0, _, _, _, _ => fl
  | n + 1, a0, x2, x3, x4 => if (x2 < x4 : Prop) then (pu ()) else bd (gR 12 12 a0) fun r7 => bd (al 0 r7 0) fun v8 => if (v8 ≤ 0 : Prop) then (pu ()) else bd (gR 12 12 a0) fun r9 => bd (al 0 r9 0) fun v10 => bd (cv 12 a0 (f_X12_draw a0 v10)) fun v11 => bd (gR 12 12 a0) fun r12 => bd (al 0 r12 0) fun v13 => bd (cv 12 a0 (f_X12_draw a0 v13)) fun v14 => bd (cv 12 a0 (f_X12_draw a0 6)) fun v15 => bd (gI 12 47 a0) fun v16 => bd (gR 12 28 a0) fun r17 => bd (cv 12 a0 (f_X12_takesOne a0 r17 v11 v14 v15)) fun v18 => if (v18 = 0 : Prop) then (f_X12_yearsBy_b103 (f_X12_yearsBy_b29 n) a0 x2 x3 x4 v15 1 v16 a0) else f_X12_yearsBy_b103 (f_X12_yearsBy_b29 n) a0 x2 x3 x4 v15 0 v16 a0
def f_X12_yearsBy (a0 : Nat) (x1 : Int32) (x2 : Int32) (x3 : Int32) : Mo Unit := bd (gR 12 27 a0) fun r19 => bd (gR 12 28 a0) fun r20 => bd (f_X12_copies r19 r20) fun _ => bd (pf 12 46 a0 (.int x1)) fun _ => bd (pf 12 47 a0 (.int 0)) fun _ => bd (pf 12 48 a0 (.int 0)) fun _ => f_X12_yearsBy_b29 NF a0 x2 x3 1
set_option maxRecDepth 20000 in
theorem h_X12_yearsBy_b157 (g : GW) (k29 : Nat → Int32 → Int32 → Int32 → Mo Unit) (hk29 : ∀ a0 x2 x3 x4, V g mX12_yearsBy 13 rtU 29 [(0, rf g a0), (2, .int x2), (3, .int x3), (4, .int x4)] [] (k29 a0 x2 x3 x4)) (a0 : Nat) (x2 : Int32) (x3 : Int32) (x4 : Int32) : V g mX12_yearsBy 13 rtU 157 [(0, rf g a0), (2, .int x2), (3, .int x3), (4, .int x4)] [] (f_X12_yearsBy_b157 k29 a0 x2 x3 x4) := by
  unfold f_X12_yearsBy_b157
  refine v_iinc (v := x4 + 1) (lv' := [(4, .int (x4 + 1)), (0, rf g a0), (2, .int x2), (3, .int x3)]) (pc' := 160) 3 dX12_yearsBy_157 rfl rfl (by decide) rfl rfl ?_
  refine v_goto (t := 29) dX12_yearsBy_160 (by decide) ?_
  refine V.sub [1, 2, 3, 0] rfl ?_
  exact hk29 a0 x2 x3 (x4 + 1)
set_option maxRecDepth 20000 in
theorem h_X12_yearsBy_b143 (g : GW) (k29 : Nat → Int32 → Int32 → Int32 → Mo Unit) (hk29 : ∀ a0 x2 x3 x4, V g mX12_yearsBy 13 rtU 29 [(0, rf g a0), (2, .int x2), (3, .int x3), (4, .int x4)] [] (k29 a0 x2 x3 x4)) (a0 : Nat) (x2 : Int32) (x3 : Int32) (x4 : Int32) : V g mX12_yearsBy 13 rtU 143 [(0, rf g a0), (2, .int x2), (3, .int x3), (4, .int x4)] [] (f_X12_yearsBy_b143 k29 a0 x2 x3 x4) := by
  unfold f_X12_yearsBy_b143
  refine v_iload (pc' := 145) 3 dX12_yearsBy_143 rfl rfl ?_
  refine v_iconst (v := 4) (pc' := 146) dX12_yearsBy_145 rfl rfl ?_
  refine v_irem (pc' := 147) dX12_yearsBy_146 rfl fun v1 => ?_
  refine v_ifne (t := 157) (pc' := 150) dX12_yearsBy_147 (by decide) rfl ?_ ?_
  · refine V.sub [0, 1, 2, 3] rfl ?_
    exact h_X12_yearsBy_b157 g k29 hk29 a0 x2 x3 x4
  · refine v_aload_n (pc' := 151) 0 dX12_yearsBy_150 rfl rfl rfl ?_
    refine v_getR (pc' := 154) fl_X12_64 dX12_yearsBy_151 rfl fun r2 => ?_
    refine v_callS (vs := [rf g r2]) (pc' := 157) (h_X12_yearEnds g r2) ms_X12_yearEnds wl_X12_275 (Nat.le_of_ble_eq_true rfl) (by omega) (by decide) (Nat.le_of_ble_eq_true rfl) rfl dX12_yearsBy_154 rfl fun _ => ?_
    refine V.sub [0, 1, 2, 3] rfl ?_
    exact h_X12_yearsBy_b157 g k29 hk29 a0 x2 x3 x4
set_option maxRecDepth 20000 in
theorem h_X12_yearsBy_b139 (g : GW) (k29 : Nat → Int32 → Int32 → Int32 → Mo Unit) (hk29 : ∀ a0 x2 x3 x4, V g mX12_yearsBy 13 rtU 29 [(0, rf g a0), (2, .int x2), (3, .int x3), (4, .int x4)] [] (k29 a0 x2 x3 x4)) (a0 : Nat) (x2 : Int32) (x3 : Int32) (x4 : Int32) (xs0 : Int32) (xs1 : Int32) (as2 : Nat) : V g mX12_yearsBy 13 rtU 139 [(0, rf g a0), (2, .int x2), (3, .int x3), (4, .int x4)] [.int xs0, .int xs1, rf g as2] (f_X12_yearsBy_b139 k29 a0 x2 x3 x4 xs0 xs1 as2) := by
  unfold f_X12_yearsBy_b139
  refine v_iadd (pc' := 140) dX12_yearsBy_139 rfl ?_
  refine v_put (v := (.int (xs1 + xs0))) (v' := .int (xs1 + xs0)) (pc' := 143) fw_X12_379 rfl rfl rfl (fun h => nomatch h) dX12_yearsBy_140 rfl ?_
  refine V.sub [0, 1, 2, 3] rfl ?_
  exact h_X12_yearsBy_b143 g k29 hk29 a0 x2 x3 x4
set_option maxRecDepth 20000 in
theorem h_X12_yearsBy_b103 (g : GW) (k29 : Nat → Int32 → Int32 → Int32 → Mo Unit) (hk29 : ∀ a0 x2 x3 x4, V g mX12_yearsBy 13 rtU 29 [(0, rf g a0), (2, .int x2), (3, .int x3), (4, .int x4)] [] (k29 a0 x2 x3 x4)) (a0 : Nat) (x2 : Int32) (x3 : Int32) (x4 : Int32) (x7 : Int32) (xs0 : Int32) (xs1 : Int32) (as2 : Nat) : V g mX12_yearsBy 13 rtU 103 [(0, rf g a0), (2, .int x2), (3, .int x3), (4, .int x4), (7, .int x7)] [.int xs0, .int xs1, rf g as2] (f_X12_yearsBy_b103 k29 a0 x2 x3 x4 x7 xs0 xs1 as2) := by
  unfold f_X12_yearsBy_b103
  refine v_iadd (pc' := 104) dX12_yearsBy_103 rfl ?_
  refine v_put (v := (.int (xs1 + xs0))) (v' := .int (xs1 + xs0)) (pc' := 107) fw_X12_376 rfl rfl rfl (fun h => nomatch h) dX12_yearsBy_104 rfl ?_
  refine v_aload_n (pc' := 108) 0 dX12_yearsBy_107 rfl rfl rfl ?_
  refine v_bipush (v := 16) (pc' := 110) dX12_yearsBy_108 rfl rfl ?_
  refine v_callV (vs := [.int 16]) (pc' := 113) (h_X12_draw g a0 16) mv_X12_draw wl_X12_382 rfl (Nat.le_of_ble_eq_true rfl) (by omega) (by decide) (Nat.le_of_ble_eq_true rfl) rfl dX12_yearsBy_110 rfl fun v3 => ?_
  refine v_iload_n (pc' := 114) 2 dX12_yearsBy_113 rfl rfl rfl ?_
  refine v_icmpge (t := 143) (pc' := 117) dX12_yearsBy_114 (by decide) rfl ?_ ?_
  · refine V.sub [0, 1, 2, 3] rfl ?_
    exact h_X12_yearsBy_b143 g k29 hk29 a0 x2 x3 x4
  · refine v_aload_n (pc' := 118) 0 dX12_yearsBy_117 rfl rfl rfl ?_
    refine v_dup (pc' := 119) dX12_yearsBy_118 rfl rfl ?_
    refine v_getI (pc' := 122) fl_X12_379 dX12_yearsBy_119 rfl fun v4 => ?_
    refine v_aload_n (pc' := 123) 0 dX12_yearsBy_122 rfl rfl rfl ?_
    refine v_getR (pc' := 126) fl_X12_64 dX12_yearsBy_123 rfl fun r5 => ?_
    refine v_iload (pc' := 128) 4 dX12_yearsBy_126 rfl rfl ?_
    refine v_callS (vs := [rf g r5, .int x7]) (pc' := 131) (h_X12_burns g r5 x7) ms_X12_burns wl_X12_271 (Nat.le_of_ble_eq_true rfl) (by omega) (by decide) (Nat.le_of_ble_eq_true rfl) rfl dX12_yearsBy_128 rfl fun v6 => ?_
    refine v_ifeq (t := 138) (pc' := 134) dX12_yearsBy_131 (by decide) rfl ?_ ?_
    · refine v_iconst (v := 0) (pc' := 139) dX12_yearsBy_138 rfl rfl ?_
      refine V.sub [0, 1, 2, 3] rfl ?_
      exact h_X12_yearsBy_b139 g k29 hk29 a0 x2 x3 x4 0 v4 a0
    · refine v_iconst (v := 1) (pc' := 135) dX12_yearsBy_134 rfl rfl ?_
      refine v_goto (t := 139) dX12_yearsBy_135 (by decide) ?_
      refine V.sub [0, 1, 2, 3] rfl ?_
      exact h_X12_yearsBy_b139 g k29 hk29 a0 x2 x3 x4 1 v4 a0
set_option maxRecDepth 20000 in
theorem h_X12_yearsBy_b29 (g : GW) : ∀ n : Nat, ∀ a0 x2 x3 x4, V g mX12_yearsBy 13 rtU 29 [(0, rf g a0), (2, .int x2), (3, .int x3), (4, .int x4)] [] (f_X12_yearsBy_b29 n a0 x2 x3 x4) := by
  intro n
  induction n with
  | zero => intro a0 x2 x3 x4; exact V.vain
  | succ n ih =>
    intro a0 x2 x3 x4
    unfold f_X12_yearsBy_b29
    refine v_iload (pc' := 31) 3 dX12_yearsBy_29 rfl rfl ?_
    refine v_iload_n (pc' := 32) 1 dX12_yearsBy_31 rfl rfl rfl ?_
    refine v_icmpgt (t := 163) (pc' := 35) dX12_yearsBy_32 (by decide) rfl ?_ ?_
    · exact v_return rfl dX12_yearsBy_163
    · refine v_aload_n (pc' := 36) 0 dX12_yearsBy_35 rfl rfl rfl ?_
      refine v_getR (pc' := 39) fl_X12_23 dX12_yearsBy_36 rfl fun r7 => ?_
      refine v_iconst (v := 0) (pc' := 40) dX12_yearsBy_39 rfl rfl ?_
      refine v_iald (pc' := 41) dX12_yearsBy_40 rfl fun v8 => ?_
      refine v_ifle (t := 163) (pc' := 44) dX12_yearsBy_41 (by decide) rfl ?_ ?_
      · exact v_return rfl dX12_yearsBy_163
      · refine v_aload_n (pc' := 45) 0 dX12_yearsBy_44 rfl rfl rfl ?_
        refine v_aload_n (pc' := 46) 0 dX12_yearsBy_45 rfl rfl rfl ?_
        refine v_getR (pc' := 49) fl_X12_23 dX12_yearsBy_46 rfl fun r9 => ?_
        refine v_iconst (v := 0) (pc' := 50) dX12_yearsBy_49 rfl rfl ?_
        refine v_iald (pc' := 51) dX12_yearsBy_50 rfl fun v10 => ?_
        refine v_callV (vs := [.int v10]) (pc' := 54) (h_X12_draw g a0 v10) mv_X12_draw wl_X12_382 rfl (Nat.le_of_ble_eq_true rfl) (by omega) (by decide) (Nat.le_of_ble_eq_true rfl) rfl dX12_yearsBy_51 rfl fun v11 => ?_
        refine v_istore (lv' := [(5, .int v11), (0, rf g a0), (2, .int x2), (3, .int x3), (4, .int x4)]) (pc' := 56) dX12_yearsBy_54 (by decide) rfl rfl ?_
        refine v_aload_n (pc' := 57) 1 dX12_yearsBy_56 rfl rfl rfl ?_
        refine v_aload_n (pc' := 58) 1 dX12_yearsBy_57 rfl rfl rfl ?_
        refine v_getR (pc' := 61) fl_X12_23 dX12_yearsBy_58 rfl fun r12 => ?_
        refine v_iconst (v := 0) (pc' := 62) dX12_yearsBy_61 rfl rfl ?_
        refine v_iald (pc' := 63) dX12_yearsBy_62 rfl fun v13 => ?_
        refine v_callV (vs := [.int v13]) (pc' := 66) (h_X12_draw g a0 v13) mv_X12_draw wl_X12_382 rfl (Nat.le_of_ble_eq_true rfl) (by omega) (by decide) (Nat.le_of_ble_eq_true rfl) rfl dX12_yearsBy_63 rfl fun v14 => ?_
        refine v_istore (lv' := [(6, .int v14), (5, .int v11), (0, rf g a0), (2, .int x2), (3, .int x3), (4, .int x4)]) (pc' := 68) dX12_yearsBy_66 (by decide) rfl rfl ?_
        refine v_aload_n (pc' := 69) 2 dX12_yearsBy_68 rfl rfl rfl ?_
        refine v_bipush (v := 6) (pc' := 71) dX12_yearsBy_69 rfl rfl ?_
        refine v_callV (vs := [.int 6]) (pc' := 74) (h_X12_draw g a0 6) mv_X12_draw wl_X12_382 rfl (Nat.le_of_ble_eq_true rfl) (by omega) (by decide) (Nat.le_of_ble_eq_true rfl) rfl dX12_yearsBy_71 rfl fun v15 => ?_
        refine v_istore (lv' := [(7, .int v15), (6, .int v14), (5, .int v11), (0, rf g a0), (2, .int x2), (3, .int x3), (4, .int x4)]) (pc' := 76) dX12_yearsBy_74 (by decide) rfl rfl ?_
        refine v_aload_n (pc' := 77) 3 dX12_yearsBy_76 rfl rfl rfl ?_
        refine v_dup (pc' := 78) dX12_yearsBy_77 rfl rfl ?_
        refine v_getI (pc' := 81) fl_X12_376 dX12_yearsBy_78 rfl fun v16 => ?_
        refine v_aload_n (pc' := 82) 3 dX12_yearsBy_81 rfl rfl rfl ?_
        refine v_aload_n (pc' := 83) 3 dX12_yearsBy_82 rfl rfl rfl ?_
        refine v_getR (pc' := 86) fl_X12_64 dX12_yearsBy_83 rfl fun r17 => ?_
        refine v_iload (pc' := 88) 2 dX12_yearsBy_86 rfl rfl ?_
        refine v_iload (pc' := 90) 1 dX12_yearsBy_88 rfl rfl ?_
        refine v_iload (pc' := 92) 0 dX12_yearsBy_90 rfl rfl ?_
        refine v_callV (vs := [rf g r17, .int v11, .int v14, .int v15]) (pc' := 95) (h_X12_takesOne g a0 r17 v11 v14 v15) mv_X12_takesOne wl_X12_267 rfl (Nat.le_of_ble_eq_true rfl) (by omega) (by decide) (Nat.le_of_ble_eq_true rfl) rfl dX12_yearsBy_92 rfl fun v18 => ?_
        refine v_ifeq (t := 102) (pc' := 98) dX12_yearsBy_95 (by decide) rfl ?_ ?_
        · refine v_iconst (v := 1) (pc' := 103) dX12_yearsBy_102 rfl rfl ?_
          refine V.sub [3, 4, 5, 6, 0] rfl ?_
          exact h_X12_yearsBy_b103 g (f_X12_yearsBy_b29 n) ih a0 x2 x3 x4 v15 1 v16 a0
        · refine v_iconst (v := 0) (pc' := 99) dX12_yearsBy_98 rfl rfl ?_
          refine v_goto (t := 103) dX12_yearsBy_99 (by decide) ?_
          refine V.sub [3, 4, 5, 6, 0] rfl ?_
          exact h_X12_yearsBy_b103 g (f_X12_yearsBy_b29 n) ih a0 x2 x3 x4 v15 0 v16 a0
set_option maxRecDepth 20000 in
theorem h_X12_yearsBy (g : GW) (a0 : Nat) (x1 : Int32) (x2 : Int32) (x3 : Int32) : V g mX12_yearsBy 13 rtU 0 [(0, rf g a0), (1, .int x1), (2, .int x2), (3, .int x3)] [] (f_X12_yearsBy a0 x1 x2 x3) := by
  unfold f_X12_yearsBy
  refine v_aload_n (pc' := 1) 0 dX12_yearsBy_0 rfl rfl rfl ?_
  refine v_getR (pc' := 4) fl_X12_61 dX12_yearsBy_1 rfl fun r19 => ?_
  refine v_aload_n (pc' := 5) 0 dX12_yearsBy_4 rfl rfl rfl ?_
  refine v_getR (pc' := 8) fl_X12_64 dX12_yearsBy_5 rfl fun r20 => ?_
  refine v_callS (vs := [rf g r19, rf g r20]) (pc' := 11) (h_X12_copies g r19 r20) ms_X12_copies wl_X12_292 (Nat.le_of_ble_eq_true rfl) (by omega) (by decide) (Nat.le_of_ble_eq_true rfl) rfl dX12_yearsBy_8 rfl fun _ => ?_
  refine v_aload_n (pc' := 12) 0 dX12_yearsBy_11 rfl rfl rfl ?_
  refine v_iload_n (pc' := 13) 1 dX12_yearsBy_12 rfl rfl rfl ?_
  refine v_put (v := (.int x1)) (v' := .int x1) (pc' := 16) fw_X12_372 rfl rfl rfl (fun h => nomatch h) dX12_yearsBy_13 rfl ?_
  refine v_aload_n (pc' := 17) 0 dX12_yearsBy_16 rfl rfl rfl ?_
  refine v_iconst (v := 0) (pc' := 18) dX12_yearsBy_17 rfl rfl ?_
  refine v_put (v := (.int 0)) (v' := .int 0) (pc' := 21) fw_X12_376 rfl rfl rfl (fun h => nomatch h) dX12_yearsBy_18 rfl ?_
  refine v_aload_n (pc' := 22) 0 dX12_yearsBy_21 rfl rfl rfl ?_
  refine v_iconst (v := 0) (pc' := 23) dX12_yearsBy_22 rfl rfl ?_
  refine v_put (v := (.int 0)) (v' := .int 0) (pc' := 26) fw_X12_379 rfl rfl rfl (fun h => nomatch h) dX12_yearsBy_23 rfl ?_
  refine v_iconst (v := 1) (pc' := 27) dX12_yearsBy_26 rfl rfl ?_
  refine v_istore (lv' := [(4, .int 1), (0, rf g a0), (1, .int x1), (2, .int x2), (3, .int x3)]) (pc' := 29) dX12_yearsBy_27 (by decide) rfl rfl ?_
  refine V.sub [1, 3, 4, 0] rfl ?_
  exact h_X12_yearsBy_b29 g NF a0 x2 x3 1
-- areYears
def f_X12_areYears (x0 : Int32) (x1 : Int32) : Mo Int32 := bd (f_X12_in x0 1 96) fun v1 => if (v1 = 0 : Prop) then (pu 0) else bd (f_X12_in x1 0 16) fun v2 => if (v2 = 0 : Prop) then (pu 0) else pu 1
set_option maxRecDepth 20000 in
theorem h_X12_areYears (g : GW) (x0 : Int32) (x1 : Int32) : V g mX12_areYears 9 rtI 0 [(0, .int x0), (1, .int x1)] [] (f_X12_areYears x0 x1) := by
  unfold f_X12_areYears
  refine v_iload_n (pc' := 1) 0 dX12_areYears_0 rfl rfl rfl ?_
  refine v_iconst (v := 1) (pc' := 2) dX12_areYears_1 rfl rfl ?_
  refine v_bipush (v := 96) (pc' := 4) dX12_areYears_2 rfl rfl ?_
  refine v_callS (vs := [.int x0, .int 1, .int 96]) (pc' := 7) (h_X12_in g x0 1 96) ms_X12_in wl_X12_128 (Nat.le_of_ble_eq_true rfl) (by omega) (by decide) (Nat.le_of_ble_eq_true rfl) rfl dX12_areYears_4 rfl fun v1 => ?_
  refine v_ifeq (t := 24) (pc' := 10) dX12_areYears_7 (by decide) rfl ?_ ?_
  · refine v_iconst (v := 0) (pc' := 25) dX12_areYears_24 rfl rfl ?_
    exact v_zret rfl rfl dX12_areYears_25
  · refine v_iload_n (pc' := 11) 1 dX12_areYears_10 rfl rfl rfl ?_
    refine v_iconst (v := 0) (pc' := 12) dX12_areYears_11 rfl rfl ?_
    refine v_bipush (v := 16) (pc' := 14) dX12_areYears_12 rfl rfl ?_
    refine v_callS (vs := [.int x1, .int 0, .int 16]) (pc' := 17) (h_X12_in g x1 0 16) ms_X12_in wl_X12_128 (Nat.le_of_ble_eq_true rfl) (by omega) (by decide) (Nat.le_of_ble_eq_true rfl) rfl dX12_areYears_14 rfl fun v2 => ?_
    refine v_ifeq (t := 24) (pc' := 20) dX12_areYears_17 (by decide) rfl ?_ ?_
    · refine v_iconst (v := 0) (pc' := 25) dX12_areYears_24 rfl rfl ?_
      exact v_zret rfl rfl dX12_areYears_25
    · refine v_iconst (v := 1) (pc' := 21) dX12_areYears_20 rfl rfl ?_
      refine v_goto (t := 25) dX12_areYears_21 (by decide) ?_
      exact v_zret rfl rfl dX12_areYears_25
-- years
def f_X12_years_b29 (a0 : Nat) (x1 : Int32) (x2 : Int32) (x3 : Int32) (x4 : Int32) (xs0 : Int32) (as1 : Nat) : Mo Int32 := bd (cv 12 as1 (f_X12_bad as1 xs0 1 1)) fun v1 => if (v1 = 0 : Prop) then (bd (cv 12 a0 (f_X12_yearsBy a0 x1 x2 x3)) fun _ => sw x4 0 [(bd (gR 12 28 a0) fun r2 => bd (al 0 r2 24) fun v3 => pu v3), (bd (gI 12 47 a0) fun v4 => pu v4), (bd (gI 12 48 a0) fun v5 => pu v5)] (bd (gR 12 28 a0) fun r6 => bd (cv 12 a0 (f_X12_hadBy a0 r6)) fun v7 => bd (f_X12_ones v7) fun v8 => pu v8)) else pu 0
def f_X12_years_b24 (a0 : Nat) (x1 : Int32) (x2 : Int32) (x3 : Int32) (x4 : Int32) (as0 : Nat) : Mo Int32 := f_X12_years_b29 a0 x1 x2 x3 x4 1 as0
def f_X12_years (a0 : Nat) (x1 : Int32) (x2 : Int32) (x3 : Int32) (x4 : Int32) : Mo Int32 := bd (pf 12 0 a0 (.int 0)) fun _ => bd (f_X12_areYears x2 x3) fun v9 => if (v9 = 0 : Prop) then (f_X12_years_b24 a0 x1 x2 x3 x4 a0) else bd (f_X12_in x4 0 3) fun v10 => if (v10 = 0 : Prop) then (f_X12_years_b24 a0 x1 x2 x3 x4 a0) else f_X12_years_b29 a0 x1 x2 x3 x4 0 a0
set_option maxRecDepth 20000 in
theorem h_X12_years_b29 (g : GW) (a0 : Nat) (x1 : Int32) (x2 : Int32) (x3 : Int32) (x4 : Int32) (xs0 : Int32) (as1 : Nat) : V g mX12_years 14 rtI 29 [(0, rf g a0), (1, .int x1), (2, .int x2), (3, .int x3), (4, .int x4)] [.int xs0, rf g as1] (f_X12_years_b29 a0 x1 x2 x3 x4 xs0 as1) := by
  unfold f_X12_years_b29
  refine v_iconst (v := 1) (pc' := 30) dX12_years_29 rfl rfl ?_
  refine v_iconst (v := 1) (pc' := 31) dX12_years_30 rfl rfl ?_
  refine v_callV (vs := [.int xs0, .int 1, .int 1]) (pc' := 34) (h_X12_bad g as1 xs0 1 1) mv_X12_bad wl_X12_167 rfl (Nat.le_of_ble_eq_true rfl) (by omega) (by decide) (Nat.le_of_ble_eq_true rfl) rfl dX12_years_31 rfl fun v1 => ?_
  refine v_ifeq (t := 39) (pc' := 37) dX12_years_34 (by decide) rfl ?_ ?_
  · refine v_aload_n (pc' := 40) 0 dX12_years_39 rfl rfl rfl ?_
    refine v_iload_n (pc' := 41) 1 dX12_years_40 rfl rfl rfl ?_
    refine v_iload_n (pc' := 42) 2 dX12_years_41 rfl rfl rfl ?_
    refine v_iload_n (pc' := 43) 3 dX12_years_42 rfl rfl rfl ?_
    refine v_callV (vs := [.int x1, .int x2, .int x3]) (pc' := 46) (h_X12_yearsBy g a0 x1 x2 x3) mv_X12_yearsBy wl_X12_388 rfl (Nat.le_of_ble_eq_true rfl) (by omega) (by decide) (Nat.le_of_ble_eq_true rfl) rfl dX12_years_43 rfl fun _ => ?_
    refine v_iload (pc' := 48) 4 dX12_years_46 rfl rfl ?_
    refine v_table (td := 94) dX12_years_48 rfl (by decide) ⟨⟨76, by decide, ?_⟩, ⟨84, by decide, ?_⟩, ⟨89, by decide, ?_⟩, trivial⟩ ?_
    · refine v_aload_n (pc' := 77) 0 dX12_years_76 rfl rfl rfl ?_
      refine v_getR (pc' := 80) fl_X12_64 dX12_years_77 rfl fun r2 => ?_
      refine v_bipush (v := 24) (pc' := 82) dX12_years_80 rfl rfl ?_
      refine v_iald (pc' := 83) dX12_years_82 rfl fun v3 => ?_
      exact v_ireturn rfl dX12_years_83
    · refine v_aload_n (pc' := 85) 0 dX12_years_84 rfl rfl rfl ?_
      refine v_getI (pc' := 88) fl_X12_376 dX12_years_85 rfl fun v4 => ?_
      exact v_ireturn rfl dX12_years_88
    · refine v_aload_n (pc' := 90) 0 dX12_years_89 rfl rfl rfl ?_
      refine v_getI (pc' := 93) fl_X12_379 dX12_years_90 rfl fun v5 => ?_
      exact v_ireturn rfl dX12_years_93
    · refine v_aload_n (pc' := 95) 0 dX12_years_94 rfl rfl rfl ?_
      refine v_aload_n (pc' := 96) 0 dX12_years_95 rfl rfl rfl ?_
      refine v_getR (pc' := 99) fl_X12_64 dX12_years_96 rfl fun r6 => ?_
      refine v_callV (vs := [rf g r6]) (pc' := 102) (h_X12_hadBy g a0 r6) mv_X12_hadBy wl_X12_314 rfl (Nat.le_of_ble_eq_true rfl) (by omega) (by decide) (Nat.le_of_ble_eq_true rfl) rfl dX12_years_99 rfl fun v7 => ?_
      refine v_callS (vs := [.int v7]) (pc' := 105) (h_X12_ones g v7) ms_X12_ones wl_X12_250 (Nat.le_of_ble_eq_true rfl) (by omega) (by decide) (Nat.le_of_ble_eq_true rfl) rfl dX12_years_102 rfl fun v8 => ?_
      exact v_ireturn rfl dX12_years_105
  · refine v_iconst (v := 0) (pc' := 38) dX12_years_37 rfl rfl ?_
    exact v_ireturn rfl dX12_years_38
set_option maxRecDepth 20000 in
theorem h_X12_years_b24 (g : GW) (a0 : Nat) (x1 : Int32) (x2 : Int32) (x3 : Int32) (x4 : Int32) (as0 : Nat) : V g mX12_years 14 rtI 24 [(0, rf g a0), (1, .int x1), (2, .int x2), (3, .int x3), (4, .int x4)] [rf g as0] (f_X12_years_b24 a0 x1 x2 x3 x4 as0) := by
  unfold f_X12_years_b24
  refine v_iconst (v := 1) (pc' := 25) dX12_years_24 rfl rfl ?_
  refine v_goto (t := 29) dX12_years_25 (by decide) ?_
  refine V.sub [0, 1, 2, 3, 4] rfl ?_
  exact h_X12_years_b29 g a0 x1 x2 x3 x4 1 as0
set_option maxRecDepth 20000 in
theorem h_X12_years (g : GW) (a0 : Nat) (x1 : Int32) (x2 : Int32) (x3 : Int32) (x4 : Int32) : V g mX12_years 14 rtI 0 [(0, rf g a0), (1, .int x1), (2, .int x2), (3, .int x3), (4, .int x4)] [] (f_X12_years a0 x1 x2 x3 x4) := by
  unfold f_X12_years
  refine v_aload_n (pc' := 1) 0 dX12_years_0 rfl rfl rfl ?_
  refine v_iconst (v := 0) (pc' := 2) dX12_years_1 rfl rfl ?_
  refine v_put (v := (.int 0)) (v' := .int 0) (pc' := 5) fw_X12_94 rfl rfl rfl (fun h => nomatch h) dX12_years_2 rfl ?_
  refine v_aload_n (pc' := 6) 0 dX12_years_5 rfl rfl rfl ?_
  refine v_iload_n (pc' := 7) 2 dX12_years_6 rfl rfl rfl ?_
  refine v_iload_n (pc' := 8) 3 dX12_years_7 rfl rfl rfl ?_
  refine v_callS (vs := [.int x2, .int x3]) (pc' := 11) (h_X12_areYears g x2 x3) ms_X12_areYears wl_X12_385 (Nat.le_of_ble_eq_true rfl) (by omega) (by decide) (Nat.le_of_ble_eq_true rfl) rfl dX12_years_8 rfl fun v9 => ?_
  refine v_ifeq (t := 24) (pc' := 14) dX12_years_11 (by decide) rfl ?_ ?_
  · refine V.sub [0, 1, 2, 3, 4] rfl ?_
    exact h_X12_years_b24 g a0 x1 x2 x3 x4 a0
  · refine v_iload (pc' := 16) 4 dX12_years_14 rfl rfl ?_
    refine v_iconst (v := 0) (pc' := 17) dX12_years_16 rfl rfl ?_
    refine v_iconst (v := 3) (pc' := 18) dX12_years_17 rfl rfl ?_
    refine v_callS (vs := [.int x4, .int 0, .int 3]) (pc' := 21) (h_X12_in g x4 0 3) ms_X12_in wl_X12_128 (Nat.le_of_ble_eq_true rfl) (by omega) (by decide) (Nat.le_of_ble_eq_true rfl) rfl dX12_years_18 rfl fun v10 => ?_
    refine v_ifne (t := 28) (pc' := 24) dX12_years_21 (by decide) rfl ?_ ?_
    · refine v_iconst (v := 0) (pc' := 29) dX12_years_28 rfl rfl ?_
      refine V.sub [0, 1, 2, 3, 4] rfl ?_
      exact h_X12_years_b29 g a0 x1 x2 x3 x4 0 a0
    · refine V.sub [0, 1, 2, 3, 4] rfl ?_
      exact h_X12_years_b24 g a0 x1 x2 x3 x4 a0
-- span
def f_X12_span_b149 (k71 : Nat → Int32 → Int32 → Int32 → Int32 → Int32 → Int32 → Int32 → Int32 → Int32 → Int32 → Mo Int32) (a0 : Nat) (x1 : Int32) (x2 : Int32) (x3 : Int32) (x4 : Int32) (x5 : Int32) (x6 : Int32) (x7 : Int32) (x8 : Int32) (x10 : Int32) (xs0 : Int32) (xs1 : Int32) : Mo Int32 := k71 a0 x1 x2 x3 x4 x5 x6 x7 x8 (xs1 + xs0) (x10 + 1)
def f_X12_span_b115 (k71 : Nat → Int32 → Int32 → Int32 → Int32 → Int32 → Int32 → Int32 → Int32 → Int32 → Int32 → Mo Int32) (a0 : Nat) (x1 : Int32) (x2 : Int32) (x3 : Int32) (x4 : Int32) (x5 : Int32) (x6 : Int32) (x8 : Int32) (x9 : Int32) (x10 : Int32) (x11 : Int32) (xs0 : Int32) : Mo Int32 := bd (f_X12_more x8 x11) fun v1 => bd (gR 12 28 a0) fun r2 => bd (cv 12 a0 (f_X12_hadBy a0 r2)) fun v3 => bd (f_X12_has v3 x6) fun v4 => if (v4 = 0 : Prop) then (f_X12_span_b149 k71 a0 x1 x2 x3 x4 x5 x6 xs0 v1 x10 0 x9) else f_X12_span_b149 k71 a0 x1 x2 x3 x4 x5 x6 xs0 v1 x10 1 x9
def f_X12_span_b71 : Nat → Nat → Int32 → Int32 → Int32 → Int32 → Int32 → Int32 → Int32 → Int32 → Int32 → Int32 → Mo Int32
  | 0, _, _, _, _, _, _, _, _, _, _, _ => fl
  | n + 1, a0, x1, x2, x3, x4, x5, x6, x7, x8, x9, x10 => if (x2 ≤ x10 : Prop) then (if (x5 = 0 : Prop) then (pu x7) else if (x5 = 1 : Prop) then (pu x8) else pu x9) else bd (cv 12 a0 (f_X12_yearsBy a0 (x1 + x10) x3 x4)) fun _ => bd (gR 12 28 a0) fun r5 => bd (al 0 r5 24) fun v6 => if (x7 = (-1) : Prop) then (f_X12_span_b115 (f_X12_span_b71 n) a0 x1 x2 x3 x4 x5 x6 x8 x9 x10 v6 v6) else bd (f_X12_less x7 v6) fun v7 => f_X12_span_b115 (f_X12_span_b71 n) a0 x1 x2 x3 x4 x5 x6 x8 x9 x10 v6 v7
def f_X12_span_b49 (a0 : Nat) (x1 : Int32) (x2 : Int32) (x3 : Int32) (x4 : Int32) (x5 : Int32) (x6 : Int32) (xs0 : Int32) (as1 : Nat) : Mo Int32 := bd (cv 12 as1 (f_X12_bad as1 xs0 1 1)) fun v8 => if (v8 = 0 : Prop) then (f_X12_span_b71 NF a0 x1 x2 x3 x4 x5 x6 (-1) 0 0 0) else pu 0
def f_X12_span_b44 (a0 : Nat) (x1 : Int32) (x2 : Int32) (x3 : Int32) (x4 : Int32) (x5 : Int32) (x6 : Int32) (as0 : Nat) : Mo Int32 := f_X12_span_b49 a0 x1 x2 x3 x4 x5 x6 1 as0
def f_X12_span (a0 : Nat) (x1 : Int32) (x2 : Int32) (x3 : Int32) (x4 : Int32) (x5 : Int32) (x6 : Int32) : Mo Int32 := bd (pf 12 0 a0 (.int 0)) fun _ => bd (f_X12_in x2 1 20) fun v9 => if (v9 = 0 : Prop) then (f_X12_span_b44 a0 x1 x2 x3 x4 x5 x6 a0) else bd (f_X12_areYears x3 x4) fun v10 => if (v10 = 0 : Prop) then (f_X12_span_b44 a0 x1 x2 x3 x4 x5 x6 a0) else bd (f_X12_in x5 0 2) fun v11 => if (v11 = 0 : Prop) then (f_X12_span_b44 a0 x1 x2 x3 x4 x5 x6 a0) else bd (cv 12 a0 (f_X12_isPerson a0 x6)) fun v12 => if (v12 = 0 : Prop) then (f_X12_span_b44 a0 x1 x2 x3 x4 x5 x6 a0) else f_X12_span_b49 a0 x1 x2 x3 x4 x5 x6 0 a0
set_option maxRecDepth 20000 in
theorem h_X12_span_b149 (g : GW) (k71 : Nat → Int32 → Int32 → Int32 → Int32 → Int32 → Int32 → Int32 → Int32 → Int32 → Int32 → Mo Int32) (hk71 : ∀ a0 x1 x2 x3 x4 x5 x6 x7 x8 x9 x10, V g mX12_span 14 rtI 71 [(0, rf g a0), (1, .int x1), (2, .int x2), (3, .int x3), (4, .int x4), (5, .int x5), (6, .int x6), (7, .int x7), (8, .int x8), (9, .int x9), (10, .int x10)] [] (k71 a0 x1 x2 x3 x4 x5 x6 x7 x8 x9 x10)) (a0 : Nat) (x1 : Int32) (x2 : Int32) (x3 : Int32) (x4 : Int32) (x5 : Int32) (x6 : Int32) (x7 : Int32) (x8 : Int32) (x10 : Int32) (xs0 : Int32) (xs1 : Int32) : V g mX12_span 14 rtI 149 [(0, rf g a0), (1, .int x1), (2, .int x2), (3, .int x3), (4, .int x4), (5, .int x5), (6, .int x6), (7, .int x7), (8, .int x8), (10, .int x10)] [.int xs0, .int xs1] (f_X12_span_b149 k71 a0 x1 x2 x3 x4 x5 x6 x7 x8 x10 xs0 xs1) := by
  unfold f_X12_span_b149
  refine v_iadd (pc' := 150) dX12_span_149 rfl ?_
  refine v_istore (lv' := [(9, .int (xs1 + xs0)), (0, rf g a0), (1, .int x1), (2, .int x2), (3, .int x3), (4, .int x4), (5, .int x5), (6, .int x6), (7, .int x7), (8, .int x8), (10, .int x10)]) (pc' := 152) dX12_span_150 (by decide) rfl rfl ?_
  refine v_iinc (v := x10 + 1) (lv' := [(10, .int (x10 + 1)), (9, .int (xs1 + xs0)), (0, rf g a0), (1, .int x1), (2, .int x2), (3, .int x3), (4, .int x4), (5, .int x5), (6, .int x6), (7, .int x7), (8, .int x8)]) (pc' := 155) 10 dX12_span_152 rfl rfl (by decide) rfl rfl ?_
  refine v_goto (t := 71) dX12_span_155 (by decide) ?_
  refine V.sub [2, 3, 4, 5, 6, 7, 8, 9, 10, 1, 0] rfl ?_
  exact hk71 a0 x1 x2 x3 x4 x5 x6 x7 x8 (xs1 + xs0) (x10 + 1)
set_option maxRecDepth 20000 in
theorem h_X12_span_b115 (g : GW) (k71 : Nat → Int32 → Int32 → Int32 → Int32 → Int32 → Int32 → Int32 → Int32 → Int32 → Int32 → Mo Int32) (hk71 : ∀ a0 x1 x2 x3 x4 x5 x6 x7 x8 x9 x10, V g mX12_span 14 rtI 71 [(0, rf g a0), (1, .int x1), (2, .int x2), (3, .int x3), (4, .int x4), (5, .int x5), (6, .int x6), (7, .int x7), (8, .int x8), (9, .int x9), (10, .int x10)] [] (k71 a0 x1 x2 x3 x4 x5 x6 x7 x8 x9 x10)) (a0 : Nat) (x1 : Int32) (x2 : Int32) (x3 : Int32) (x4 : Int32) (x5 : Int32) (x6 : Int32) (x8 : Int32) (x9 : Int32) (x10 : Int32) (x11 : Int32) (xs0 : Int32) : V g mX12_span 14 rtI 115 [(0, rf g a0), (1, .int x1), (2, .int x2), (3, .int x3), (4, .int x4), (5, .int x5), (6, .int x6), (8, .int x8), (9, .int x9), (10, .int x10), (11, .int x11)] [.int xs0] (f_X12_span_b115 k71 a0 x1 x2 x3 x4 x5 x6 x8 x9 x10 x11 xs0) := by
  unfold f_X12_span_b115
  refine v_istore (lv' := [(7, .int xs0), (0, rf g a0), (1, .int x1), (2, .int x2), (3, .int x3), (4, .int x4), (5, .int x5), (6, .int x6), (8, .int x8), (9, .int x9), (10, .int x10), (11, .int x11)]) (pc' := 117) dX12_span_115 (by decide) rfl rfl ?_
  refine v_iload (pc' := 119) 8 dX12_span_117 rfl rfl ?_
  refine v_iload (pc' := 121) 11 dX12_span_119 rfl rfl ?_
  refine v_callS (vs := [.int x8, .int x11]) (pc' := 124) (h_X12_more g x8 x11) ms_X12_more wl_X12_230 (Nat.le_of_ble_eq_true rfl) (by omega) (by decide) (Nat.le_of_ble_eq_true rfl) rfl dX12_span_121 rfl fun v1 => ?_
  refine v_istore (lv' := [(8, .int v1), (7, .int xs0), (0, rf g a0), (1, .int x1), (2, .int x2), (3, .int x3), (4, .int x4), (5, .int x5), (6, .int x6), (9, .int x9), (10, .int x10), (11, .int x11)]) (pc' := 126) dX12_span_124 (by decide) rfl rfl ?_
  refine v_iload (pc' := 128) 9 dX12_span_126 rfl rfl ?_
  refine v_aload_n (pc' := 129) 2 dX12_span_128 rfl rfl rfl ?_
  refine v_aload_n (pc' := 130) 2 dX12_span_129 rfl rfl rfl ?_
  refine v_getR (pc' := 133) fl_X12_64 dX12_span_130 rfl fun r2 => ?_
  refine v_callV (vs := [rf g r2]) (pc' := 136) (h_X12_hadBy g a0 r2) mv_X12_hadBy wl_X12_314 rfl (Nat.le_of_ble_eq_true rfl) (by omega) (by decide) (Nat.le_of_ble_eq_true rfl) rfl dX12_span_133 rfl fun v3 => ?_
  refine v_iload (pc' := 138) 8 dX12_span_136 rfl rfl ?_
  refine v_callS (vs := [.int v3, .int x6]) (pc' := 141) (h_X12_has g v3 x6) ms_X12_has wl_X12_246 (Nat.le_of_ble_eq_true rfl) (by omega) (by decide) (Nat.le_of_ble_eq_true rfl) rfl dX12_span_138 rfl fun v4 => ?_
  refine v_ifeq (t := 148) (pc' := 144) dX12_span_141 (by decide) rfl ?_ ?_
  · refine v_iconst (v := 0) (pc' := 149) dX12_span_148 rfl rfl ?_
    refine V.sub [2, 3, 4, 5, 6, 7, 8, 1, 0, 10] rfl ?_
    exact h_X12_span_b149 g k71 hk71 a0 x1 x2 x3 x4 x5 x6 xs0 v1 x10 0 x9
  · refine v_iconst (v := 1) (pc' := 145) dX12_span_144 rfl rfl ?_
    refine v_goto (t := 149) dX12_span_145 (by decide) ?_
    refine V.sub [2, 3, 4, 5, 6, 7, 8, 1, 0, 10] rfl ?_
    exact h_X12_span_b149 g k71 hk71 a0 x1 x2 x3 x4 x5 x6 xs0 v1 x10 1 x9
set_option maxRecDepth 20000 in
theorem h_X12_span_b71 (g : GW) : ∀ n : Nat, ∀ a0 x1 x2 x3 x4 x5 x6 x7 x8 x9 x10, V g mX12_span 14 rtI 71 [(0, rf g a0), (1, .int x1), (2, .int x2), (3, .int x3), (4, .int x4), (5, .int x5), (6, .int x6), (7, .int x7), (8, .int x8), (9, .int x9), (10, .int x10)] [] (f_X12_span_b71 n a0 x1 x2 x3 x4 x5 x6 x7 x8 x9 x10) := by
  intro n
  induction n with
  | zero => intro a0 x1 x2 x3 x4 x5 x6 x7 x8 x9 x10; exact V.vain
  | succ n ih =>
    intro a0 x1 x2 x3 x4 x5 x6 x7 x8 x9 x10
    unfold f_X12_span_b71
    refine v_iload (pc' := 73) 10 dX12_span_71 rfl rfl ?_
    refine v_iload_n (pc' := 74) 2 dX12_span_73 rfl rfl rfl ?_
    refine v_icmpge (t := 158) (pc' := 77) dX12_span_74 (by decide) rfl ?_ ?_
    · refine v_iload (pc' := 160) 5 dX12_span_158 rfl rfl ?_
      refine v_ifne (t := 168) (pc' := 163) dX12_span_160 (by decide) rfl ?_ ?_
      · refine v_iload (pc' := 170) 5 dX12_span_168 rfl rfl ?_
        refine v_iconst (v := 1) (pc' := 171) dX12_span_170 rfl rfl ?_
        refine v_icmpne (t := 179) (pc' := 174) dX12_span_171 (by decide) rfl ?_ ?_
        · refine v_iload (pc' := 181) 9 dX12_span_179 rfl rfl ?_
          exact v_ireturn rfl dX12_span_181
        · refine v_iload (pc' := 176) 8 dX12_span_174 rfl rfl ?_
          refine v_goto (t := 181) dX12_span_176 (by decide) ?_
          exact v_ireturn rfl dX12_span_181
      · refine v_iload (pc' := 165) 7 dX12_span_163 rfl rfl ?_
        refine v_goto (t := 181) dX12_span_165 (by decide) ?_
        exact v_ireturn rfl dX12_span_181
    · refine v_aload_n (pc' := 78) 0 dX12_span_77 rfl rfl rfl ?_
      refine v_iload_n (pc' := 79) 1 dX12_span_78 rfl rfl rfl ?_
      refine v_iload (pc' := 81) 10 dX12_span_79 rfl rfl ?_
      refine v_iadd (pc' := 82) dX12_span_81 rfl ?_
      refine v_iload_n (pc' := 83) 3 dX12_span_82 rfl rfl rfl ?_
      refine v_iload (pc' := 85) 4 dX12_span_83 rfl rfl ?_
      refine v_callV (vs := [.int (x1 + x10), .int x3, .int x4]) (pc' := 88) (h_X12_yearsBy g a0 (x1 + x10) x3 x4) mv_X12_yearsBy wl_X12_388 rfl (Nat.le_of_ble_eq_true rfl) (by omega) (by decide) (Nat.le_of_ble_eq_true rfl) rfl dX12_span_85 rfl fun _ => ?_
      refine v_aload_n (pc' := 89) 0 dX12_span_88 rfl rfl rfl ?_
      refine v_getR (pc' := 92) fl_X12_64 dX12_span_89 rfl fun r5 => ?_
      refine v_bipush (v := 24) (pc' := 94) dX12_span_92 rfl rfl ?_
      refine v_iald (pc' := 95) dX12_span_94 rfl fun v6 => ?_
      refine v_istore (lv' := [(11, .int v6), (0, rf g a0), (1, .int x1), (2, .int x2), (3, .int x3), (4, .int x4), (5, .int x5), (6, .int x6), (7, .int x7), (8, .int x8), (9, .int x9), (10, .int x10)]) (pc' := 97) dX12_span_95 (by decide) rfl rfl ?_
      refine v_iload (pc' := 99) 8 dX12_span_97 rfl rfl ?_
      refine v_iconst (v := -1) (pc' := 100) dX12_span_99 rfl rfl ?_
      refine v_icmpne (t := 108) (pc' := 103) dX12_span_100 (by decide) rfl ?_ ?_
      · refine v_iload (pc' := 110) 8 dX12_span_108 rfl rfl ?_
        refine v_iload (pc' := 112) 0 dX12_span_110 rfl rfl ?_
        refine v_callS (vs := [.int x7, .int v6]) (pc' := 115) (h_X12_less g x7 v6) ms_X12_less wl_X12_227 (Nat.le_of_ble_eq_true rfl) (by omega) (by decide) (Nat.le_of_ble_eq_true rfl) rfl dX12_span_112 rfl fun v7 => ?_
        refine V.sub [1, 2, 3, 4, 5, 6, 7, 9, 10, 11, 0] rfl ?_
        exact h_X12_span_b115 g (f_X12_span_b71 n) ih a0 x1 x2 x3 x4 x5 x6 x8 x9 x10 v6 v7
      · refine v_iload (pc' := 105) 0 dX12_span_103 rfl rfl ?_
        refine v_goto (t := 115) dX12_span_105 (by decide) ?_
        refine V.sub [1, 2, 3, 4, 5, 6, 7, 9, 10, 11, 0] rfl ?_
        exact h_X12_span_b115 g (f_X12_span_b71 n) ih a0 x1 x2 x3 x4 x5 x6 x8 x9 x10 v6 v6
set_option maxRecDepth 20000 in
theorem h_X12_span_b49 (g : GW) (a0 : Nat) (x1 : Int32) (x2 : Int32) (x3 : Int32) (x4 : Int32) (x5 : Int32) (x6 : Int32) (xs0 : Int32) (as1 : Nat) : V g mX12_span 14 rtI 49 [(0, rf g a0), (1, .int x1), (2, .int x2), (3, .int x3), (4, .int x4), (5, .int x5), (6, .int x6)] [.int xs0, rf g as1] (f_X12_span_b49 a0 x1 x2 x3 x4 x5 x6 xs0 as1) := by
  unfold f_X12_span_b49
  refine v_iconst (v := 1) (pc' := 50) dX12_span_49 rfl rfl ?_
  refine v_iconst (v := 1) (pc' := 51) dX12_span_50 rfl rfl ?_
  refine v_callV (vs := [.int xs0, .int 1, .int 1]) (pc' := 54) (h_X12_bad g as1 xs0 1 1) mv_X12_bad wl_X12_167 rfl (Nat.le_of_ble_eq_true rfl) (by omega) (by decide) (Nat.le_of_ble_eq_true rfl) rfl dX12_span_51 rfl fun v8 => ?_
  refine v_ifeq (t := 59) (pc' := 57) dX12_span_54 (by decide) rfl ?_ ?_
  · refine v_iconst (v := -1) (pc' := 60) dX12_span_59 rfl rfl ?_
    refine v_istore (lv' := [(7, .int (-1)), (0, rf g a0), (1, .int x1), (2, .int x2), (3, .int x3), (4, .int x4), (5, .int x5), (6, .int x6)]) (pc' := 62) dX12_span_60 (by decide) rfl rfl ?_
    refine v_iconst (v := 0) (pc' := 63) dX12_span_62 rfl rfl ?_
    refine v_istore (lv' := [(8, .int 0), (7, .int (-1)), (0, rf g a0), (1, .int x1), (2, .int x2), (3, .int x3), (4, .int x4), (5, .int x5), (6, .int x6)]) (pc' := 65) dX12_span_63 (by decide) rfl rfl ?_
    refine v_iconst (v := 0) (pc' := 66) dX12_span_65 rfl rfl ?_
    refine v_istore (lv' := [(9, .int 0), (8, .int 0), (7, .int (-1)), (0, rf g a0), (1, .int x1), (2, .int x2), (3, .int x3), (4, .int x4), (5, .int x5), (6, .int x6)]) (pc' := 68) dX12_span_66 (by decide) rfl rfl ?_
    refine v_iconst (v := 0) (pc' := 69) dX12_span_68 rfl rfl ?_
    refine v_istore (lv' := [(10, .int 0), (9, .int 0), (8, .int 0), (7, .int (-1)), (0, rf g a0), (1, .int x1), (2, .int x2), (3, .int x3), (4, .int x4), (5, .int x5), (6, .int x6)]) (pc' := 71) dX12_span_69 (by decide) rfl rfl ?_
    refine V.sub [4, 5, 6, 7, 8, 9, 10, 3, 2, 1, 0] rfl ?_
    exact h_X12_span_b71 g NF a0 x1 x2 x3 x4 x5 x6 (-1) 0 0 0
  · refine v_iconst (v := 0) (pc' := 58) dX12_span_57 rfl rfl ?_
    exact v_ireturn rfl dX12_span_58
set_option maxRecDepth 20000 in
theorem h_X12_span_b44 (g : GW) (a0 : Nat) (x1 : Int32) (x2 : Int32) (x3 : Int32) (x4 : Int32) (x5 : Int32) (x6 : Int32) (as0 : Nat) : V g mX12_span 14 rtI 44 [(0, rf g a0), (1, .int x1), (2, .int x2), (3, .int x3), (4, .int x4), (5, .int x5), (6, .int x6)] [rf g as0] (f_X12_span_b44 a0 x1 x2 x3 x4 x5 x6 as0) := by
  unfold f_X12_span_b44
  refine v_iconst (v := 1) (pc' := 45) dX12_span_44 rfl rfl ?_
  refine v_goto (t := 49) dX12_span_45 (by decide) ?_
  refine V.sub [0, 1, 2, 3, 4, 5, 6] rfl ?_
  exact h_X12_span_b49 g a0 x1 x2 x3 x4 x5 x6 1 as0
set_option maxRecDepth 20000 in
theorem h_X12_span (g : GW) (a0 : Nat) (x1 : Int32) (x2 : Int32) (x3 : Int32) (x4 : Int32) (x5 : Int32) (x6 : Int32) : V g mX12_span 14 rtI 0 [(0, rf g a0), (1, .int x1), (2, .int x2), (3, .int x3), (4, .int x4), (5, .int x5), (6, .int x6)] [] (f_X12_span a0 x1 x2 x3 x4 x5 x6) := by
  unfold f_X12_span
  refine v_aload_n (pc' := 1) 0 dX12_span_0 rfl rfl rfl ?_
  refine v_iconst (v := 0) (pc' := 2) dX12_span_1 rfl rfl ?_
  refine v_put (v := (.int 0)) (v' := .int 0) (pc' := 5) fw_X12_94 rfl rfl rfl (fun h => nomatch h) dX12_span_2 rfl ?_
  refine v_aload_n (pc' := 6) 0 dX12_span_5 rfl rfl rfl ?_
  refine v_iload_n (pc' := 7) 2 dX12_span_6 rfl rfl rfl ?_
  refine v_iconst (v := 1) (pc' := 8) dX12_span_7 rfl rfl ?_
  refine v_bipush (v := 20) (pc' := 10) dX12_span_8 rfl rfl ?_
  refine v_callS (vs := [.int x2, .int 1, .int 20]) (pc' := 13) (h_X12_in g x2 1 20) ms_X12_in wl_X12_128 (Nat.le_of_ble_eq_true rfl) (by omega) (by decide) (Nat.le_of_ble_eq_true rfl) rfl dX12_span_10 rfl fun v9 => ?_
  refine v_ifeq (t := 44) (pc' := 16) dX12_span_13 (by decide) rfl ?_ ?_
  · refine V.sub [0, 1, 2, 3, 4, 5, 6] rfl ?_
    exact h_X12_span_b44 g a0 x1 x2 x3 x4 x5 x6 a0
  · refine v_iload_n (pc' := 17) 3 dX12_span_16 rfl rfl rfl ?_
    refine v_iload (pc' := 19) 4 dX12_span_17 rfl rfl ?_
    refine v_callS (vs := [.int x3, .int x4]) (pc' := 22) (h_X12_areYears g x3 x4) ms_X12_areYears wl_X12_385 (Nat.le_of_ble_eq_true rfl) (by omega) (by decide) (Nat.le_of_ble_eq_true rfl) rfl dX12_span_19 rfl fun v10 => ?_
    refine v_ifeq (t := 44) (pc' := 25) dX12_span_22 (by decide) rfl ?_ ?_
    · refine V.sub [0, 1, 2, 3, 4, 5, 6] rfl ?_
      exact h_X12_span_b44 g a0 x1 x2 x3 x4 x5 x6 a0
    · refine v_iload (pc' := 27) 5 dX12_span_25 rfl rfl ?_
      refine v_iconst (v := 0) (pc' := 28) dX12_span_27 rfl rfl ?_
      refine v_iconst (v := 2) (pc' := 29) dX12_span_28 rfl rfl ?_
      refine v_callS (vs := [.int x5, .int 0, .int 2]) (pc' := 32) (h_X12_in g x5 0 2) ms_X12_in wl_X12_128 (Nat.le_of_ble_eq_true rfl) (by omega) (by decide) (Nat.le_of_ble_eq_true rfl) rfl dX12_span_29 rfl fun v11 => ?_
      refine v_ifeq (t := 44) (pc' := 35) dX12_span_32 (by decide) rfl ?_ ?_
      · refine V.sub [0, 1, 2, 3, 4, 5, 6] rfl ?_
        exact h_X12_span_b44 g a0 x1 x2 x3 x4 x5 x6 a0
      · refine v_aload_n (pc' := 36) 0 dX12_span_35 rfl rfl rfl ?_
        refine v_iload (pc' := 38) 6 dX12_span_36 rfl rfl ?_
        refine v_callV (vs := [.int x6]) (pc' := 41) (h_X12_isPerson g a0 x6) mv_X12_isPerson wl_X12_296 rfl (Nat.le_of_ble_eq_true rfl) (by omega) (by decide) (Nat.le_of_ble_eq_true rfl) rfl dX12_span_38 rfl fun v12 => ?_
        refine v_ifne (t := 48) (pc' := 44) dX12_span_41 (by decide) rfl ?_ ?_
        · refine v_iconst (v := 0) (pc' := 49) dX12_span_48 rfl rfl ?_
          refine V.sub [0, 1, 2, 3, 4, 5, 6] rfl ?_
          exact h_X12_span_b49 g a0 x1 x2 x3 x4 x5 x6 0 a0
        · refine V.sub [0, 1, 2, 3, 4, 5, 6] rfl ?_
          exact h_X12_span_b44 g a0 x1 x2 x3 x4 x5 x6 a0
-- puts
def f_X12_puts_b11 (a0 : Nat) (a1 : Nat) : Mo Int32 := bd (gI 12 35 a0) fun v1 => bd (pf 12 35 a0 (.int (v1 + (1 : Int32)))) fun _ => bd (gI 12 35 a0) fun v2 => bd (al 0 a1 (v2 - (1 : Int32))) fun v3 => pu v3
def f_X12_puts (a0 : Nat) (a1 : Nat) (x2 : Int32) (x3 : Int32) : Mo Int32 := if (x3 = 0 : Prop) then (bd (gI 12 35 a0) fun v4 => bd (as_ a1 v4 x2) fun _ => f_X12_puts_b11 a0 a1) else f_X12_puts_b11 a0 a1
set_option maxRecDepth 20000 in
theorem h_X12_puts_b11 (g : GW) (a0 : Nat) (a1 : Nat) : V g mX12_puts 8 rtI 11 [(0, rf g a0), (1, rf g a1)] [] (f_X12_puts_b11 a0 a1) := by
  unfold f_X12_puts_b11
  refine v_aload_n (pc' := 12) 0 dX12_puts_11 rfl rfl rfl ?_
  refine v_dup (pc' := 13) dX12_puts_12 rfl rfl ?_
  refine v_getI (pc' := 16) fl_X12_391 dX12_puts_13 rfl fun v1 => ?_
  refine v_iconst (v := 1) (pc' := 17) dX12_puts_16 rfl rfl ?_
  refine v_iadd (pc' := 18) dX12_puts_17 rfl ?_
  refine v_put (v := (.int (v1 + (1 : Int32)))) (v' := .int (v1 + (1 : Int32))) (pc' := 21) fw_X12_391 rfl rfl rfl (fun h => nomatch h) dX12_puts_18 rfl ?_
  refine v_aload_n (pc' := 22) 1 dX12_puts_21 rfl rfl rfl ?_
  refine v_aload_n (pc' := 23) 0 dX12_puts_22 rfl rfl rfl ?_
  refine v_getI (pc' := 26) fl_X12_391 dX12_puts_23 rfl fun v2 => ?_
  refine v_iconst (v := 1) (pc' := 27) dX12_puts_26 rfl rfl ?_
  refine v_isub (pc' := 28) dX12_puts_27 rfl ?_
  refine v_iald (pc' := 29) dX12_puts_28 rfl fun v3 => ?_
  exact v_ireturn rfl dX12_puts_29
set_option maxRecDepth 20000 in
theorem h_X12_puts (g : GW) (a0 : Nat) (a1 : Nat) (x2 : Int32) (x3 : Int32) : V g mX12_puts 8 rtI 0 [(0, rf g a0), (1, rf g a1), (2, .int x2), (3, .int x3)] [] (f_X12_puts a0 a1 x2 x3) := by
  unfold f_X12_puts
  refine v_iload_n (pc' := 1) 3 dX12_puts_0 rfl rfl rfl ?_
  refine v_ifne (t := 11) (pc' := 4) dX12_puts_1 (by decide) rfl ?_ ?_
  · refine V.sub [0, 1] rfl ?_
    exact h_X12_puts_b11 g a0 a1
  · refine v_aload_n (pc' := 5) 1 dX12_puts_4 rfl rfl rfl ?_
    refine v_aload_n (pc' := 6) 0 dX12_puts_5 rfl rfl rfl ?_
    refine v_getI (pc' := 9) fl_X12_391 dX12_puts_6 rfl fun v4 => ?_
    refine v_iload_n (pc' := 10) 2 dX12_puts_9 rfl rfl rfl ?_
    refine v_iast (pc' := 11) dX12_puts_10 rfl ?_
    refine V.sub [0, 1] rfl ?_
    exact h_X12_puts_b11 g a0 a1
-- putsAll
def f_X12_putsAll_b63 (k54 : Nat → Nat → Int32 → Int32 → Mo Unit) : Nat → Nat → Nat → Int32 → Int32 → Int32 → Mo Unit
  | 0, _, _, _, _, _ => fl
  | n + 1, a0, a1, x2, x3, x4 => if (228 ≤ x4 : Prop) then (k54 a0 a1 x2 (x3 + 1)) else bd (gR 12 29 a0) fun r1 => bd (aR 3 r1 x3) fun r2 => bd (gR 12 29 a0) fun r3 => bd (aR 3 r3 x3) fun r4 => bd (al 0 r4 x4) fun v5 => bd (cv 12 a0 (f_X12_puts a0 a1 v5 x2)) fun v6 => bd (as_ r2 x4 v6) fun _ => (f_X12_putsAll_b63 k54 n) a0 a1 x2 x3 (x4 + 1)
def f_X12_putsAll_b54 : Nat → Nat → Nat → Int32 → Int32 → Mo Unit
  | 0, _, _, _, _ => fl
  | n + 1, a0, a1, x2, x3 => if (16 ≤ x3 : Prop) then (pu ()) else f_X12_putsAll_b63 (f_X12_putsAll_b54 n) NF a0 a1 x2 x3 0
def f_X12_putsAll_b21 : Nat → Nat → Nat → Int32 → Int32 → Mo Unit
  | 0, _, _, _, _ => fl
  | n + 1, a0, a1, x2, x3 => if (228 ≤ x3 : Prop) then (f_X12_putsAll_b54 NF a0 a1 x2 0) else bd (gR 12 27 a0) fun r7 => bd (gR 12 27 a0) fun r8 => bd (al 0 r8 x3) fun v9 => bd (cv 12 a0 (f_X12_puts a0 a1 v9 x2)) fun v10 => bd (as_ r7 x3 v10) fun _ => (f_X12_putsAll_b21 n) a0 a1 x2 (x3 + 1)
def f_X12_putsAll (a0 : Nat) (a1 : Nat) (x2 : Int32) : Mo Unit := bd (pf 12 35 a0 (.int 0)) fun _ => bd (gI 12 32 a0) fun v11 => bd (cv 12 a0 (f_X12_puts a0 a1 v11 x2)) fun v12 => bd (pf 12 32 a0 (.int v12)) fun _ => f_X12_putsAll_b21 NF a0 a1 x2 0
set_option maxRecDepth 20000 in
theorem h_X12_putsAll_b63 (g : GW) (k54 : Nat → Nat → Int32 → Int32 → Mo Unit) (hk54 : ∀ a0 a1 x2 x3, V g mX12_putsAll 9 rtU 54 [(0, rf g a0), (1, rf g a1), (2, .int x2), (3, .int x3)] [] (k54 a0 a1 x2 x3)) : ∀ n : Nat, ∀ a0 a1 x2 x3 x4, V g mX12_putsAll 9 rtU 63 [(0, rf g a0), (1, rf g a1), (2, .int x2), (3, .int x3), (4, .int x4)] [] (f_X12_putsAll_b63 k54 n a0 a1 x2 x3 x4) := by
  intro n
  induction n with
  | zero => intro a0 a1 x2 x3 x4; exact V.vain
  | succ n ih =>
    intro a0 a1 x2 x3 x4
    unfold f_X12_putsAll_b63
    refine v_iload (pc' := 65) 4 dX12_putsAll_63 rfl rfl ?_
    refine v_sipush (v := 228) (pc' := 68) dX12_putsAll_65 rfl rfl ?_
    refine v_icmpge (t := 101) (pc' := 71) dX12_putsAll_68 (by decide) rfl ?_ ?_
    · refine v_iinc (v := x3 + 1) (lv' := [(3, .int (x3 + 1)), (0, rf g a0), (1, rf g a1), (2, .int x2), (4, .int x4)]) (pc' := 104) 3 dX12_putsAll_101 rfl rfl (by decide) rfl rfl ?_
      refine v_goto (t := 54) dX12_putsAll_104 (by decide) ?_
      refine V.sub [1, 2, 3, 0] rfl ?_
      exact hk54 a0 a1 x2 (x3 + 1)
    · refine v_aload_n (pc' := 72) 0 dX12_putsAll_71 rfl rfl rfl ?_
      refine v_getR (pc' := 75) fl_X12_67 dX12_putsAll_72 rfl fun r1 => ?_
      refine v_iload_n (pc' := 76) 3 dX12_putsAll_75 rfl rfl rfl ?_
      refine v_aaldR (pc' := 77) dX12_putsAll_76 rfl fun r2 => ?_
      refine v_iload (pc' := 79) 4 dX12_putsAll_77 rfl rfl ?_
      refine v_aload_n (pc' := 80) 0 dX12_putsAll_79 rfl rfl rfl ?_
      refine v_aload_n (pc' := 81) 1 dX12_putsAll_80 rfl rfl rfl ?_
      refine v_aload_n (pc' := 82) 0 dX12_putsAll_81 rfl rfl rfl ?_
      refine v_getR (pc' := 85) fl_X12_67 dX12_putsAll_82 rfl fun r3 => ?_
      refine v_iload_n (pc' := 86) 3 dX12_putsAll_85 rfl rfl rfl ?_
      refine v_aaldR (pc' := 87) dX12_putsAll_86 rfl fun r4 => ?_
      refine v_iload (pc' := 89) 4 dX12_putsAll_87 rfl rfl ?_
      refine v_iald (pc' := 90) dX12_putsAll_89 rfl fun v5 => ?_
      refine v_iload_n (pc' := 91) 2 dX12_putsAll_90 rfl rfl rfl ?_
      refine v_callV (vs := [rf g a1, .int v5, .int x2]) (pc' := 94) (h_X12_puts g a0 a1 v5 x2) mv_X12_puts wl_X12_394 rfl (Nat.le_of_ble_eq_true rfl) (by omega) (by decide) (Nat.le_of_ble_eq_true rfl) rfl dX12_putsAll_91 rfl fun v6 => ?_
      refine v_iast (pc' := 95) dX12_putsAll_94 rfl ?_
      refine v_iinc (v := x4 + 1) (lv' := [(4, .int (x4 + 1)), (0, rf g a0), (1, rf g a1), (2, .int x2), (3, .int x3)]) (pc' := 98) 4 dX12_putsAll_95 rfl rfl (by decide) rfl rfl ?_
      refine v_goto (t := 63) dX12_putsAll_98 (by decide) ?_
      refine V.sub [1, 2, 3, 4, 0] rfl ?_
      exact ih a0 a1 x2 x3 (x4 + 1)
set_option maxRecDepth 20000 in
theorem h_X12_putsAll_b54 (g : GW) : ∀ n : Nat, ∀ a0 a1 x2 x3, V g mX12_putsAll 9 rtU 54 [(0, rf g a0), (1, rf g a1), (2, .int x2), (3, .int x3)] [] (f_X12_putsAll_b54 n a0 a1 x2 x3) := by
  intro n
  induction n with
  | zero => intro a0 a1 x2 x3; exact V.vain
  | succ n ih =>
    intro a0 a1 x2 x3
    unfold f_X12_putsAll_b54
    refine v_iload_n (pc' := 55) 3 dX12_putsAll_54 rfl rfl rfl ?_
    refine v_bipush (v := 16) (pc' := 57) dX12_putsAll_55 rfl rfl ?_
    refine v_icmpge (t := 107) (pc' := 60) dX12_putsAll_57 (by decide) rfl ?_ ?_
    · exact v_return rfl dX12_putsAll_107
    · refine v_iconst (v := 0) (pc' := 61) dX12_putsAll_60 rfl rfl ?_
      refine v_istore (lv' := [(4, .int 0), (0, rf g a0), (1, rf g a1), (2, .int x2), (3, .int x3)]) (pc' := 63) dX12_putsAll_61 (by decide) rfl rfl ?_
      refine V.sub [1, 2, 3, 4, 0] rfl ?_
      exact h_X12_putsAll_b63 g (f_X12_putsAll_b54 n) ih NF a0 a1 x2 x3 0
set_option maxRecDepth 20000 in
theorem h_X12_putsAll_b21 (g : GW) : ∀ n : Nat, ∀ a0 a1 x2 x3, V g mX12_putsAll 9 rtU 21 [(0, rf g a0), (1, rf g a1), (2, .int x2), (3, .int x3)] [] (f_X12_putsAll_b21 n a0 a1 x2 x3) := by
  intro n
  induction n with
  | zero => intro a0 a1 x2 x3; exact V.vain
  | succ n ih =>
    intro a0 a1 x2 x3
    unfold f_X12_putsAll_b21
    refine v_iload_n (pc' := 22) 3 dX12_putsAll_21 rfl rfl rfl ?_
    refine v_sipush (v := 228) (pc' := 25) dX12_putsAll_22 rfl rfl ?_
    refine v_icmpge (t := 52) (pc' := 28) dX12_putsAll_25 (by decide) rfl ?_ ?_
    · refine v_iconst (v := 0) (pc' := 53) dX12_putsAll_52 rfl rfl ?_
      refine v_istore_n (lv' := [(3, .int 0), (0, rf g a0), (1, rf g a1), (2, .int x2)]) (pc' := 54) dX12_putsAll_53 rfl (by decide) rfl rfl ?_
      refine V.sub [1, 2, 3, 0] rfl ?_
      exact h_X12_putsAll_b54 g NF a0 a1 x2 0
    · refine v_aload_n (pc' := 29) 0 dX12_putsAll_28 rfl rfl rfl ?_
      refine v_getR (pc' := 32) fl_X12_61 dX12_putsAll_29 rfl fun r7 => ?_
      refine v_iload_n (pc' := 33) 3 dX12_putsAll_32 rfl rfl rfl ?_
      refine v_aload_n (pc' := 34) 0 dX12_putsAll_33 rfl rfl rfl ?_
      refine v_aload_n (pc' := 35) 1 dX12_putsAll_34 rfl rfl rfl ?_
      refine v_aload_n (pc' := 36) 0 dX12_putsAll_35 rfl rfl rfl ?_
      refine v_getR (pc' := 39) fl_X12_61 dX12_putsAll_36 rfl fun r8 => ?_
      refine v_iload_n (pc' := 40) 3 dX12_putsAll_39 rfl rfl rfl ?_
      refine v_iald (pc' := 41) dX12_putsAll_40 rfl fun v9 => ?_
      refine v_iload_n (pc' := 42) 2 dX12_putsAll_41 rfl rfl rfl ?_
      refine v_callV (vs := [rf g a1, .int v9, .int x2]) (pc' := 45) (h_X12_puts g a0 a1 v9 x2) mv_X12_puts wl_X12_394 rfl (Nat.le_of_ble_eq_true rfl) (by omega) (by decide) (Nat.le_of_ble_eq_true rfl) rfl dX12_putsAll_42 rfl fun v10 => ?_
      refine v_iast (pc' := 46) dX12_putsAll_45 rfl ?_
      refine v_iinc (v := x3 + 1) (lv' := [(3, .int (x3 + 1)), (0, rf g a0), (1, rf g a1), (2, .int x2)]) (pc' := 49) 3 dX12_putsAll_46 rfl rfl (by decide) rfl rfl ?_
      refine v_goto (t := 21) dX12_putsAll_49 (by decide) ?_
      refine V.sub [1, 2, 3, 0] rfl ?_
      exact ih a0 a1 x2 (x3 + 1)
set_option maxRecDepth 20000 in
theorem h_X12_putsAll (g : GW) (a0 : Nat) (a1 : Nat) (x2 : Int32) : V g mX12_putsAll 9 rtU 0 [(0, rf g a0), (1, rf g a1), (2, .int x2)] [] (f_X12_putsAll a0 a1 x2) := by
  unfold f_X12_putsAll
  refine v_aload_n (pc' := 1) 0 dX12_putsAll_0 rfl rfl rfl ?_
  refine v_iconst (v := 0) (pc' := 2) dX12_putsAll_1 rfl rfl ?_
  refine v_put (v := (.int 0)) (v' := .int 0) (pc' := 5) fw_X12_391 rfl rfl rfl (fun h => nomatch h) dX12_putsAll_2 rfl ?_
  refine v_aload_n (pc' := 6) 0 dX12_putsAll_5 rfl rfl rfl ?_
  refine v_aload_n (pc' := 7) 0 dX12_putsAll_6 rfl rfl rfl ?_
  refine v_aload_n (pc' := 8) 1 dX12_putsAll_7 rfl rfl rfl ?_
  refine v_aload_n (pc' := 9) 0 dX12_putsAll_8 rfl rfl rfl ?_
  refine v_getI (pc' := 12) fl_X12_190 dX12_putsAll_9 rfl fun v11 => ?_
  refine v_iload_n (pc' := 13) 2 dX12_putsAll_12 rfl rfl rfl ?_
  refine v_callV (vs := [rf g a1, .int v11, .int x2]) (pc' := 16) (h_X12_puts g a0 a1 v11 x2) mv_X12_puts wl_X12_394 rfl (Nat.le_of_ble_eq_true rfl) (by omega) (by decide) (Nat.le_of_ble_eq_true rfl) rfl dX12_putsAll_13 rfl fun v12 => ?_
  refine v_put (v := (.int v12)) (v' := .int v12) (pc' := 19) fw_X12_190 rfl rfl rfl (fun h => nomatch h) dX12_putsAll_16 rfl ?_
  refine v_iconst (v := 0) (pc' := 20) dX12_putsAll_19 rfl rfl ?_
  refine v_istore_n (lv' := [(3, .int 0), (0, rf g a0), (1, rf g a1), (2, .int x2)]) (pc' := 21) dX12_putsAll_20 rfl (by decide) rfl rfl ?_
  refine V.sub [1, 2, 3, 0] rfl ?_
  exact h_X12_putsAll_b21 g NF a0 a1 x2 0
-- image
def f_X12_image (a0 : Nat) : Mo Int32 := bd (pf 12 0 a0 (.int 0)) fun _ => bd (gI 12 34 a0) fun v1 => if (v1 = 3 : Prop) then (pu (-1)) else bd (gR 12 30 a0) fun r2 => bd (gI 12 34 a0) fun v3 => bd (aR 3 r2 v3) fun r4 => bd (cv 12 a0 (f_X12_putsAll a0 r4 0)) fun _ => bd (gI 12 34 a0) fun v5 => bd (pf 12 34 a0 (.int (v5 + (1 : Int32)))) fun _ => bd (gI 12 34 a0) fun v6 => pu v6
set_option maxRecDepth 20000 in
theorem h_X12_image (g : GW) (a0 : Nat) : V g mX12_image 10 rtI 0 [(0, rf g a0)] [] (f_X12_image a0) := by
  unfold f_X12_image
  refine v_aload_n (pc' := 1) 0 dX12_image_0 rfl rfl rfl ?_
  refine v_iconst (v := 0) (pc' := 2) dX12_image_1 rfl rfl ?_
  refine v_put (v := (.int 0)) (v' := .int 0) (pc' := 5) fw_X12_94 rfl rfl rfl (fun h => nomatch h) dX12_image_2 rfl ?_
  refine v_aload_n (pc' := 6) 0 dX12_image_5 rfl rfl rfl ?_
  refine v_getI (pc' := 9) fl_X12_196 dX12_image_6 rfl fun v1 => ?_
  refine v_iconst (v := 3) (pc' := 10) dX12_image_9 rfl rfl ?_
  refine v_icmpne (t := 15) (pc' := 13) dX12_image_10 (by decide) rfl ?_ ?_
  · refine v_aload_n (pc' := 16) 0 dX12_image_15 rfl rfl rfl ?_
    refine v_aload_n (pc' := 17) 0 dX12_image_16 rfl rfl rfl ?_
    refine v_getR (pc' := 20) fl_X12_70 dX12_image_17 rfl fun r2 => ?_
    refine v_aload_n (pc' := 21) 0 dX12_image_20 rfl rfl rfl ?_
    refine v_getI (pc' := 24) fl_X12_196 dX12_image_21 rfl fun v3 => ?_
    refine v_aaldR (pc' := 25) dX12_image_24 rfl fun r4 => ?_
    refine v_iconst (v := 0) (pc' := 26) dX12_image_25 rfl rfl ?_
    refine v_callV (vs := [rf g r4, .int 0]) (pc' := 29) (h_X12_putsAll g a0 r4 0) mv_X12_putsAll wl_X12_398 rfl (Nat.le_of_ble_eq_true rfl) (by omega) (by decide) (Nat.le_of_ble_eq_true rfl) rfl dX12_image_26 rfl fun _ => ?_
    refine v_aload_n (pc' := 30) 0 dX12_image_29 rfl rfl rfl ?_
    refine v_dup (pc' := 31) dX12_image_30 rfl rfl ?_
    refine v_getI (pc' := 34) fl_X12_196 dX12_image_31 rfl fun v5 => ?_
    refine v_iconst (v := 1) (pc' := 35) dX12_image_34 rfl rfl ?_
    refine v_iadd (pc' := 36) dX12_image_35 rfl ?_
    refine v_put (v := (.int (v5 + (1 : Int32)))) (v' := .int (v5 + (1 : Int32))) (pc' := 39) fw_X12_196 rfl rfl rfl (fun h => nomatch h) dX12_image_36 rfl ?_
    refine v_aload_n (pc' := 40) 0 dX12_image_39 rfl rfl rfl ?_
    refine v_getI (pc' := 43) fl_X12_196 dX12_image_40 rfl fun v6 => ?_
    exact v_ireturn rfl dX12_image_43
  · refine v_iconst (v := -1) (pc' := 14) dX12_image_13 rfl rfl ?_
    exact v_ireturn rfl dX12_image_14
-- restore
def f_X12_restore (a0 : Nat) : Mo Int32 := bd (pf 12 0 a0 (.int 0)) fun _ => bd (gI 12 34 a0) fun v1 => if (v1 = 0 : Prop) then (pu (-1)) else bd (gI 12 34 a0) fun v2 => bd (pf 12 34 a0 (.int (v2 - (1 : Int32)))) fun _ => bd (gR 12 30 a0) fun r3 => bd (gI 12 34 a0) fun v4 => bd (aR 3 r3 v4) fun r5 => bd (cv 12 a0 (f_X12_putsAll a0 r5 1)) fun _ => bd (pf 12 33 a0 (.int 0)) fun _ => bd (gI 12 34 a0) fun v6 => pu v6
set_option maxRecDepth 20000 in
theorem h_X12_restore (g : GW) (a0 : Nat) : V g mX12_restore 10 rtI 0 [(0, rf g a0)] [] (f_X12_restore a0) := by
  unfold f_X12_restore
  refine v_aload_n (pc' := 1) 0 dX12_restore_0 rfl rfl rfl ?_
  refine v_iconst (v := 0) (pc' := 2) dX12_restore_1 rfl rfl ?_
  refine v_put (v := (.int 0)) (v' := .int 0) (pc' := 5) fw_X12_94 rfl rfl rfl (fun h => nomatch h) dX12_restore_2 rfl ?_
  refine v_aload_n (pc' := 6) 0 dX12_restore_5 rfl rfl rfl ?_
  refine v_getI (pc' := 9) fl_X12_196 dX12_restore_6 rfl fun v1 => ?_
  refine v_ifne (t := 14) (pc' := 12) dX12_restore_9 (by decide) rfl ?_ ?_
  · refine v_aload_n (pc' := 15) 0 dX12_restore_14 rfl rfl rfl ?_
    refine v_dup (pc' := 16) dX12_restore_15 rfl rfl ?_
    refine v_getI (pc' := 19) fl_X12_196 dX12_restore_16 rfl fun v2 => ?_
    refine v_iconst (v := 1) (pc' := 20) dX12_restore_19 rfl rfl ?_
    refine v_isub (pc' := 21) dX12_restore_20 rfl ?_
    refine v_put (v := (.int (v2 - (1 : Int32)))) (v' := .int (v2 - (1 : Int32))) (pc' := 24) fw_X12_196 rfl rfl rfl (fun h => nomatch h) dX12_restore_21 rfl ?_
    refine v_aload_n (pc' := 25) 0 dX12_restore_24 rfl rfl rfl ?_
    refine v_aload_n (pc' := 26) 0 dX12_restore_25 rfl rfl rfl ?_
    refine v_getR (pc' := 29) fl_X12_70 dX12_restore_26 rfl fun r3 => ?_
    refine v_aload_n (pc' := 30) 0 dX12_restore_29 rfl rfl rfl ?_
    refine v_getI (pc' := 33) fl_X12_196 dX12_restore_30 rfl fun v4 => ?_
    refine v_aaldR (pc' := 34) dX12_restore_33 rfl fun r5 => ?_
    refine v_iconst (v := 1) (pc' := 35) dX12_restore_34 rfl rfl ?_
    refine v_callV (vs := [rf g r5, .int 1]) (pc' := 38) (h_X12_putsAll g a0 r5 1) mv_X12_putsAll wl_X12_398 rfl (Nat.le_of_ble_eq_true rfl) (by omega) (by decide) (Nat.le_of_ble_eq_true rfl) rfl dX12_restore_35 rfl fun _ => ?_
    refine v_aload_n (pc' := 39) 0 dX12_restore_38 rfl rfl rfl ?_
    refine v_iconst (v := 0) (pc' := 40) dX12_restore_39 rfl rfl ?_
    refine v_put (v := (.int 0)) (v' := .int 0) (pc' := 43) fw_X12_193 rfl rfl rfl (fun h => nomatch h) dX12_restore_40 rfl ?_
    refine v_aload_n (pc' := 44) 0 dX12_restore_43 rfl rfl rfl ?_
    refine v_getI (pc' := 47) fl_X12_196 dX12_restore_44 rfl fun v6 => ?_
    exact v_ireturn rfl dX12_restore_47
  · refine v_iconst (v := -1) (pc' := 13) dX12_restore_12 rfl rfl ?_
    exact v_ireturn rfl dX12_restore_13
-- status
def f_X12_status (a0 : Nat) (x1 : Int32) : Mo Int32 := bd (pf 12 0 a0 (.int 0)) fun _ => bd (f_X12_in x1 0 1) fun v1 => if (v1 = 0 : Prop) then (pu (-1)) else bd (gR 12 10 a0) fun r2 => bd (al 0 r2 x1) fun v3 => pu v3
set_option maxRecDepth 20000 in
theorem h_X12_status (g : GW) (a0 : Nat) (x1 : Int32) : V g mX12_status 9 rtI 0 [(0, rf g a0), (1, .int x1)] [] (f_X12_status a0 x1) := by
  unfold f_X12_status
  refine v_aload_n (pc' := 1) 0 dX12_status_0 rfl rfl rfl ?_
  refine v_iconst (v := 0) (pc' := 2) dX12_status_1 rfl rfl ?_
  refine v_put (v := (.int 0)) (v' := .int 0) (pc' := 5) fw_X12_94 rfl rfl rfl (fun h => nomatch h) dX12_status_2 rfl ?_
  refine v_iload_n (pc' := 6) 1 dX12_status_5 rfl rfl rfl ?_
  refine v_iconst (v := 0) (pc' := 7) dX12_status_6 rfl rfl ?_
  refine v_iconst (v := 1) (pc' := 8) dX12_status_7 rfl rfl ?_
  refine v_callS (vs := [.int x1, .int 0, .int 1]) (pc' := 11) (h_X12_in g x1 0 1) ms_X12_in wl_X12_128 (Nat.le_of_ble_eq_true rfl) (by omega) (by decide) (Nat.le_of_ble_eq_true rfl) rfl dX12_status_8 rfl fun v1 => ?_
  refine v_ifeq (t := 23) (pc' := 14) dX12_status_11 (by decide) rfl ?_ ?_
  · refine v_iconst (v := -1) (pc' := 24) dX12_status_23 rfl rfl ?_
    exact v_ireturn rfl dX12_status_24
  · refine v_aload_n (pc' := 15) 0 dX12_status_14 rfl rfl rfl ?_
    refine v_getR (pc' := 18) fl_X12_17 dX12_status_15 rfl fun r2 => ?_
    refine v_iload_n (pc' := 19) 1 dX12_status_18 rfl rfl rfl ?_
    refine v_iald (pc' := 20) dX12_status_19 rfl fun v3 => ?_
    refine v_goto (t := 24) dX12_status_20 (by decide) ?_
    exact v_ireturn rfl dX12_status_24
-- count
def f_X12_count (a0 : Nat) (x1 : Int32) : Mo Int32 := bd (pf 12 0 a0 (.int 0)) fun _ => if (x1 = 0 : Prop) then (bd (gI 12 34 a0) fun v3 => pu v3) else if (x1 = 1 : Prop) then (bd (gI 12 1 a0) fun v2 => pu v2) else if (x1 = 2 : Prop) then (bd (gI 12 32 a0) fun v1 => pu v1) else pu (-1)
set_option maxRecDepth 20000 in
theorem h_X12_count (g : GW) (a0 : Nat) (x1 : Int32) : V g mX12_count 8 rtI 0 [(0, rf g a0), (1, .int x1)] [] (f_X12_count a0 x1) := by
  unfold f_X12_count
  refine v_aload_n (pc' := 1) 0 dX12_count_0 rfl rfl rfl ?_
  refine v_iconst (v := 0) (pc' := 2) dX12_count_1 rfl rfl ?_
  refine v_put (v := (.int 0)) (v' := .int 0) (pc' := 5) fw_X12_94 rfl rfl rfl (fun h => nomatch h) dX12_count_2 rfl ?_
  refine v_iload_n (pc' := 6) 1 dX12_count_5 rfl rfl rfl ?_
  refine v_ifne (t := 16) (pc' := 9) dX12_count_6 (by decide) rfl ?_ ?_
  · refine v_iload_n (pc' := 17) 1 dX12_count_16 rfl rfl rfl ?_
    refine v_iconst (v := 1) (pc' := 18) dX12_count_17 rfl rfl ?_
    refine v_icmpne (t := 28) (pc' := 21) dX12_count_18 (by decide) rfl ?_ ?_
    · refine v_iload_n (pc' := 29) 1 dX12_count_28 rfl rfl rfl ?_
      refine v_iconst (v := 2) (pc' := 30) dX12_count_29 rfl rfl ?_
      refine v_icmpne (t := 40) (pc' := 33) dX12_count_30 (by decide) rfl ?_ ?_
      · refine v_iconst (v := -1) (pc' := 41) dX12_count_40 rfl rfl ?_
        exact v_ireturn rfl dX12_count_41
      · refine v_aload_n (pc' := 34) 0 dX12_count_33 rfl rfl rfl ?_
        refine v_getI (pc' := 37) fl_X12_190 dX12_count_34 rfl fun v1 => ?_
        refine v_goto (t := 41) dX12_count_37 (by decide) ?_
        exact v_ireturn rfl dX12_count_41
    · refine v_aload_n (pc' := 22) 0 dX12_count_21 rfl rfl rfl ?_
      refine v_getI (pc' := 25) fl_X12_97 dX12_count_22 rfl fun v2 => ?_
      refine v_goto (t := 41) dX12_count_25 (by decide) ?_
      exact v_ireturn rfl dX12_count_41
  · refine v_aload_n (pc' := 10) 0 dX12_count_9 rfl rfl rfl ?_
    refine v_getI (pc' := 13) fl_X12_196 dX12_count_10 rfl fun v3 => ?_
    refine v_goto (t := 41) dX12_count_13 (by decide) ?_
    exact v_ireturn rfl dX12_count_41
