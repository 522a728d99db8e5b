-- <init>
def f_X0_init (a0 : Nat) (a1 : Nat) : Mo Unit := bd (pf 0 0 a0 (.ref a1)) fun _ => bd (nA 0 8) fun r1 => bd (pf 0 1 a0 (.ref r1)) fun _ => bd (nA 0 8) fun r2 => bd (pf 0 2 a0 (.ref r2)) fun _ => bd (nA 0 8) fun r3 => bd (pf 0 3 a0 (.ref r3)) fun _ => pu ()
set_option maxRecDepth 20000 in
theorem h_X0_init (g : GW) (a0 : Nat) (a1 : Nat) : V g mX0_init 8 rtU 0 [(0, rf g a0), (1, rf g a1)] [] (f_X0_init a0 a1) := by
  unfold f_X0_init
  refine v_aload_n (pc' := 1) 0 dX0_init_0 rfl rfl rfl ?_
  refine v_objInit (pc' := 4) (tg2 15 (by decide +kernel) (by decide +kernel)) wo_inst wo_code (by omega) (Nat.le_of_ble_eq_true rfl) dX0_init_1 rfl ?_
  refine v_aload_n (pc' := 5) 0 dX0_init_4 rfl rfl rfl ?_
  refine v_aload_n (pc' := 6) 1 dX0_init_5 rfl rfl rfl ?_
  refine v_put (v := (.ref a1)) (v' := rf g a1) (pc' := 9) fw_X0_9 rfl rfl rfl (fun _ => rfl) dX0_init_6 rfl ?_
  refine v_aload_n (pc' := 10) 0 dX0_init_9 rfl rfl rfl ?_
  refine v_bipush (v := 8) (pc' := 12) dX0_init_10 rfl rfl ?_
  refine v_newI (pc' := 14) wa_int dX0_init_12 rfl fun r1 => ?_
  refine v_put (v := (.ref r1)) (v' := rf g r1) (pc' := 17) fw_X0_15 rfl rfl rfl (fun _ => rfl) dX0_init_14 rfl ?_
  refine v_aload_n (pc' := 18) 0 dX0_init_17 rfl rfl rfl ?_
  refine v_bipush (v := 8) (pc' := 20) dX0_init_18 rfl rfl ?_
  refine v_newI (pc' := 22) wa_int dX0_init_20 rfl fun r2 => ?_
  refine v_put (v := (.ref r2)) (v' := rf g r2) (pc' := 25) fw_X0_19 rfl rfl rfl (fun _ => rfl) dX0_init_22 rfl ?_
  refine v_aload_n (pc' := 26) 0 dX0_init_25 rfl rfl rfl ?_
  refine v_bipush (v := 8) (pc' := 28) dX0_init_26 rfl rfl ?_
  refine v_newI (pc' := 30) wa_int dX0_init_28 rfl fun r3 => ?_
  refine v_put (v := (.ref r3)) (v' := rf g r3) (pc' := 33) fw_X0_22 rfl rfl rfl (fun _ => rfl) dX0_init_30 rfl ?_
  exact v_return rfl dX0_init_33
-- mayCarry
def f_X0_mayCarry_b46 (k6 : Nat → Nat → Int32 → Int32 → Int32 → Int32 → Mo Int32) (a0 : Nat) (a1 : Nat) (x2 : Int32) (x3 : Int32) (x4 : Int32) (x5 : Int32) : Mo Int32 := k6 a0 a1 x2 x3 x4 (x5 + 1)
def f_X0_mayCarry_b6 : Nat → Nat → Nat → Int32 → Int32 → Int32 → Int32 → Mo Int32
  | 0, _, _, _, _, _, _ => fl
  | n + 1, a0, a1, x2, x3, x4, x5 => if (x2 ≤ x5 : Prop) then (pu x4) else bd (gR 0 0 a0) fun r1 => bd (gR 0 0 a0) fun r2 => bd (gR 2 0 r2) fun r3 => bd (al 0 r3 x3) fun v4 => bd (cv 5 a1 (f_X5_faceOn a1 x5)) fun v5 => bd (cv 2 r1 (f_X2_alike r1 v4 v5)) fun v6 => if (v6 = 0 : Prop) then (f_X0_mayCarry_b46 (f_X0_mayCarry_b6 n) a0 a1 x2 x3 x4 x5) else f_X0_mayCarry_b46 (f_X0_mayCarry_b6 n) a0 a1 x2 x3 (x4 ||| ((1 : Int32) <<< (x5 &&& 31))) x5
def f_X0_mayCarry (a0 : Nat) (a1 : Nat) (x2 : Int32) (x3 : Int32) : Mo Int32 := f_X0_mayCarry_b6 NF a0 a1 x2 x3 0 0
set_option maxRecDepth 20000 in
theorem h_X0_mayCarry_b46 (g : GW) (k6 : Nat → Nat → Int32 → Int32 → Int32 → Int32 → Mo Int32) (hk6 : ∀ a0 a1 x2 x3 x4 x5, V g mX0_mayCarry 9 rtI 6 [(0, rf g a0), (1, rf g a1), (2, .int x2), (3, .int x3), (4, .int x4), (5, .int x5)] [] (k6 a0 a1 x2 x3 x4 x5)) (a0 : Nat) (a1 : Nat) (x2 : Int32) (x3 : Int32) (x4 : Int32) (x5 : Int32) : V g mX0_mayCarry 9 rtI 46 [(0, rf g a0), (1, rf g a1), (2, .int x2), (3, .int x3), (4, .int x4), (5, .int x5)] [] (f_X0_mayCarry_b46 k6 a0 a1 x2 x3 x4 x5) := by
  unfold f_X0_mayCarry_b46
  refine v_iinc (v := x5 + 1) (lv' := [(5, .int (x5 + 1)), (0, rf g a0), (1, rf g a1), (2, .int x2), (3, .int x3), (4, .int x4)]) (pc' := 49) 5 dX0_mayCarry_46 rfl rfl (by decide) rfl rfl ?_
  refine v_goto (t := 6) dX0_mayCarry_49 (by decide) ?_
  refine V.sub [1, 2, 3, 4, 5, 0] rfl ?_
  exact hk6 a0 a1 x2 x3 x4 (x5 + 1)
set_option maxRecDepth 20000 in
theorem h_X0_mayCarry_b6 (g : GW) : ∀ n : Nat, ∀ a0 a1 x2 x3 x4 x5, V g mX0_mayCarry 9 rtI 6 [(0, rf g a0), (1, rf g a1), (2, .int x2), (3, .int x3), (4, .int x4), (5, .int x5)] [] (f_X0_mayCarry_b6 n a0 a1 x2 x3 x4 x5) := by
  intro n
  induction n with
  | zero => intro a0 a1 x2 x3 x4 x5; exact V.vain
  | succ n ih =>
    intro a0 a1 x2 x3 x4 x5
    unfold f_X0_mayCarry_b6
    refine v_iload (pc' := 8) 5 dX0_mayCarry_6 rfl rfl ?_
    refine v_iload_n (pc' := 9) 2 dX0_mayCarry_8 rfl rfl rfl ?_
    refine v_icmpge (t := 52) (pc' := 12) dX0_mayCarry_9 (by decide) rfl ?_ ?_
    · refine v_iload (pc' := 54) 4 dX0_mayCarry_52 rfl rfl ?_
      exact v_ireturn rfl dX0_mayCarry_54
    · refine v_aload_n (pc' := 13) 0 dX0_mayCarry_12 rfl rfl rfl ?_
      refine v_getR (pc' := 16) fl_X0_9 dX0_mayCarry_13 rfl fun r1 => ?_
      refine v_aload_n (pc' := 17) 0 dX0_mayCarry_16 rfl rfl rfl ?_
      refine v_getR (pc' := 20) fl_X0_9 dX0_mayCarry_17 rfl fun r2 => ?_
      refine v_getR (pc' := 23) fl_X0_56 dX0_mayCarry_20 rfl fun r3 => ?_
      refine v_iload_n (pc' := 24) 3 dX0_mayCarry_23 rfl rfl rfl ?_
      refine v_iald (pc' := 25) dX0_mayCarry_24 rfl fun v4 => ?_
      refine v_aload_n (pc' := 26) 1 dX0_mayCarry_25 rfl rfl rfl ?_
      refine v_iload (pc' := 28) 5 dX0_mayCarry_26 rfl rfl ?_
      refine v_callV (vs := [.int x5]) (pc' := 31) (h_X5_faceOn g a1 x5) mv_X5_faceOn wl_X0_59 rfl (Nat.le_of_ble_eq_true rfl) (by omega) (by decide) (Nat.le_of_ble_eq_true rfl) rfl dX0_mayCarry_28 rfl fun v5 => ?_
      refine v_callV (vs := [.int v4, .int v5]) (pc' := 34) (h_X2_alike g r1 v4 v5) mv_X2_alike wl_X0_63 rfl (Nat.le_of_ble_eq_true rfl) (by omega) (by decide) (Nat.le_of_ble_eq_true rfl) rfl dX0_mayCarry_31 rfl fun v6 => ?_
      refine v_ifeq (t := 46) (pc' := 37) dX0_mayCarry_34 (by decide) rfl ?_ ?_
      · refine V.sub [0, 1, 2, 3, 4, 5] rfl ?_
        exact h_X0_mayCarry_b46 g (f_X0_mayCarry_b6 n) ih a0 a1 x2 x3 x4 x5
      · refine v_iload (pc' := 39) 4 dX0_mayCarry_37 rfl rfl ?_
        refine v_iconst (v := 1) (pc' := 40) dX0_mayCarry_39 rfl rfl ?_
        refine v_iload (pc' := 42) 5 dX0_mayCarry_40 rfl rfl ?_
        refine v_ishl (pc' := 43) dX0_mayCarry_42 rfl ?_
        refine v_ior (pc' := 44) dX0_mayCarry_43 rfl ?_
        refine v_istore (lv' := [(4, .int (x4 ||| ((1 : Int32) <<< (x5 &&& 31)))), (0, rf g a0), (1, rf g a1), (2, .int x2), (3, .int x3), (5, .int x5)]) (pc' := 46) dX0_mayCarry_44 (by decide) rfl rfl ?_
        refine V.sub [1, 2, 3, 4, 0, 5] rfl ?_
        exact h_X0_mayCarry_b46 g (f_X0_mayCarry_b6 n) ih a0 a1 x2 x3 (x4 ||| ((1 : Int32) <<< (x5 &&& 31))) x5
set_option maxRecDepth 20000 in
theorem h_X0_mayCarry (g : GW) (a0 : Nat) (a1 : Nat) (x2 : Int32) (x3 : Int32) : V g mX0_mayCarry 9 rtI 0 [(0, rf g a0), (1, rf g a1), (2, .int x2), (3, .int x3)] [] (f_X0_mayCarry a0 a1 x2 x3) := by
  unfold f_X0_mayCarry
  refine v_iconst (v := 0) (pc' := 1) dX0_mayCarry_0 rfl rfl ?_
  refine v_istore (lv' := [(4, .int 0), (0, rf g a0), (1, rf g a1), (2, .int x2), (3, .int x3)]) (pc' := 3) dX0_mayCarry_1 (by decide) rfl rfl ?_
  refine v_iconst (v := 0) (pc' := 4) dX0_mayCarry_3 rfl rfl ?_
  refine v_istore (lv' := [(5, .int 0), (4, .int 0), (0, rf g a0), (1, rf g a1), (2, .int x2), (3, .int x3)]) (pc' := 6) dX0_mayCarry_4 (by decide) rfl rfl ?_
  refine V.sub [2, 3, 4, 5, 1, 0] rfl ?_
  exact h_X0_mayCarry_b6 g NF a0 a1 x2 x3 0 0
-- findPlate
def f_X0_findPlate_b81 (rec : Nat → Int32 → Int32 → Mo Int32) (k2 : Nat → Int32 → Int32 → Int32 → Mo Int32) (a0 : Nat) (x1 : Int32) (x2 : Int32) (x3 : Int32) : Mo Int32 := k2 a0 x1 x2 (x3 + 1)
def f_X0_findPlate_b72 (rec : Nat → Int32 → Int32 → Mo Int32) (a0 : Nat) (x1 : Int32) (x3 : Int32) : Mo Int32 := bd (gR 0 3 a0) fun r1 => bd (as_ r1 x3 x1) fun _ => pu 1
def f_X0_findPlate_b2 (rec : Nat → Int32 → Int32 → Mo Int32) : Nat → Nat → Int32 → Int32 → Int32 → Mo Int32
  | 0, _, _, _, _ => fl
  | n + 1, a0, x1, x2, x3 => if (8 ≤ x3 : Prop) then (pu 0) else if (8 < x2 : Prop) then (pu 0) else bd (gR 0 2 a0) fun r2 => bd (al 0 r2 x1) fun v3 => bd (gI 0 5 a0) fun v4 => if (((v3 &&& (v4 ^^^ (-1 : Int32))) &&& ((1 : Int32) <<< (x3 &&& 31))) = 0 : Prop) then (f_X0_findPlate_b81 rec (f_X0_findPlate_b2 rec n) a0 x1 x2 x3) else bd (gI 0 5 a0) fun v5 => bd (pf 0 5 a0 (.int (v5 ||| ((1 : Int32) <<< (x3 &&& 31))))) fun _ => bd (gR 0 3 a0) fun r6 => bd (al 0 r6 x3) fun v7 => if (v7 = (-1) : Prop) then (f_X0_findPlate_b72 rec a0 x1 x3) else bd (gR 0 3 a0) fun r8 => bd (al 0 r8 x3) fun v9 => bd (cv 0 a0 (rec a0 v9 (x2 + (1 : Int32)))) fun v10 => if (v10 = 0 : Prop) then (f_X0_findPlate_b81 rec (f_X0_findPlate_b2 rec n) a0 x1 x2 x3) else f_X0_findPlate_b72 rec a0 x1 x3
def f_X0_findPlate (rec : Nat → Int32 → Int32 → Mo Int32) (a0 : Nat) (x1 : Int32) (x2 : Int32) : Mo Int32 := f_X0_findPlate_b2 rec NF a0 x1 x2 0
def F_X0_findPlate : Nat → Nat → Int32 → Int32 → Mo Int32
  | 0, _, _, _ => fl
  | D + 1, a0, x1, x2 => f_X0_findPlate (F_X0_findPlate D) a0 x1 x2
set_option maxRecDepth 20000 in
theorem h_X0_findPlate_b81 (g : GW) (rec : Nat → Int32 → Int32 → Mo Int32) (e : Nat) (he : 8 ≤ e) (hrec : ∀ a0 x1 x2, V g mX0_findPlate e rtI 0 [(0, rf g a0), (1, .int x1), (2, .int x2)] [] (rec a0 x1 x2)) (k2 : Nat → Int32 → Int32 → Int32 → Mo Int32) (hk2 : ∀ a0 x1 x2 x3, V g mX0_findPlate (e + 1) rtI 2 [(0, rf g a0), (1, .int x1), (2, .int x2), (3, .int x3)] [] (k2 a0 x1 x2 x3)) (a0 : Nat) (x1 : Int32) (x2 : Int32) (x3 : Int32) : V g mX0_findPlate (e + 1) rtI 81 [(0, rf g a0), (1, .int x1), (2, .int x2), (3, .int x3)] [] (f_X0_findPlate_b81 rec k2 a0 x1 x2 x3) := by
  unfold f_X0_findPlate_b81
  refine v_iinc (v := x3 + 1) (lv' := [(3, .int (x3 + 1)), (0, rf g a0), (1, .int x1), (2, .int x2)]) (pc' := 84) 3 dX0_findPlate_81 rfl rfl (by decide) rfl rfl ?_
  refine v_goto (t := 2) dX0_findPlate_84 (by decide) ?_
  refine V.sub [1, 2, 3, 0] rfl ?_
  exact hk2 a0 x1 x2 (x3 + 1)
set_option maxRecDepth 20000 in
theorem h_X0_findPlate_b72 (g : GW) (rec : Nat → Int32 → Int32 → Mo Int32) (e : Nat) (he : 8 ≤ e) (hrec : ∀ a0 x1 x2, V g mX0_findPlate e rtI 0 [(0, rf g a0), (1, .int x1), (2, .int x2)] [] (rec a0 x1 x2)) (a0 : Nat) (x1 : Int32) (x3 : Int32) : V g mX0_findPlate (e + 1) rtI 72 [(0, rf g a0), (1, .int x1), (3, .int x3)] [] (f_X0_findPlate_b72 rec a0 x1 x3) := by
  unfold f_X0_findPlate_b72
  refine v_aload_n (pc' := 73) 0 dX0_findPlate_72 rfl rfl rfl ?_
  refine v_getR (pc' := 76) fl_X0_22 dX0_findPlate_73 rfl fun r1 => ?_
  refine v_iload_n (pc' := 77) 2 dX0_findPlate_76 rfl rfl rfl ?_
  refine v_iload_n (pc' := 78) 1 dX0_findPlate_77 rfl rfl rfl ?_
  refine v_iast (pc' := 79) dX0_findPlate_78 rfl ?_
  refine v_iconst (v := 1) (pc' := 80) dX0_findPlate_79 rfl rfl ?_
  exact v_zret rfl rfl dX0_findPlate_80
set_option maxRecDepth 20000 in
theorem h_X0_findPlate_b2 (g : GW) (rec : Nat → Int32 → Int32 → Mo Int32) (e : Nat) (he : 8 ≤ e) (hrec : ∀ a0 x1 x2, V g mX0_findPlate e rtI 0 [(0, rf g a0), (1, .int x1), (2, .int x2)] [] (rec a0 x1 x2)) : ∀ n : Nat, ∀ a0 x1 x2 x3, V g mX0_findPlate (e + 1) rtI 2 [(0, rf g a0), (1, .int x1), (2, .int x2), (3, .int x3)] [] (f_X0_findPlate_b2 rec n a0 x1 x2 x3) := by
  intro n
  induction n with
  | zero => intro a0 x1 x2 x3; exact V.vain
  | succ n ih =>
    intro a0 x1 x2 x3
    unfold f_X0_findPlate_b2
    refine v_iload_n (pc' := 3) 3 dX0_findPlate_2 rfl rfl rfl ?_
    refine v_bipush (v := 8) (pc' := 5) dX0_findPlate_3 rfl rfl ?_
    refine v_icmpge (t := 87) (pc' := 8) dX0_findPlate_5 (by decide) rfl ?_ ?_
    · refine v_iconst (v := 0) (pc' := 88) dX0_findPlate_87 rfl rfl ?_
      exact v_zret rfl rfl dX0_findPlate_88
    · refine v_iload_n (pc' := 9) 2 dX0_findPlate_8 rfl rfl rfl ?_
      refine v_bipush (v := 8) (pc' := 11) dX0_findPlate_9 rfl rfl ?_
      refine v_icmpgt (t := 87) (pc' := 14) dX0_findPlate_11 (by decide) rfl ?_ ?_
      · refine v_iconst (v := 0) (pc' := 88) dX0_findPlate_87 rfl rfl ?_
        exact v_zret rfl rfl dX0_findPlate_88
      · refine v_aload_n (pc' := 15) 0 dX0_findPlate_14 rfl rfl rfl ?_
        refine v_getR (pc' := 18) fl_X0_19 dX0_findPlate_15 rfl fun r2 => ?_
        refine v_iload_n (pc' := 19) 1 dX0_findPlate_18 rfl rfl rfl ?_
        refine v_iald (pc' := 20) dX0_findPlate_19 rfl fun v3 => ?_
        refine v_aload_n (pc' := 21) 0 dX0_findPlate_20 rfl rfl rfl ?_
        refine v_getI (pc' := 24) fl_X0_67 dX0_findPlate_21 rfl fun v4 => ?_
        refine v_iconst (v := -1) (pc' := 25) dX0_findPlate_24 rfl rfl ?_
        refine v_ixor (pc' := 26) dX0_findPlate_25 rfl ?_
        refine v_iand (pc' := 27) dX0_findPlate_26 rfl ?_
        refine v_iconst (v := 1) (pc' := 28) dX0_findPlate_27 rfl rfl ?_
        refine v_iload_n (pc' := 29) 3 dX0_findPlate_28 rfl rfl rfl ?_
        refine v_ishl (pc' := 30) dX0_findPlate_29 rfl ?_
        refine v_iand (pc' := 31) dX0_findPlate_30 rfl ?_
        refine v_ifeq (t := 81) (pc' := 34) dX0_findPlate_31 (by decide) rfl ?_ ?_
        · refine V.sub [0, 1, 2, 3] rfl ?_
          exact h_X0_findPlate_b81 g rec e he hrec (f_X0_findPlate_b2 rec n) ih a0 x1 x2 x3
        · refine v_aload_n (pc' := 35) 0 dX0_findPlate_34 rfl rfl rfl ?_
          refine v_dup (pc' := 36) dX0_findPlate_35 rfl rfl ?_
          refine v_getI (pc' := 39) fl_X0_67 dX0_findPlate_36 rfl fun v5 => ?_
          refine v_iconst (v := 1) (pc' := 40) dX0_findPlate_39 rfl rfl ?_
          refine v_iload_n (pc' := 41) 3 dX0_findPlate_40 rfl rfl rfl ?_
          refine v_ishl (pc' := 42) dX0_findPlate_41 rfl ?_
          refine v_ior (pc' := 43) dX0_findPlate_42 rfl ?_
          refine v_put (v := (.int (v5 ||| ((1 : Int32) <<< (x3 &&& 31))))) (v' := .int (v5 ||| ((1 : Int32) <<< (x3 &&& 31)))) (pc' := 46) fw_X0_67 rfl rfl rfl (fun h => nomatch h) dX0_findPlate_43 rfl ?_
          refine v_aload_n (pc' := 47) 0 dX0_findPlate_46 rfl rfl rfl ?_
          refine v_getR (pc' := 50) fl_X0_22 dX0_findPlate_47 rfl fun r6 => ?_
          refine v_iload_n (pc' := 51) 3 dX0_findPlate_50 rfl rfl rfl ?_
          refine v_iald (pc' := 52) dX0_findPlate_51 rfl fun v7 => ?_
          refine v_iconst (v := -1) (pc' := 53) dX0_findPlate_52 rfl rfl ?_
          refine v_icmpeq (t := 72) (pc' := 56) dX0_findPlate_53 (by decide) rfl ?_ ?_
          · refine V.sub [0, 1, 3] rfl ?_
            exact h_X0_findPlate_b72 g rec e he hrec a0 x1 x3
          · refine v_aload_n (pc' := 57) 0 dX0_findPlate_56 rfl rfl rfl ?_
            refine v_aload_n (pc' := 58) 0 dX0_findPlate_57 rfl rfl rfl ?_
            refine v_getR (pc' := 61) fl_X0_22 dX0_findPlate_58 rfl fun r8 => ?_
            refine v_iload_n (pc' := 62) 3 dX0_findPlate_61 rfl rfl rfl ?_
            refine v_iald (pc' := 63) dX0_findPlate_62 rfl fun v9 => ?_
            refine v_iload_n (pc' := 64) 2 dX0_findPlate_63 rfl rfl rfl ?_
            refine v_iconst (v := 1) (pc' := 65) dX0_findPlate_64 rfl rfl ?_
            refine v_iadd (pc' := 66) dX0_findPlate_65 rfl ?_
            refine v_callV (vs := [.int v9, .int (x2 + (1 : Int32))]) (pc' := 69) (hrec a0 v9 (x2 + (1 : Int32))) mv_X0_findPlate wl_X0_70 rfl (Nat.le_of_ble_eq_true rfl) (by omega) (by decide) (Nat.le_of_ble_eq_true rfl) rfl dX0_findPlate_66 rfl fun v10 => ?_
            refine v_ifeq (t := 81) (pc' := 72) dX0_findPlate_69 (by decide) rfl ?_ ?_
            · refine V.sub [0, 1, 2, 3] rfl ?_
              exact h_X0_findPlate_b81 g rec e he hrec (f_X0_findPlate_b2 rec n) ih a0 x1 x2 x3
            · refine V.sub [0, 1, 3] rfl ?_
              exact h_X0_findPlate_b72 g rec e he hrec a0 x1 x3
set_option maxRecDepth 20000 in
theorem h_X0_findPlate (g : GW) (rec : Nat → Int32 → Int32 → Mo Int32) (e : Nat) (he : 8 ≤ e) (hrec : ∀ a0 x1 x2, V g mX0_findPlate e rtI 0 [(0, rf g a0), (1, .int x1), (2, .int x2)] [] (rec a0 x1 x2)) (a0 : Nat) (x1 : Int32) (x2 : Int32) : V g mX0_findPlate (e + 1) rtI 0 [(0, rf g a0), (1, .int x1), (2, .int x2)] [] (f_X0_findPlate rec a0 x1 x2) := by
  unfold f_X0_findPlate
  refine v_iconst (v := 0) (pc' := 1) dX0_findPlate_0 rfl rfl ?_
  refine v_istore_n (lv' := [(3, .int 0), (0, rf g a0), (1, .int x1), (2, .int x2)]) (pc' := 2) dX0_findPlate_1 rfl (by decide) rfl rfl ?_
  refine V.sub [1, 2, 3, 0] rfl ?_
  exact h_X0_findPlate_b2 g rec e he hrec NF a0 x1 x2 0
theorem H_X0_findPlate (g : GW) : ∀ (D : Nat) a0 x1 x2, V g mX0_findPlate (8 + D * 1) rtI 0 [(0, rf g a0), (1, .int x1), (2, .int x2)] [] (F_X0_findPlate D a0 x1 x2)
  | 0, _, _, _ => V.vain
  | D + 1, a0, x1, x2 => by
    have h := h_X0_findPlate g (F_X0_findPlate D) (8 + D * 1) (Nat.le_add_right _ _) (fun a0 x1 x2 => H_X0_findPlate g D a0 x1 x2) a0 x1 x2
    rw [show 8 + (D + 1) * 1 = 8 + D * 1 + 1 by omega]
    exact h
-- mostFrom
def f_X0_mostFrom_b58 (k26 : Nat → Int32 → Int32 → Int32 → Mo Int32) (a0 : Nat) (x2 : Int32) (x3 : Int32) (x4 : Int32) : Mo Int32 := k26 a0 x2 x3 (x4 + 1)
def f_X0_mostFrom_b26 : Nat → Nat → Int32 → Int32 → Int32 → Mo Int32
  | 0, _, _, _, _ => fl
  | n + 1, a0, x2, x3, x4 => bd (gR 0 0 a0) fun r1 => bd (gI 2 4 r1) fun v2 => if (v2 ≤ x4 : Prop) then (pu x3) else bd (pf 0 5 a0 (.int (x2 ^^^ (-1 : Int32)))) fun _ => bd (cv 0 a0 (F_X0_findPlate 12 a0 x4 0)) fun v3 => if (v3 = 0 : Prop) then (f_X0_mostFrom_b58 (f_X0_mostFrom_b26 n) a0 x2 x3 x4) else f_X0_mostFrom_b58 (f_X0_mostFrom_b26 n) a0 x2 (x3 + 1) x4
def f_X0_mostFrom_b2 : Nat → Nat → Int32 → Int32 → Int32 → Mo Int32
  | 0, _, _, _, _ => fl
  | n + 1, a0, x1, x2, x3 => if (8 ≤ x3 : Prop) then (f_X0_mostFrom_b26 NF a0 x2 0 x1) else bd (gR 0 3 a0) fun r4 => bd (as_ r4 x3 (-1)) fun _ => (f_X0_mostFrom_b2 n) a0 x1 x2 (x3 + 1)
def f_X0_mostFrom (a0 : Nat) (x1 : Int32) (x2 : Int32) : Mo Int32 := f_X0_mostFrom_b2 NF a0 x1 x2 0
set_option maxRecDepth 20000 in
theorem h_X0_mostFrom_b58 (g : GW) (k26 : Nat → Int32 → Int32 → Int32 → Mo Int32) (hk26 : ∀ a0 x2 x3 x4, V g mX0_mostFrom 21 rtI 26 [(0, rf g a0), (2, .int x2), (3, .int x3), (4, .int x4)] [] (k26 a0 x2 x3 x4)) (a0 : Nat) (x2 : Int32) (x3 : Int32) (x4 : Int32) : V g mX0_mostFrom 21 rtI 58 [(0, rf g a0), (2, .int x2), (3, .int x3), (4, .int x4)] [] (f_X0_mostFrom_b58 k26 a0 x2 x3 x4) := by
  unfold f_X0_mostFrom_b58
  refine v_iinc (v := x4 + 1) (lv' := [(4, .int (x4 + 1)), (0, rf g a0), (2, .int x2), (3, .int x3)]) (pc' := 61) 3 dX0_mostFrom_58 rfl rfl (by decide) rfl rfl ?_
  refine v_goto (t := 26) dX0_mostFrom_61 (by decide) ?_
  refine V.sub [1, 2, 3, 0] rfl ?_
  exact hk26 a0 x2 x3 (x4 + 1)
set_option maxRecDepth 20000 in
theorem h_X0_mostFrom_b26 (g : GW) : ∀ n : Nat, ∀ a0 x2 x3 x4, V g mX0_mostFrom 21 rtI 26 [(0, rf g a0), (2, .int x2), (3, .int x3), (4, .int x4)] [] (f_X0_mostFrom_b26 n a0 x2 x3 x4) := by
  intro n
  induction n with
  | zero => intro a0 x2 x3 x4; exact V.vain
  | succ n ih =>
    intro a0 x2 x3 x4
    unfold f_X0_mostFrom_b26
    refine v_iload (pc' := 28) 3 dX0_mostFrom_26 rfl rfl ?_
    refine v_aload_n (pc' := 29) 0 dX0_mostFrom_28 rfl rfl rfl ?_
    refine v_getR (pc' := 32) fl_X0_9 dX0_mostFrom_29 rfl fun r1 => ?_
    refine v_getI (pc' := 35) fl_X0_37 dX0_mostFrom_32 rfl fun v2 => ?_
    refine v_icmpge (t := 64) (pc' := 38) dX0_mostFrom_35 (by decide) rfl ?_ ?_
    · refine v_iload_n (pc' := 65) 2 dX0_mostFrom_64 rfl rfl rfl ?_
      exact v_ireturn rfl dX0_mostFrom_65
    · refine v_aload_n (pc' := 39) 0 dX0_mostFrom_38 rfl rfl rfl ?_
      refine v_iload_n (pc' := 40) 1 dX0_mostFrom_39 rfl rfl rfl ?_
      refine v_iconst (v := -1) (pc' := 41) dX0_mostFrom_40 rfl rfl ?_
      refine v_ixor (pc' := 42) dX0_mostFrom_41 rfl ?_
      refine v_put (v := (.int (x2 ^^^ (-1 : Int32)))) (v' := .int (x2 ^^^ (-1 : Int32))) (pc' := 45) fw_X0_67 rfl rfl rfl (fun h => nomatch h) dX0_mostFrom_42 rfl ?_
      refine v_aload_n (pc' := 46) 0 dX0_mostFrom_45 rfl rfl rfl ?_
      refine v_iload (pc' := 48) 3 dX0_mostFrom_46 rfl rfl ?_
      refine v_iconst (v := 0) (pc' := 49) dX0_mostFrom_48 rfl rfl ?_
      refine v_callV (vs := [.int x4, .int 0]) (pc' := 52) (H_X0_findPlate g 12 a0 x4 0) mv_X0_findPlate wl_X0_70 rfl (Nat.le_of_ble_eq_true rfl) (by omega) (by decide) (Nat.le_of_ble_eq_true rfl) rfl dX0_mostFrom_49 rfl fun v3 => ?_
      refine v_ifeq (t := 58) (pc' := 55) dX0_mostFrom_52 (by decide) rfl ?_ ?_
      · refine V.sub [0, 1, 2, 3] rfl ?_
        exact h_X0_mostFrom_b58 g (f_X0_mostFrom_b26 n) ih a0 x2 x3 x4
      · refine v_iinc (v := x3 + 1) (lv' := [(3, .int (x3 + 1)), (0, rf g a0), (2, .int x2), (4, .int x4)]) (pc' := 58) 2 dX0_mostFrom_55 rfl rfl (by decide) rfl rfl ?_
        refine V.sub [1, 2, 0, 3] rfl ?_
        exact h_X0_mostFrom_b58 g (f_X0_mostFrom_b26 n) ih a0 x2 (x3 + 1) x4
set_option maxRecDepth 20000 in
theorem h_X0_mostFrom_b2 (g : GW) : ∀ n : Nat, ∀ a0 x1 x2 x3, V g mX0_mostFrom 21 rtI 2 [(0, rf g a0), (1, .int x1), (2, .int x2), (3, .int x3)] [] (f_X0_mostFrom_b2 n a0 x1 x2 x3) := by
  intro n
  induction n with
  | zero => intro a0 x1 x2 x3; exact V.vain
  | succ n ih =>
    intro a0 x1 x2 x3
    unfold f_X0_mostFrom_b2
    refine v_iload_n (pc' := 3) 3 dX0_mostFrom_2 rfl rfl rfl ?_
    refine v_bipush (v := 8) (pc' := 5) dX0_mostFrom_3 rfl rfl ?_
    refine v_icmpge (t := 21) (pc' := 8) dX0_mostFrom_5 (by decide) rfl ?_ ?_
    · refine v_iconst (v := 0) (pc' := 22) dX0_mostFrom_21 rfl rfl ?_
      refine v_istore_n (lv' := [(3, .int 0), (0, rf g a0), (1, .int x1), (2, .int x2)]) (pc' := 23) dX0_mostFrom_22 rfl (by decide) rfl rfl ?_
      refine v_iload_n (pc' := 24) 2 dX0_mostFrom_23 rfl rfl rfl ?_
      refine v_istore (lv' := [(4, .int x1), (3, .int 0), (0, rf g a0), (1, .int x1), (2, .int x2)]) (pc' := 26) dX0_mostFrom_24 (by decide) rfl rfl ?_
      refine V.sub [2, 4, 1, 0] rfl ?_
      exact h_X0_mostFrom_b26 g NF a0 x2 0 x1
    · refine v_aload_n (pc' := 9) 0 dX0_mostFrom_8 rfl rfl rfl ?_
      refine v_getR (pc' := 12) fl_X0_22 dX0_mostFrom_9 rfl fun r4 => ?_
      refine v_iload_n (pc' := 13) 3 dX0_mostFrom_12 rfl rfl rfl ?_
      refine v_iconst (v := -1) (pc' := 14) dX0_mostFrom_13 rfl rfl ?_
      refine v_iast (pc' := 15) dX0_mostFrom_14 rfl ?_
      refine v_iinc (v := x3 + 1) (lv' := [(3, .int (x3 + 1)), (0, rf g a0), (1, .int x1), (2, .int x2)]) (pc' := 18) 3 dX0_mostFrom_15 rfl rfl (by decide) rfl rfl ?_
      refine v_goto (t := 2) dX0_mostFrom_18 (by decide) ?_
      refine V.sub [1, 2, 3, 0] rfl ?_
      exact ih a0 x1 x2 (x3 + 1)
set_option maxRecDepth 20000 in
theorem h_X0_mostFrom (g : GW) (a0 : Nat) (x1 : Int32) (x2 : Int32) : V g mX0_mostFrom 21 rtI 0 [(0, rf g a0), (1, .int x1), (2, .int x2)] [] (f_X0_mostFrom a0 x1 x2) := by
  unfold f_X0_mostFrom
  refine v_iconst (v := 0) (pc' := 1) dX0_mostFrom_0 rfl rfl ?_
  refine v_istore_n (lv' := [(3, .int 0), (0, rf g a0), (1, .int x1), (2, .int x2)]) (pc' := 2) dX0_mostFrom_1 rfl (by decide) rfl rfl ?_
  refine V.sub [1, 2, 3, 0] rfl ?_
  exact h_X0_mostFrom_b2 g NF a0 x1 x2 0
-- firstFor
def f_X0_firstFor_b50 (k3 : Nat → Int32 → Int32 → Int32 → Int32 → Mo Int32) (a0 : Nat) (x1 : Int32) (x2 : Int32) (x3 : Int32) (x4 : Int32) : Mo Int32 := k3 a0 x1 x2 x3 (x4 + 1)
def f_X0_firstFor_b3 : Nat → Nat → Int32 → Int32 → Int32 → Int32 → Mo Int32
  | 0, _, _, _, _, _ => fl
  | n + 1, a0, x1, x2, x3, x4 => if (8 ≤ x4 : Prop) then (pu (-1)) else bd (gR 0 2 a0) fun r1 => bd (al 0 r1 x1) fun v2 => if (((v2 &&& x2) &&& ((1 : Int32) <<< (x4 &&& 31))) = 0 : Prop) then (f_X0_firstFor_b50 (f_X0_firstFor_b3 n) a0 x1 x2 x3 x4) else bd (cv 0 a0 (f_X0_mostFrom a0 (x1 + (1 : Int32)) (x2 &&& (((1 : Int32) <<< (x4 &&& 31)) ^^^ (-1 : Int32))))) fun v3 => if (((1 : Int32) + v3) = x3 : Prop) then (pu x4) else f_X0_firstFor_b50 (f_X0_firstFor_b3 n) a0 x1 x2 x3 x4
def f_X0_firstFor (a0 : Nat) (x1 : Int32) (x2 : Int32) (x3 : Int32) : Mo Int32 := f_X0_firstFor_b3 NF a0 x1 x2 x3 0
set_option maxRecDepth 20000 in
theorem h_X0_firstFor_b50 (g : GW) (k3 : Nat → Int32 → Int32 → Int32 → Int32 → Mo Int32) (hk3 : ∀ a0 x1 x2 x3 x4, V g mX0_firstFor 22 rtI 3 [(0, rf g a0), (1, .int x1), (2, .int x2), (3, .int x3), (4, .int x4)] [] (k3 a0 x1 x2 x3 x4)) (a0 : Nat) (x1 : Int32) (x2 : Int32) (x3 : Int32) (x4 : Int32) : V g mX0_firstFor 22 rtI 50 [(0, rf g a0), (1, .int x1), (2, .int x2), (3, .int x3), (4, .int x4)] [] (f_X0_firstFor_b50 k3 a0 x1 x2 x3 x4) := by
  unfold f_X0_firstFor_b50
  refine v_iinc (v := x4 + 1) (lv' := [(4, .int (x4 + 1)), (0, rf g a0), (1, .int x1), (2, .int x2), (3, .int x3)]) (pc' := 53) 4 dX0_firstFor_50 rfl rfl (by decide) rfl rfl ?_
  refine v_goto (t := 3) dX0_firstFor_53 (by decide) ?_
  refine V.sub [1, 2, 3, 4, 0] rfl ?_
  exact hk3 a0 x1 x2 x3 (x4 + 1)
set_option maxRecDepth 20000 in
theorem h_X0_firstFor_b3 (g : GW) : ∀ n : Nat, ∀ a0 x1 x2 x3 x4, V g mX0_firstFor 22 rtI 3 [(0, rf g a0), (1, .int x1), (2, .int x2), (3, .int x3), (4, .int x4)] [] (f_X0_firstFor_b3 n a0 x1 x2 x3 x4) := by
  intro n
  induction n with
  | zero => intro a0 x1 x2 x3 x4; exact V.vain
  | succ n ih =>
    intro a0 x1 x2 x3 x4
    unfold f_X0_firstFor_b3
    refine v_iload (pc' := 5) 4 dX0_firstFor_3 rfl rfl ?_
    refine v_bipush (v := 8) (pc' := 7) dX0_firstFor_5 rfl rfl ?_
    refine v_icmpge (t := 56) (pc' := 10) dX0_firstFor_7 (by decide) rfl ?_ ?_
    · refine v_iconst (v := -1) (pc' := 57) dX0_firstFor_56 rfl rfl ?_
      exact v_ireturn rfl dX0_firstFor_57
    · refine v_aload_n (pc' := 11) 0 dX0_firstFor_10 rfl rfl rfl ?_
      refine v_getR (pc' := 14) fl_X0_19 dX0_firstFor_11 rfl fun r1 => ?_
      refine v_iload_n (pc' := 15) 1 dX0_firstFor_14 rfl rfl rfl ?_
      refine v_iald (pc' := 16) dX0_firstFor_15 rfl fun v2 => ?_
      refine v_iload_n (pc' := 17) 2 dX0_firstFor_16 rfl rfl rfl ?_
      refine v_iand (pc' := 18) dX0_firstFor_17 rfl ?_
      refine v_iconst (v := 1) (pc' := 19) dX0_firstFor_18 rfl rfl ?_
      refine v_iload (pc' := 21) 4 dX0_firstFor_19 rfl rfl ?_
      refine v_ishl (pc' := 22) dX0_firstFor_21 rfl ?_
      refine v_iand (pc' := 23) dX0_firstFor_22 rfl ?_
      refine v_ifeq (t := 50) (pc' := 26) dX0_firstFor_23 (by decide) rfl ?_ ?_
      · refine V.sub [0, 1, 2, 3, 4] rfl ?_
        exact h_X0_firstFor_b50 g (f_X0_firstFor_b3 n) ih a0 x1 x2 x3 x4
      · refine v_iconst (v := 1) (pc' := 27) dX0_firstFor_26 rfl rfl ?_
        refine v_aload_n (pc' := 28) 0 dX0_firstFor_27 rfl rfl rfl ?_
        refine v_iload_n (pc' := 29) 1 dX0_firstFor_28 rfl rfl rfl ?_
        refine v_iconst (v := 1) (pc' := 30) dX0_firstFor_29 rfl rfl ?_
        refine v_iadd (pc' := 31) dX0_firstFor_30 rfl ?_
        refine v_iload_n (pc' := 32) 2 dX0_firstFor_31 rfl rfl rfl ?_
        refine v_iconst (v := 1) (pc' := 33) dX0_firstFor_32 rfl rfl ?_
        refine v_iload (pc' := 35) 4 dX0_firstFor_33 rfl rfl ?_
        refine v_ishl (pc' := 36) dX0_firstFor_35 rfl ?_
        refine v_iconst (v := -1) (pc' := 37) dX0_firstFor_36 rfl rfl ?_
        refine v_ixor (pc' := 38) dX0_firstFor_37 rfl ?_
        refine v_iand (pc' := 39) dX0_firstFor_38 rfl ?_
        refine v_callV (vs := [.int (x1 + (1 : Int32)), .int (x2 &&& (((1 : Int32) <<< (x4 &&& 31)) ^^^ (-1 : Int32)))]) (pc' := 42) (h_X0_mostFrom g a0 (x1 + (1 : Int32)) (x2 &&& (((1 : Int32) <<< (x4 &&& 31)) ^^^ (-1 : Int32)))) mv_X0_mostFrom wl_X0_46 rfl (Nat.le_of_ble_eq_true rfl) (by omega) (by decide) (Nat.le_of_ble_eq_true rfl) rfl dX0_firstFor_39 rfl fun v3 => ?_
        refine v_iadd (pc' := 43) dX0_firstFor_42 rfl ?_
        refine v_iload_n (pc' := 44) 3 dX0_firstFor_43 rfl rfl rfl ?_
        refine v_icmpne (t := 50) (pc' := 47) dX0_firstFor_44 (by decide) rfl ?_ ?_
        · refine V.sub [0, 1, 2, 3, 4] rfl ?_
          exact h_X0_firstFor_b50 g (f_X0_firstFor_b3 n) ih a0 x1 x2 x3 x4
        · refine v_iload (pc' := 49) 4 dX0_firstFor_47 rfl rfl ?_
          exact v_ireturn rfl dX0_firstFor_49
set_option maxRecDepth 20000 in
theorem h_X0_firstFor (g : GW) (a0 : Nat) (x1 : Int32) (x2 : Int32) (x3 : Int32) : V g mX0_firstFor 22 rtI 0 [(0, rf g a0), (1, .int x1), (2, .int x2), (3, .int x3)] [] (f_X0_firstFor a0 x1 x2 x3) := by
  unfold f_X0_firstFor
  refine v_iconst (v := 0) (pc' := 1) dX0_firstFor_0 rfl rfl ?_
  refine v_istore (lv' := [(4, .int 0), (0, rf g a0), (1, .int x1), (2, .int x2), (3, .int x3)]) (pc' := 3) dX0_firstFor_1 (by decide) rfl rfl ?_
  refine V.sub [1, 2, 3, 4, 0] rfl ?_
  exact h_X0_firstFor_b3 g NF a0 x1 x2 x3 0
-- match
def f_X0_match_b123 (k67 : Nat → Int32 → Int32 → Int32 → Mo Unit) (a0 : Nat) (x3 : Int32) (x4 : Int32) (x5 : Int32) : Mo Unit := k67 a0 x3 x4 (x5 + 1)
def f_X0_match_b67 : Nat → Nat → Int32 → Int32 → Int32 → Mo Unit
  | 0, _, _, _, _ => fl
  | n + 1, a0, x3, x4, x5 => bd (gR 0 0 a0) fun r1 => bd (gI 2 4 r1) fun v2 => if (v2 ≤ x5 : Prop) then (pu ()) else bd (gR 0 1 a0) fun r3 => bd (cv 0 a0 (f_X0_firstFor a0 x5 x3 x4)) fun v4 => bd (as_ r3 x5 v4) fun _ => bd (gR 0 1 a0) fun r5 => bd (al 0 r5 x5) fun v6 => if (v6 = (-1) : Prop) then (f_X0_match_b123 (f_X0_match_b67 n) a0 x3 x4 x5) else bd (gR 0 1 a0) fun r7 => bd (al 0 r7 x5) fun v8 => f_X0_match_b123 (f_X0_match_b67 n) a0 (x3 &&& (((1 : Int32) <<< (v8 &&& 31)) ^^^ (-1 : Int32))) (x4 + (-1)) x5
def f_X0_match_b12 : Nat → Nat → Nat → Int32 → Int32 → Mo Unit
  | 0, _, _, _, _ => fl
  | n + 1, a0, a1, x2, x3 => bd (gR 0 0 a0) fun r9 => bd (gI 2 4 r9) fun v10 => if (v10 ≤ x3 : Prop) then (bd (cv 0 a0 (f_X0_mostFrom a0 0 (((1 : Int32) <<< (x2 &&& 31)) - (1 : Int32)))) fun v11 => bd (pf 0 4 a0 (.int v11)) fun _ => bd (gI 0 4 a0) fun v12 => f_X0_match_b67 NF a0 (((1 : Int32) <<< (x2 &&& 31)) - (1 : Int32)) v12 0) else bd (gR 0 2 a0) fun r13 => bd (cv 0 a0 (f_X0_mayCarry a0 a1 x2 x3)) fun v14 => bd (as_ r13 x3 v14) fun _ => (f_X0_match_b12 n) a0 a1 x2 (x3 + 1)
def f_X0_match (a0 : Nat) (a1 : Nat) : Mo Unit := bd (gI 5 4 a1) fun v15 => f_X0_match_b12 NF a0 a1 (mn32 8 v15) 0
set_option maxRecDepth 20000 in
theorem h_X0_match_b123 (g : GW) (k67 : Nat → Int32 → Int32 → Int32 → Mo Unit) (hk67 : ∀ a0 x3 x4 x5, V g mX0_match 23 rtU 67 [(0, rf g a0), (3, .int x3), (4, .int x4), (5, .int x5)] [] (k67 a0 x3 x4 x5)) (a0 : Nat) (x3 : Int32) (x4 : Int32) (x5 : Int32) : V g mX0_match 23 rtU 123 [(0, rf g a0), (3, .int x3), (4, .int x4), (5, .int x5)] [] (f_X0_match_b123 k67 a0 x3 x4 x5) := by
  unfold f_X0_match_b123
  refine v_iinc (v := x5 + 1) (lv' := [(5, .int (x5 + 1)), (0, rf g a0), (3, .int x3), (4, .int x4)]) (pc' := 126) 3 dX0_match_123 rfl rfl (by decide) rfl rfl ?_
  refine v_goto (t := 67) dX0_match_126 (by decide) ?_
  refine V.sub [1, 2, 3, 0] rfl ?_
  exact hk67 a0 x3 x4 (x5 + 1)
set_option maxRecDepth 20000 in
theorem h_X0_match_b67 (g : GW) : ∀ n : Nat, ∀ a0 x3 x4 x5, V g mX0_match 23 rtU 67 [(0, rf g a0), (3, .int x3), (4, .int x4), (5, .int x5)] [] (f_X0_match_b67 n a0 x3 x4 x5) := by
  intro n
  induction n with
  | zero => intro a0 x3 x4 x5; exact V.vain
  | succ n ih =>
    intro a0 x3 x4 x5
    unfold f_X0_match_b67
    refine v_iload (pc' := 69) 3 dX0_match_67 rfl rfl ?_
    refine v_aload_n (pc' := 70) 0 dX0_match_69 rfl rfl rfl ?_
    refine v_getR (pc' := 73) fl_X0_9 dX0_match_70 rfl fun r1 => ?_
    refine v_getI (pc' := 76) fl_X0_37 dX0_match_73 rfl fun v2 => ?_
    refine v_icmpge (t := 129) (pc' := 79) dX0_match_76 (by decide) rfl ?_ ?_
    · exact v_return rfl dX0_match_129
    · refine v_aload_n (pc' := 80) 0 dX0_match_79 rfl rfl rfl ?_
      refine v_getR (pc' := 83) fl_X0_15 dX0_match_80 rfl fun r3 => ?_
      refine v_iload (pc' := 85) 3 dX0_match_83 rfl rfl ?_
      refine v_aload_n (pc' := 86) 0 dX0_match_85 rfl rfl rfl ?_
      refine v_iload (pc' := 88) 3 dX0_match_86 rfl rfl ?_
      refine v_iload_n (pc' := 89) 1 dX0_match_88 rfl rfl rfl ?_
      refine v_iload (pc' := 91) 2 dX0_match_89 rfl rfl ?_
      refine v_callV (vs := [.int x5, .int x3, .int x4]) (pc' := 94) (h_X0_firstFor g a0 x5 x3 x4) mv_X0_firstFor wl_X0_52 rfl (Nat.le_of_ble_eq_true rfl) (by omega) (by decide) (Nat.le_of_ble_eq_true rfl) rfl dX0_match_91 rfl fun v4 => ?_
      refine v_iast (pc' := 95) dX0_match_94 rfl ?_
      refine v_aload_n (pc' := 96) 0 dX0_match_95 rfl rfl rfl ?_
      refine v_getR (pc' := 99) fl_X0_15 dX0_match_96 rfl fun r5 => ?_
      refine v_iload (pc' := 101) 3 dX0_match_99 rfl rfl ?_
      refine v_iald (pc' := 102) dX0_match_101 rfl fun v6 => ?_
      refine v_iconst (v := -1) (pc' := 103) dX0_match_102 rfl rfl ?_
      refine v_icmpeq (t := 123) (pc' := 106) dX0_match_103 (by decide) rfl ?_ ?_
      · refine V.sub [0, 1, 2, 3] rfl ?_
        exact h_X0_match_b123 g (f_X0_match_b67 n) ih a0 x3 x4 x5
      · refine v_iload_n (pc' := 107) 1 dX0_match_106 rfl rfl rfl ?_
        refine v_iconst (v := 1) (pc' := 108) dX0_match_107 rfl rfl ?_
        refine v_aload_n (pc' := 109) 0 dX0_match_108 rfl rfl rfl ?_
        refine v_getR (pc' := 112) fl_X0_15 dX0_match_109 rfl fun r7 => ?_
        refine v_iload (pc' := 114) 3 dX0_match_112 rfl rfl ?_
        refine v_iald (pc' := 115) dX0_match_114 rfl fun v8 => ?_
        refine v_ishl (pc' := 116) dX0_match_115 rfl ?_
        refine v_iconst (v := -1) (pc' := 117) dX0_match_116 rfl rfl ?_
        refine v_ixor (pc' := 118) dX0_match_117 rfl ?_
        refine v_iand (pc' := 119) dX0_match_118 rfl ?_
        refine v_istore_n (lv' := [(3, .int (x3 &&& (((1 : Int32) <<< (v8 &&& 31)) ^^^ (-1 : Int32)))), (0, rf g a0), (4, .int x4), (5, .int x5)]) (pc' := 120) dX0_match_119 rfl (by decide) rfl rfl ?_
        refine v_iinc (v := x4 + (-1)) (lv' := [(4, .int (x4 + (-1))), (3, .int (x3 &&& (((1 : Int32) <<< (v8 &&& 31)) ^^^ (-1 : Int32)))), (0, rf g a0), (5, .int x5)]) (pc' := 123) 2 dX0_match_120 rfl rfl (by decide) rfl rfl ?_
        refine V.sub [2, 1, 0, 3] rfl ?_
        exact h_X0_match_b123 g (f_X0_match_b67 n) ih a0 (x3 &&& (((1 : Int32) <<< (v8 &&& 31)) ^^^ (-1 : Int32))) (x4 + (-1)) x5
set_option maxRecDepth 20000 in
theorem h_X0_match_b12 (g : GW) : ∀ n : Nat, ∀ a0 a1 x2 x3, V g mX0_match 23 rtU 12 [(0, rf g a0), (1, rf g a1), (2, .int x2), (3, .int x3)] [] (f_X0_match_b12 n a0 a1 x2 x3) := by
  intro n
  induction n with
  | zero => intro a0 a1 x2 x3; exact V.vain
  | succ n ih =>
    intro a0 a1 x2 x3
    unfold f_X0_match_b12
    refine v_iload_n (pc' := 13) 3 dX0_match_12 rfl rfl rfl ?_
    refine v_aload_n (pc' := 14) 0 dX0_match_13 rfl rfl rfl ?_
    refine v_getR (pc' := 17) fl_X0_9 dX0_match_14 rfl fun r9 => ?_
    refine v_getI (pc' := 20) fl_X0_37 dX0_match_17 rfl fun v10 => ?_
    refine v_icmpge (t := 42) (pc' := 23) dX0_match_20 (by decide) rfl ?_ ?_
    · refine v_iconst (v := 1) (pc' := 43) dX0_match_42 rfl rfl ?_
      refine v_iload_n (pc' := 44) 2 dX0_match_43 rfl rfl rfl ?_
      refine v_ishl (pc' := 45) dX0_match_44 rfl ?_
      refine v_iconst (v := 1) (pc' := 46) dX0_match_45 rfl rfl ?_
      refine v_isub (pc' := 47) dX0_match_46 rfl ?_
      refine v_istore_n (lv' := [(3, .int (((1 : Int32) <<< (x2 &&& 31)) - (1 : Int32))), (0, rf g a0), (1, rf g a1), (2, .int x2)]) (pc' := 48) dX0_match_47 rfl (by decide) rfl rfl ?_
      refine v_aload_n (pc' := 49) 1 dX0_match_48 rfl rfl rfl ?_
      refine v_aload_n (pc' := 50) 1 dX0_match_49 rfl rfl rfl ?_
      refine v_iconst (v := 0) (pc' := 51) dX0_match_50 rfl rfl ?_
      refine v_iload_n (pc' := 52) 0 dX0_match_51 rfl rfl rfl ?_
      refine v_callV (vs := [.int 0, .int (((1 : Int32) <<< (x2 &&& 31)) - (1 : Int32))]) (pc' := 55) (h_X0_mostFrom g a0 0 (((1 : Int32) <<< (x2 &&& 31)) - (1 : Int32))) mv_X0_mostFrom wl_X0_46 rfl (Nat.le_of_ble_eq_true rfl) (by omega) (by decide) (Nat.le_of_ble_eq_true rfl) rfl dX0_match_52 rfl fun v11 => ?_
      refine v_put (v := (.int v11)) (v' := .int v11) (pc' := 58) fw_X0_49 rfl rfl rfl (fun h => nomatch h) dX0_match_55 rfl ?_
      refine v_aload_n (pc' := 59) 1 dX0_match_58 rfl rfl rfl ?_
      refine v_getI (pc' := 62) fl_X0_49 dX0_match_59 rfl fun v12 => ?_
      refine v_istore (lv' := [(4, .int v12), (3, .int (((1 : Int32) <<< (x2 &&& 31)) - (1 : Int32))), (0, rf g a0), (1, rf g a1), (2, .int x2)]) (pc' := 64) dX0_match_62 (by decide) rfl rfl ?_
      refine v_iconst (v := 0) (pc' := 65) dX0_match_64 rfl rfl ?_
      refine v_istore (lv' := [(5, .int 0), (4, .int v12), (3, .int (((1 : Int32) <<< (x2 &&& 31)) - (1 : Int32))), (0, rf g a0), (1, rf g a1), (2, .int x2)]) (pc' := 67) dX0_match_65 (by decide) rfl rfl ?_
      refine V.sub [3, 2, 1, 0] rfl ?_
      exact h_X0_match_b67 g NF a0 (((1 : Int32) <<< (x2 &&& 31)) - (1 : Int32)) v12 0
    · refine v_aload_n (pc' := 24) 0 dX0_match_23 rfl rfl rfl ?_
      refine v_getR (pc' := 27) fl_X0_19 dX0_match_24 rfl fun r13 => ?_
      refine v_iload_n (pc' := 28) 3 dX0_match_27 rfl rfl rfl ?_
      refine v_aload_n (pc' := 29) 0 dX0_match_28 rfl rfl rfl ?_
      refine v_aload_n (pc' := 30) 1 dX0_match_29 rfl rfl rfl ?_
      refine v_iload_n (pc' := 31) 2 dX0_match_30 rfl rfl rfl ?_
      refine v_iload_n (pc' := 32) 3 dX0_match_31 rfl rfl rfl ?_
      refine v_callV (vs := [rf g a1, .int x2, .int x3]) (pc' := 35) (h_X0_mayCarry g a0 a1 x2 x3) mv_X0_mayCarry wl_X0_42 rfl (Nat.le_of_ble_eq_true rfl) (by omega) (by decide) (Nat.le_of_ble_eq_true rfl) rfl dX0_match_32 rfl fun v14 => ?_
      refine v_iast (pc' := 36) dX0_match_35 rfl ?_
      refine v_iinc (v := x3 + 1) (lv' := [(3, .int (x3 + 1)), (0, rf g a0), (1, rf g a1), (2, .int x2)]) (pc' := 39) 3 dX0_match_36 rfl rfl (by decide) rfl rfl ?_
      refine v_goto (t := 12) dX0_match_39 (by decide) ?_
      refine V.sub [1, 2, 3, 0] rfl ?_
      exact ih a0 a1 x2 (x3 + 1)
set_option maxRecDepth 20000 in
theorem h_X0_match (g : GW) (a0 : Nat) (a1 : Nat) : V g mX0_match 23 rtU 0 [(0, rf g a0), (1, rf g a1)] [] (f_X0_match a0 a1) := by
  unfold f_X0_match
  refine v_bipush (v := 8) (pc' := 2) dX0_match_0 rfl rfl ?_
  refine v_aload_n (pc' := 3) 1 dX0_match_2 rfl rfl rfl ?_
  refine v_getI (pc' := 6) fl_X0_25 dX0_match_3 rfl fun v15 => ?_
  refine v_mn32 (pc' := 9) (by omega) (tg2 232 (by decide +kernel) (by decide +kernel)) (Nat.le_of_ble_eq_true rfl) rfl dX0_match_6 rfl ?_
  refine v_istore_n (lv' := [(2, .int (mn32 8 v15)), (0, rf g a0), (1, rf g a1)]) (pc' := 10) dX0_match_9 rfl (by decide) rfl rfl ?_
  refine v_iconst (v := 0) (pc' := 11) dX0_match_10 rfl rfl ?_
  refine v_istore_n (lv' := [(3, .int 0), (2, .int (mn32 8 v15)), (0, rf g a0), (1, rf g a1)]) (pc' := 12) dX0_match_11 rfl (by decide) rfl rfl ?_
  refine V.sub [2, 3, 1, 0] rfl ?_
  exact h_X0_match_b12 g NF a0 a1 (mn32 8 v15) 0
-- <init>
def f_X7_init (a0 : Nat) (a1 : Nat) : Mo Unit := bd (pf 7 0 a0 (.ref a1)) fun _ => bd (gR 6 0 a1) fun r1 => bd (pf 7 1 a0 (.ref r1)) fun _ => bd (nA 0 8) fun r2 => bd (pf 7 2 a0 (.ref r2)) fun _ => bd (nA 0 5) fun r3 => bd (pf 7 3 a0 (.ref r3)) fun _ => pu ()
set_option maxRecDepth 20000 in
theorem h_X7_init (g : GW) (a0 : Nat) (a1 : Nat) : V g mX7_init 8 rtU 0 [(0, rf g a0), (1, rf g a1)] [] (f_X7_init a0 a1) := by
  unfold f_X7_init
  refine v_aload_n (pc' := 1) 0 dX7_init_0 rfl rfl rfl ?_
  refine v_objInit (pc' := 4) (tg1 228 (by decide +kernel) (by decide +kernel)) wo_inst wo_code (by omega) (Nat.le_of_ble_eq_true rfl) dX7_init_1 rfl ?_
  refine v_aload_n (pc' := 5) 0 dX7_init_4 rfl rfl rfl ?_
  refine v_aload_n (pc' := 6) 1 dX7_init_5 rfl rfl rfl ?_
  refine v_put (v := (.ref a1)) (v' := rf g a1) (pc' := 9) fw_X7_9 rfl rfl rfl (fun _ => rfl) dX7_init_6 rfl ?_
  refine v_aload_n (pc' := 10) 0 dX7_init_9 rfl rfl rfl ?_
  refine v_aload_n (pc' := 11) 1 dX7_init_10 rfl rfl rfl ?_
  refine v_getR (pc' := 14) fl_X7_15 dX7_init_11 rfl fun r1 => ?_
  refine v_put (v := (.ref r1)) (v' := rf g r1) (pc' := 17) fw_X7_21 rfl rfl rfl (fun _ => rfl) dX7_init_14 rfl ?_
  refine v_aload_n (pc' := 18) 0 dX7_init_17 rfl rfl rfl ?_
  refine v_bipush (v := 8) (pc' := 20) dX7_init_18 rfl rfl ?_
  refine v_newI (pc' := 22) wa_int dX7_init_20 rfl fun r2 => ?_
  refine v_put (v := (.ref r2)) (v' := rf g r2) (pc' := 25) fw_X7_22 rfl rfl rfl (fun _ => rfl) dX7_init_22 rfl ?_
  refine v_aload_n (pc' := 26) 0 dX7_init_25 rfl rfl rfl ?_
  refine v_iconst (v := 5) (pc' := 27) dX7_init_26 rfl rfl ?_
  refine v_newI (pc' := 29) wa_int dX7_init_27 rfl fun r3 => ?_
  refine v_put (v := (.ref r3)) (v' := rf g r3) (pc' := 32) fw_X7_26 rfl rfl rfl (fun _ => rfl) dX7_init_29 rfl ?_
  exact v_return rfl dX7_init_32
-- look
def f_X7_look_b2 : Nat → Nat → Nat → Int32 → Mo Unit
  | 0, _, _, _ => fl
  | n + 1, a0, a1, x2 => bd (gR 7 1 a0) fun r1 => bd (gI 2 4 r1) fun v2 => if (v2 ≤ x2 : Prop) then (pu ()) else bd (gR 7 2 a0) fun r3 => bd (gR 7 0 a0) fun r4 => bd (cv 6 r4 (f_X6_takersOf r4 a1 x2)) fun v5 => bd (as_ r3 x2 v5) fun _ => (f_X7_look_b2 n) a0 a1 (x2 + 1)
def f_X7_look (a0 : Nat) (a1 : Nat) : Mo Unit := f_X7_look_b2 NF a0 a1 0
set_option maxRecDepth 20000 in
theorem h_X7_look_b2 (g : GW) : ∀ n : Nat, ∀ a0 a1 x2, V g mX7_look 13 rtU 2 [(0, rf g a0), (1, rf g a1), (2, .int x2)] [] (f_X7_look_b2 n a0 a1 x2) := by
  intro n
  induction n with
  | zero => intro a0 a1 x2; exact V.vain
  | succ n ih =>
    intro a0 a1 x2
    unfold f_X7_look_b2
    refine v_iload_n (pc' := 3) 2 dX7_look_2 rfl rfl rfl ?_
    refine v_aload_n (pc' := 4) 0 dX7_look_3 rfl rfl rfl ?_
    refine v_getR (pc' := 7) fl_X7_21 dX7_look_4 rfl fun r1 => ?_
    refine v_getI (pc' := 10) fl_X7_29 dX7_look_7 rfl fun v2 => ?_
    refine v_icmpge (t := 34) (pc' := 13) dX7_look_10 (by decide) rfl ?_ ?_
    · exact v_return rfl dX7_look_34
    · refine v_aload_n (pc' := 14) 0 dX7_look_13 rfl rfl rfl ?_
      refine v_getR (pc' := 17) fl_X7_22 dX7_look_14 rfl fun r3 => ?_
      refine v_iload_n (pc' := 18) 2 dX7_look_17 rfl rfl rfl ?_
      refine v_aload_n (pc' := 19) 0 dX7_look_18 rfl rfl rfl ?_
      refine v_getR (pc' := 22) fl_X7_9 dX7_look_19 rfl fun r4 => ?_
      refine v_aload_n (pc' := 23) 1 dX7_look_22 rfl rfl rfl ?_
      refine v_iload_n (pc' := 24) 2 dX7_look_23 rfl rfl rfl ?_
      refine v_callV (vs := [rf g a1, .int x2]) (pc' := 27) (h_X6_takersOf g r4 a1 x2) mv_X6_takersOf wl_X7_35 rfl (Nat.le_of_ble_eq_true rfl) (by omega) (by decide) (Nat.le_of_ble_eq_true rfl) rfl dX7_look_24 rfl fun v5 => ?_
      refine v_iast (pc' := 28) dX7_look_27 rfl ?_
      refine v_iinc (v := x2 + 1) (lv' := [(2, .int (x2 + 1)), (0, rf g a0), (1, rf g a1)]) (pc' := 31) 2 dX7_look_28 rfl rfl (by decide) rfl rfl ?_
      refine v_goto (t := 2) dX7_look_31 (by decide) ?_
      refine V.sub [1, 2, 0] rfl ?_
      exact ih a0 a1 (x2 + 1)
set_option maxRecDepth 20000 in
theorem h_X7_look (g : GW) (a0 : Nat) (a1 : Nat) : V g mX7_look 13 rtU 0 [(0, rf g a0), (1, rf g a1)] [] (f_X7_look a0 a1) := by
  unfold f_X7_look
  refine v_iconst (v := 0) (pc' := 1) dX7_look_0 rfl rfl ?_
  refine v_istore_n (lv' := [(2, .int 0), (0, rf g a0), (1, rf g a1)]) (pc' := 2) dX7_look_1 rfl (by decide) rfl rfl ?_
  refine V.sub [1, 2, 0] rfl ?_
  exact h_X7_look_b2 g NF a0 a1 0
-- takesAll
def f_X7_takesAll_b35 (k2 : Nat → Int32 → Int32 → Int32 → Mo Int32) (a0 : Nat) (x1 : Int32) (x2 : Int32) (x3 : Int32) : Mo Int32 := k2 a0 x1 x2 (x3 + 1)
def f_X7_takesAll_b2 : Nat → Nat → Int32 → Int32 → Int32 → Mo Int32
  | 0, _, _, _, _ => fl
  | n + 1, a0, x1, x2, x3 => bd (gR 7 1 a0) fun r1 => bd (gI 2 4 r1) fun v2 => if (v2 ≤ x3 : Prop) then (pu 1) else if (((x2 >>> (x3 &&& 31)) &&& (1 : Int32)) = 1 : Prop) then (bd (gR 7 2 a0) fun r3 => bd (al 0 r3 x3) fun v4 => if ((v4 &&& x1) = 0 : Prop) then (pu 0) else f_X7_takesAll_b35 (f_X7_takesAll_b2 n) a0 x1 x2 x3) else f_X7_takesAll_b35 (f_X7_takesAll_b2 n) a0 x1 x2 x3
def f_X7_takesAll (a0 : Nat) (x1 : Int32) (x2 : Int32) : Mo Int32 := f_X7_takesAll_b2 NF a0 x1 x2 0
set_option maxRecDepth 20000 in
theorem h_X7_takesAll_b35 (g : GW) (k2 : Nat → Int32 → Int32 → Int32 → Mo Int32) (hk2 : ∀ a0 x1 x2 x3, V g mX7_takesAll 8 rtI 2 [(0, rf g a0), (1, .int x1), (2, .int x2), (3, .int x3)] [] (k2 a0 x1 x2 x3)) (a0 : Nat) (x1 : Int32) (x2 : Int32) (x3 : Int32) : V g mX7_takesAll 8 rtI 35 [(0, rf g a0), (1, .int x1), (2, .int x2), (3, .int x3)] [] (f_X7_takesAll_b35 k2 a0 x1 x2 x3) := by
  unfold f_X7_takesAll_b35
  refine v_iinc (v := x3 + 1) (lv' := [(3, .int (x3 + 1)), (0, rf g a0), (1, .int x1), (2, .int x2)]) (pc' := 38) 3 dX7_takesAll_35 rfl rfl (by decide) rfl rfl ?_
  refine v_goto (t := 2) dX7_takesAll_38 (by decide) ?_
  refine V.sub [1, 2, 3, 0] rfl ?_
  exact hk2 a0 x1 x2 (x3 + 1)
set_option maxRecDepth 20000 in
theorem h_X7_takesAll_b2 (g : GW) : ∀ n : Nat, ∀ a0 x1 x2 x3, V g mX7_takesAll 8 rtI 2 [(0, rf g a0), (1, .int x1), (2, .int x2), (3, .int x3)] [] (f_X7_takesAll_b2 n a0 x1 x2 x3) := by
  intro n
  induction n with
  | zero => intro a0 x1 x2 x3; exact V.vain
  | succ n ih =>
    intro a0 x1 x2 x3
    unfold f_X7_takesAll_b2
    refine v_iload_n (pc' := 3) 3 dX7_takesAll_2 rfl rfl rfl ?_
    refine v_aload_n (pc' := 4) 0 dX7_takesAll_3 rfl rfl rfl ?_
    refine v_getR (pc' := 7) fl_X7_21 dX7_takesAll_4 rfl fun r1 => ?_
    refine v_getI (pc' := 10) fl_X7_29 dX7_takesAll_7 rfl fun v2 => ?_
    refine v_icmpge (t := 41) (pc' := 13) dX7_takesAll_10 (by decide) rfl ?_ ?_
    · refine v_iconst (v := 1) (pc' := 42) dX7_takesAll_41 rfl rfl ?_
      exact v_zret rfl rfl dX7_takesAll_42
    · refine v_iload_n (pc' := 14) 2 dX7_takesAll_13 rfl rfl rfl ?_
      refine v_iload_n (pc' := 15) 3 dX7_takesAll_14 rfl rfl rfl ?_
      refine v_ishr (pc' := 16) dX7_takesAll_15 rfl ?_
      refine v_iconst (v := 1) (pc' := 17) dX7_takesAll_16 rfl rfl ?_
      refine v_iand (pc' := 18) dX7_takesAll_17 rfl ?_
      refine v_iconst (v := 1) (pc' := 19) dX7_takesAll_18 rfl rfl ?_
      refine v_icmpne (t := 35) (pc' := 22) dX7_takesAll_19 (by decide) rfl ?_ ?_
      · refine V.sub [0, 1, 2, 3] rfl ?_
        exact h_X7_takesAll_b35 g (f_X7_takesAll_b2 n) ih a0 x1 x2 x3
      · refine v_aload_n (pc' := 23) 0 dX7_takesAll_22 rfl rfl rfl ?_
        refine v_getR (pc' := 26) fl_X7_22 dX7_takesAll_23 rfl fun r3 => ?_
        refine v_iload_n (pc' := 27) 3 dX7_takesAll_26 rfl rfl rfl ?_
        refine v_iald (pc' := 28) dX7_takesAll_27 rfl fun v4 => ?_
        refine v_iload_n (pc' := 29) 1 dX7_takesAll_28 rfl rfl rfl ?_
        refine v_iand (pc' := 30) dX7_takesAll_29 rfl ?_
        refine v_ifne (t := 35) (pc' := 33) dX7_takesAll_30 (by decide) rfl ?_ ?_
        · refine V.sub [0, 1, 2, 3] rfl ?_
          exact h_X7_takesAll_b35 g (f_X7_takesAll_b2 n) ih a0 x1 x2 x3
        · refine v_iconst (v := 0) (pc' := 34) dX7_takesAll_33 rfl rfl ?_
          exact v_zret rfl rfl dX7_takesAll_34
set_option maxRecDepth 20000 in
theorem h_X7_takesAll (g : GW) (a0 : Nat) (x1 : Int32) (x2 : Int32) : V g mX7_takesAll 8 rtI 0 [(0, rf g a0), (1, .int x1), (2, .int x2)] [] (f_X7_takesAll a0 x1 x2) := by
  unfold f_X7_takesAll
  refine v_iconst (v := 0) (pc' := 1) dX7_takesAll_0 rfl rfl ?_
  refine v_istore_n (lv' := [(3, .int 0), (0, rf g a0), (1, .int x1), (2, .int x2)]) (pc' := 2) dX7_takesAll_1 rfl (by decide) rfl rfl ?_
  refine V.sub [1, 2, 3, 0] rfl ?_
  exact h_X7_takesAll_b2 g NF a0 x1 x2 0
-- leastSet
def f_X7_leastSet_b72 (k8 : Nat → Int32 → Int32 → Int32 → Int32 → Int32 → Mo Int32) (a0 : Nat) (x1 : Int32) (x2 : Int32) (x3 : Int32) (x4 : Int32) (x5 : Int32) : Mo Int32 := k8 a0 x1 x2 x3 x4 (x5 + 1)
def f_X7_leastSet_b55 (k8 : Nat → Int32 → Int32 → Int32 → Int32 → Int32 → Mo Int32) (a0 : Nat) (x1 : Int32) (x2 : Int32) (x3 : Int32) (x4 : Int32) (x5 : Int32) (x6 : Int32) : Mo Int32 := bd (cv 7 a0 (f_X7_takesAll a0 x5 x1)) fun v1 => if (v1 = 0 : Prop) then (f_X7_leastSet_b72 k8 a0 x1 x2 x3 x4 x5) else f_X7_leastSet_b72 k8 a0 x1 x2 x5 x6 x5
def f_X7_leastSet_b41 (k8 : Nat → Int32 → Int32 → Int32 → Int32 → Int32 → Mo Int32) (a0 : Nat) (x1 : Int32) (x2 : Int32) (x3 : Int32) (x4 : Int32) (x5 : Int32) (xs0 : Int32) : Mo Int32 := if (x3 = (-1) : Prop) then (f_X7_leastSet_b55 k8 a0 x1 x2 x3 x4 x5 xs0) else if (x4 ≤ xs0 : Prop) then (f_X7_leastSet_b72 k8 a0 x1 x2 x3 x4 x5) else f_X7_leastSet_b55 k8 a0 x1 x2 x3 x4 x5 xs0
def f_X7_leastSet_b8 : Nat → Nat → Int32 → Int32 → Int32 → Int32 → Int32 → Mo Int32
  | 0, _, _, _, _, _, _ => fl
  | n + 1, a0, x1, x2, x3, x4, x5 => bd (gR 7 1 a0) fun r2 => bd (cv 2 r2 (f_X2_everybody r2)) fun v3 => if (v3 < x5 : Prop) then (pu x3) else if (x2 = 0 : Prop) then (f_X7_leastSet_b41 (f_X7_leastSet_b8 n) a0 x1 x2 x3 x4 x5 (bc32 x5)) else bd (gR 7 1 a0) fun r4 => bd (cv 2 r4 (f_X2_priceOf r4 x5)) fun v5 => f_X7_leastSet_b41 (f_X7_leastSet_b8 n) a0 x1 x2 x3 x4 x5 v5
def f_X7_leastSet (a0 : Nat) (x1 : Int32) (x2 : Int32) : Mo Int32 := f_X7_leastSet_b8 NF a0 x1 x2 (-1) 0 0
set_option maxRecDepth 20000 in
theorem h_X7_leastSet_b72 (g : GW) (k8 : Nat → Int32 → Int32 → Int32 → Int32 → Int32 → Mo Int32) (hk8 : ∀ a0 x1 x2 x3 x4 x5, V g mX7_leastSet 10 rtI 8 [(0, rf g a0), (1, .int x1), (2, .int x2), (3, .int x3), (4, .int x4), (5, .int x5)] [] (k8 a0 x1 x2 x3 x4 x5)) (a0 : Nat) (x1 : Int32) (x2 : Int32) (x3 : Int32) (x4 : Int32) (x5 : Int32) : V g mX7_leastSet 10 rtI 72 [(0, rf g a0), (1, .int x1), (2, .int x2), (3, .int x3), (4, .int x4), (5, .int x5)] [] (f_X7_leastSet_b72 k8 a0 x1 x2 x3 x4 x5) := by
  unfold f_X7_leastSet_b72
  refine v_iinc (v := x5 + 1) (lv' := [(5, .int (x5 + 1)), (0, rf g a0), (1, .int x1), (2, .int x2), (3, .int x3), (4, .int x4)]) (pc' := 75) 5 dX7_leastSet_72 rfl rfl (by decide) rfl rfl ?_
  refine v_goto (t := 8) dX7_leastSet_75 (by decide) ?_
  refine V.sub [1, 2, 3, 4, 5, 0] rfl ?_
  exact hk8 a0 x1 x2 x3 x4 (x5 + 1)
set_option maxRecDepth 20000 in
theorem h_X7_leastSet_b55 (g : GW) (k8 : Nat → Int32 → Int32 → Int32 → Int32 → Int32 → Mo Int32) (hk8 : ∀ a0 x1 x2 x3 x4 x5, V g mX7_leastSet 10 rtI 8 [(0, rf g a0), (1, .int x1), (2, .int x2), (3, .int x3), (4, .int x4), (5, .int x5)] [] (k8 a0 x1 x2 x3 x4 x5)) (a0 : Nat) (x1 : Int32) (x2 : Int32) (x3 : Int32) (x4 : Int32) (x5 : Int32) (x6 : Int32) : V g mX7_leastSet 10 rtI 55 [(0, rf g a0), (1, .int x1), (2, .int x2), (3, .int x3), (4, .int x4), (5, .int x5), (6, .int x6)] [] (f_X7_leastSet_b55 k8 a0 x1 x2 x3 x4 x5 x6) := by
  unfold f_X7_leastSet_b55
  refine v_aload_n (pc' := 56) 0 dX7_leastSet_55 rfl rfl rfl ?_
  refine v_iload (pc' := 58) 5 dX7_leastSet_56 rfl rfl ?_
  refine v_iload_n (pc' := 59) 1 dX7_leastSet_58 rfl rfl rfl ?_
  refine v_callV (vs := [.int x5, .int x1]) (pc' := 62) (h_X7_takesAll g a0 x5 x1) mv_X7_takesAll wl_X7_52 rfl (Nat.le_of_ble_eq_true rfl) (by omega) (by decide) (Nat.le_of_ble_eq_true rfl) rfl dX7_leastSet_59 rfl fun v1 => ?_
  refine v_ifeq (t := 72) (pc' := 65) dX7_leastSet_62 (by decide) rfl ?_ ?_
  · refine V.sub [0, 1, 2, 3, 4, 5] rfl ?_
    exact h_X7_leastSet_b72 g k8 hk8 a0 x1 x2 x3 x4 x5
  · refine v_iload (pc' := 67) 5 dX7_leastSet_65 rfl rfl ?_
    refine v_istore_n (lv' := [(3, .int x5), (0, rf g a0), (1, .int x1), (2, .int x2), (4, .int x4), (5, .int x5), (6, .int x6)]) (pc' := 68) dX7_leastSet_67 rfl (by decide) rfl rfl ?_
    refine v_iload (pc' := 70) 6 dX7_leastSet_68 rfl rfl ?_
    refine v_istore (lv' := [(4, .int x6), (3, .int x5), (0, rf g a0), (1, .int x1), (2, .int x2), (5, .int x5), (6, .int x6)]) (pc' := 72) dX7_leastSet_70 (by decide) rfl rfl ?_
    refine V.sub [2, 3, 4, 1, 0, 5] rfl ?_
    exact h_X7_leastSet_b72 g k8 hk8 a0 x1 x2 x5 x6 x5
set_option maxRecDepth 20000 in
theorem h_X7_leastSet_b41 (g : GW) (k8 : Nat → Int32 → Int32 → Int32 → Int32 → Int32 → Mo Int32) (hk8 : ∀ a0 x1 x2 x3 x4 x5, V g mX7_leastSet 10 rtI 8 [(0, rf g a0), (1, .int x1), (2, .int x2), (3, .int x3), (4, .int x4), (5, .int x5)] [] (k8 a0 x1 x2 x3 x4 x5)) (a0 : Nat) (x1 : Int32) (x2 : Int32) (x3 : Int32) (x4 : Int32) (x5 : Int32) (xs0 : Int32) : V g mX7_leastSet 10 rtI 41 [(0, rf g a0), (1, .int x1), (2, .int x2), (3, .int x3), (4, .int x4), (5, .int x5)] [.int xs0] (f_X7_leastSet_b41 k8 a0 x1 x2 x3 x4 x5 xs0) := by
  unfold f_X7_leastSet_b41
  refine v_istore (lv' := [(6, .int xs0), (0, rf g a0), (1, .int x1), (2, .int x2), (3, .int x3), (4, .int x4), (5, .int x5)]) (pc' := 43) dX7_leastSet_41 (by decide) rfl rfl ?_
  refine v_iload_n (pc' := 44) 4 dX7_leastSet_43 rfl rfl rfl ?_
  refine v_iconst (v := -1) (pc' := 45) dX7_leastSet_44 rfl rfl ?_
  refine v_icmpeq (t := 55) (pc' := 48) dX7_leastSet_45 (by decide) rfl ?_ ?_
  · refine V.sub [1, 2, 3, 4, 5, 6, 0] rfl ?_
    exact h_X7_leastSet_b55 g k8 hk8 a0 x1 x2 x3 x4 x5 xs0
  · refine v_iload (pc' := 50) 0 dX7_leastSet_48 rfl rfl ?_
    refine v_iload (pc' := 52) 5 dX7_leastSet_50 rfl rfl ?_
    refine v_icmpge (t := 72) (pc' := 55) dX7_leastSet_52 (by decide) rfl ?_ ?_
    · refine V.sub [1, 2, 3, 4, 5, 6] rfl ?_
      exact h_X7_leastSet_b72 g k8 hk8 a0 x1 x2 x3 x4 x5
    · refine V.sub [1, 2, 3, 4, 5, 6, 0] rfl ?_
      exact h_X7_leastSet_b55 g k8 hk8 a0 x1 x2 x3 x4 x5 xs0
set_option maxRecDepth 20000 in
theorem h_X7_leastSet_b8 (g : GW) : ∀ n : Nat, ∀ a0 x1 x2 x3 x4 x5, V g mX7_leastSet 10 rtI 8 [(0, rf g a0), (1, .int x1), (2, .int x2), (3, .int x3), (4, .int x4), (5, .int x5)] [] (f_X7_leastSet_b8 n a0 x1 x2 x3 x4 x5) := by
  intro n
  induction n with
  | zero => intro a0 x1 x2 x3 x4 x5; exact V.vain
  | succ n ih =>
    intro a0 x1 x2 x3 x4 x5
    unfold f_X7_leastSet_b8
    refine v_iload (pc' := 10) 5 dX7_leastSet_8 rfl rfl ?_
    refine v_aload_n (pc' := 11) 0 dX7_leastSet_10 rfl rfl rfl ?_
    refine v_getR (pc' := 14) fl_X7_21 dX7_leastSet_11 rfl fun r2 => ?_
    refine v_callV (vs := []) (pc' := 17) (h_X2_everybody g r2) mv_X2_everybody wl_X7_39 rfl (Nat.le_of_ble_eq_true rfl) (by omega) (by decide) (Nat.le_of_ble_eq_true rfl) rfl dX7_leastSet_14 rfl fun v3 => ?_
    refine v_icmpgt (t := 78) (pc' := 20) dX7_leastSet_17 (by decide) rfl ?_ ?_
    · refine v_iload_n (pc' := 79) 3 dX7_leastSet_78 rfl rfl rfl ?_
      exact v_ireturn rfl dX7_leastSet_79
    · refine v_iload_n (pc' := 21) 2 dX7_leastSet_20 rfl rfl rfl ?_
      refine v_ifeq (t := 36) (pc' := 24) dX7_leastSet_21 (by decide) rfl ?_ ?_
      · refine v_iload (pc' := 38) 5 dX7_leastSet_36 rfl rfl ?_
        refine v_bc32 (pc' := 41) (by omega) (tg5 104 (by decide +kernel) (by decide +kernel)) (Nat.le_of_ble_eq_true rfl) rfl dX7_leastSet_38 rfl ?_
        refine V.sub [0, 1, 2, 3, 4, 5] rfl ?_
        exact h_X7_leastSet_b41 g (f_X7_leastSet_b8 n) ih a0 x1 x2 x3 x4 x5 (bc32 x5)
      · refine v_aload_n (pc' := 25) 0 dX7_leastSet_24 rfl rfl rfl ?_
        refine v_getR (pc' := 28) fl_X7_21 dX7_leastSet_25 rfl fun r4 => ?_
        refine v_iload (pc' := 30) 5 dX7_leastSet_28 rfl rfl ?_
        refine v_callV (vs := [.int x5]) (pc' := 33) (h_X2_priceOf g r4 x5) mv_X2_priceOf wl_X7_43 rfl (Nat.le_of_ble_eq_true rfl) (by omega) (by decide) (Nat.le_of_ble_eq_true rfl) rfl dX7_leastSet_30 rfl fun v5 => ?_
        refine v_goto (t := 41) dX7_leastSet_33 (by decide) ?_
        refine V.sub [0, 1, 2, 3, 4, 5] rfl ?_
        exact h_X7_leastSet_b41 g (f_X7_leastSet_b8 n) ih a0 x1 x2 x3 x4 x5 v5
set_option maxRecDepth 20000 in
theorem h_X7_leastSet (g : GW) (a0 : Nat) (x1 : Int32) (x2 : Int32) : V g mX7_leastSet 10 rtI 0 [(0, rf g a0), (1, .int x1), (2, .int x2)] [] (f_X7_leastSet a0 x1 x2) := by
  unfold f_X7_leastSet
  refine v_iconst (v := -1) (pc' := 1) dX7_leastSet_0 rfl rfl ?_
  refine v_istore_n (lv' := [(3, .int (-1)), (0, rf g a0), (1, .int x1), (2, .int x2)]) (pc' := 2) dX7_leastSet_1 rfl (by decide) rfl rfl ?_
  refine v_iconst (v := 0) (pc' := 3) dX7_leastSet_2 rfl rfl ?_
  refine v_istore (lv' := [(4, .int 0), (3, .int (-1)), (0, rf g a0), (1, .int x1), (2, .int x2)]) (pc' := 5) dX7_leastSet_3 (by decide) rfl rfl ?_
  refine v_iconst (v := 0) (pc' := 6) dX7_leastSet_5 rfl rfl ?_
  refine v_istore (lv' := [(5, .int 0), (4, .int 0), (3, .int (-1)), (0, rf g a0), (1, .int x1), (2, .int x2)]) (pc' := 8) dX7_leastSet_6 (by decide) rfl rfl ?_
  refine V.sub [3, 4, 5, 2, 1, 0] rfl ?_
  exact h_X7_leastSet_b8 g NF a0 x1 x2 (-1) 0 0
-- closeRing
def f_X7_closeRing_b44 : Nat → Nat → Int32 → Int32 → Mo Unit
  | 0, _, _, _ => fl
  | n + 1, a0, x1, x3 => if (x1 ≤ x3 : Prop) then (pu ()) else bd (gI 7 5 a0) fun v1 => bd (gR 7 3 a0) fun r2 => bd (al 0 r2 x3) fun v3 => bd (pf 7 5 a0 (.int ((v1 * (10 : Int32)) + v3))) fun _ => (f_X7_closeRing_b44 n) a0 x1 (x3 + 1)
def f_X7_closeRing (a0 : Nat) (x1 : Int32) (x2 : Int32) : Mo Unit := bd (gR 7 2 a0) fun r4 => bd (gR 7 3 a0) fun r5 => bd (al 0 r5 0) fun v6 => bd (al 0 r4 v6) fun v7 => if (((v7 >>> (x2 &&& 31)) &&& (1 : Int32)) = 0 : Prop) then (pu ()) else bd (gI 7 4 a0) fun v8 => bd (pf 7 4 a0 (.int (v8 + (1 : Int32)))) fun _ => bd (gI 7 4 a0) fun v9 => if (v9 = 1 : Prop) then (bd (pf 7 5 a0 (.int 0)) fun _ => f_X7_closeRing_b44 NF a0 x1 0) else pu ()
set_option maxRecDepth 20000 in
theorem h_X7_closeRing_b44 (g : GW) : ∀ n : Nat, ∀ a0 x1 x3, V g mX7_closeRing 8 rtU 44 [(0, rf g a0), (1, .int x1), (3, .int x3)] [] (f_X7_closeRing_b44 n a0 x1 x3) := by
  intro n
  induction n with
  | zero => intro a0 x1 x3; exact V.vain
  | succ n ih =>
    intro a0 x1 x3
    unfold f_X7_closeRing_b44
    refine v_iload_n (pc' := 45) 2 dX7_closeRing_44 rfl rfl rfl ?_
    refine v_iload_n (pc' := 46) 1 dX7_closeRing_45 rfl rfl rfl ?_
    refine v_icmpge (t := 73) (pc' := 49) dX7_closeRing_46 (by decide) rfl ?_ ?_
    · exact v_return rfl dX7_closeRing_73
    · refine v_aload_n (pc' := 50) 0 dX7_closeRing_49 rfl rfl rfl ?_
      refine v_aload_n (pc' := 51) 0 dX7_closeRing_50 rfl rfl rfl ?_
      refine v_getI (pc' := 54) fl_X7_59 dX7_closeRing_51 rfl fun v1 => ?_
      refine v_bipush (v := 10) (pc' := 56) dX7_closeRing_54 rfl rfl ?_
      refine v_imul (pc' := 57) dX7_closeRing_56 rfl ?_
      refine v_aload_n (pc' := 58) 0 dX7_closeRing_57 rfl rfl rfl ?_
      refine v_getR (pc' := 61) fl_X7_26 dX7_closeRing_58 rfl fun r2 => ?_
      refine v_iload_n (pc' := 62) 2 dX7_closeRing_61 rfl rfl rfl ?_
      refine v_iald (pc' := 63) dX7_closeRing_62 rfl fun v3 => ?_
      refine v_iadd (pc' := 64) dX7_closeRing_63 rfl ?_
      refine v_put (v := (.int ((v1 * (10 : Int32)) + v3))) (v' := .int ((v1 * (10 : Int32)) + v3)) (pc' := 67) fw_X7_59 rfl rfl rfl (fun h => nomatch h) dX7_closeRing_64 rfl ?_
      refine v_iinc (v := x3 + 1) (lv' := [(3, .int (x3 + 1)), (0, rf g a0), (1, .int x1)]) (pc' := 70) 2 dX7_closeRing_67 rfl rfl (by decide) rfl rfl ?_
      refine v_goto (t := 44) dX7_closeRing_70 (by decide) ?_
      refine V.sub [1, 2, 0] rfl ?_
      exact ih a0 x1 (x3 + 1)
set_option maxRecDepth 20000 in
theorem h_X7_closeRing (g : GW) (a0 : Nat) (x1 : Int32) (x2 : Int32) : V g mX7_closeRing 8 rtU 0 [(0, rf g a0), (1, .int x1), (2, .int x2)] [] (f_X7_closeRing a0 x1 x2) := by
  unfold f_X7_closeRing
  refine v_aload_n (pc' := 1) 0 dX7_closeRing_0 rfl rfl rfl ?_
  refine v_getR (pc' := 4) fl_X7_22 dX7_closeRing_1 rfl fun r4 => ?_
  refine v_aload_n (pc' := 5) 0 dX7_closeRing_4 rfl rfl rfl ?_
  refine v_getR (pc' := 8) fl_X7_26 dX7_closeRing_5 rfl fun r5 => ?_
  refine v_iconst (v := 0) (pc' := 9) dX7_closeRing_8 rfl rfl ?_
  refine v_iald (pc' := 10) dX7_closeRing_9 rfl fun v6 => ?_
  refine v_iald (pc' := 11) dX7_closeRing_10 rfl fun v7 => ?_
  refine v_iload_n (pc' := 12) 2 dX7_closeRing_11 rfl rfl rfl ?_
  refine v_ishr (pc' := 13) dX7_closeRing_12 rfl ?_
  refine v_iconst (v := 1) (pc' := 14) dX7_closeRing_13 rfl rfl ?_
  refine v_iand (pc' := 15) dX7_closeRing_14 rfl ?_
  refine v_ifne (t := 19) (pc' := 18) dX7_closeRing_15 (by decide) rfl ?_ ?_
  · refine v_aload_n (pc' := 20) 0 dX7_closeRing_19 rfl rfl rfl ?_
    refine v_dup (pc' := 21) dX7_closeRing_20 rfl rfl ?_
    refine v_getI (pc' := 24) fl_X7_56 dX7_closeRing_21 rfl fun v8 => ?_
    refine v_iconst (v := 1) (pc' := 25) dX7_closeRing_24 rfl rfl ?_
    refine v_iadd (pc' := 26) dX7_closeRing_25 rfl ?_
    refine v_put (v := (.int (v8 + (1 : Int32)))) (v' := .int (v8 + (1 : Int32))) (pc' := 29) fw_X7_56 rfl rfl rfl (fun h => nomatch h) dX7_closeRing_26 rfl ?_
    refine v_aload_n (pc' := 30) 0 dX7_closeRing_29 rfl rfl rfl ?_
    refine v_getI (pc' := 33) fl_X7_56 dX7_closeRing_30 rfl fun v9 => ?_
    refine v_iconst (v := 1) (pc' := 34) dX7_closeRing_33 rfl rfl ?_
    refine v_icmpne (t := 73) (pc' := 37) dX7_closeRing_34 (by decide) rfl ?_ ?_
    · exact v_return rfl dX7_closeRing_73
    · refine v_aload_n (pc' := 38) 0 dX7_closeRing_37 rfl rfl rfl ?_
      refine v_iconst (v := 0) (pc' := 39) dX7_closeRing_38 rfl rfl ?_
      refine v_put (v := (.int 0)) (v' := .int 0) (pc' := 42) fw_X7_59 rfl rfl rfl (fun h => nomatch h) dX7_closeRing_39 rfl ?_
      refine v_iconst (v := 0) (pc' := 43) dX7_closeRing_42 rfl rfl ?_
      refine v_istore_n (lv' := [(3, .int 0), (0, rf g a0), (1, .int x1), (2, .int x2)]) (pc' := 44) dX7_closeRing_43 rfl (by decide) rfl rfl ?_
      refine V.sub [1, 2, 0] rfl ?_
      exact h_X7_closeRing_b44 g NF a0 x1 0
  · exact v_return rfl dX7_closeRing_18
-- lengthen
def f_X7_lengthen_b103 (rec : Nat → Int32 → Int32 → Int32 → Mo Unit) (k44 : Nat → Int32 → Int32 → Int32 → Int32 → Int32 → Mo Unit) (a0 : Nat) (x1 : Int32) (x2 : Int32) (x3 : Int32) (x4 : Int32) (x5 : Int32) : Mo Unit := k44 a0 x1 x2 x3 x4 (x5 + 1)
def f_X7_lengthen_b44 (rec : Nat → Int32 → Int32 → Int32 → Mo Unit) : Nat → Nat → Int32 → Int32 → Int32 → Int32 → Int32 → Mo Unit
  | 0, _, _, _, _, _, _ => fl
  | n + 1, a0, x1, x2, x3, x4, x5 => bd (gR 7 1 a0) fun r1 => bd (gI 2 4 r1) fun v2 => if (v2 ≤ x5 : Prop) then (pu ()) else if (((x3 >>> (x5 &&& 31)) &&& (1 : Int32)) = 0 : Prop) then (bd (gR 7 2 a0) fun r3 => bd (al 0 r3 x5) fun v4 => if (((v4 >>> (x4 &&& 31)) &&& (1 : Int32)) = 1 : Prop) then (bd (gR 7 3 a0) fun r5 => bd (as_ r5 x2 x5) fun _ => bd (cv 7 a0 (rec a0 x1 (x2 + (1 : Int32)) (x3 ||| ((1 : Int32) <<< (x5 &&& 31))))) fun _ => f_X7_lengthen_b103 rec (f_X7_lengthen_b44 rec n) a0 x1 x2 x3 x4 x5) else f_X7_lengthen_b103 rec (f_X7_lengthen_b44 rec n) a0 x1 x2 x3 x4 x5) else f_X7_lengthen_b103 rec (f_X7_lengthen_b44 rec n) a0 x1 x2 x3 x4 x5
def f_X7_lengthen (rec : Nat → Int32 → Int32 → Int32 → Mo Unit) (a0 : Nat) (x1 : Int32) (x2 : Int32) (x3 : Int32) : Mo Unit := if (x2 < 1 : Prop) then (pu ()) else if (x2 ≤ 5 : Prop) then (bd (gR 7 3 a0) fun r6 => bd (al 0 r6 (x2 - (1 : Int32))) fun v7 => if (x2 < x1 : Prop) then (bd (gR 7 3 a0) fun r8 => bd (al 0 r8 0) fun v9 => f_X7_lengthen_b44 rec NF a0 x1 x2 x3 v7 (v9 + (1 : Int32))) else bd (cv 7 a0 (f_X7_closeRing a0 x1 v7)) fun _ => pu ()) else pu ()
def F_X7_lengthen : Nat → Nat → Int32 → Int32 → Int32 → Mo Unit
  | 0, _, _, _, _ => fl
  | D + 1, a0, x1, x2, x3 => f_X7_lengthen (F_X7_lengthen D) a0 x1 x2 x3
set_option maxRecDepth 20000 in
theorem h_X7_lengthen_b103 (g : GW) (rec : Nat → Int32 → Int32 → Int32 → Mo Unit) (e : Nat) (he : 8 ≤ e) (hrec : ∀ a0 x1 x2 x3, V g mX7_lengthen e rtU 0 [(0, rf g a0), (1, .int x1), (2, .int x2), (3, .int x3)] [] (rec a0 x1 x2 x3)) (k44 : Nat → Int32 → Int32 → Int32 → Int32 → Int32 → Mo Unit) (hk44 : ∀ a0 x1 x2 x3 x4 x5, V g mX7_lengthen (e + 1) rtU 44 [(0, rf g a0), (1, .int x1), (2, .int x2), (3, .int x3), (4, .int x4), (5, .int x5)] [] (k44 a0 x1 x2 x3 x4 x5)) (a0 : Nat) (x1 : Int32) (x2 : Int32) (x3 : Int32) (x4 : Int32) (x5 : Int32) : V g mX7_lengthen (e + 1) rtU 103 [(0, rf g a0), (1, .int x1), (2, .int x2), (3, .int x3), (4, .int x4), (5, .int x5)] [] (f_X7_lengthen_b103 rec k44 a0 x1 x2 x3 x4 x5) := by
  unfold f_X7_lengthen_b103
  refine v_iinc (v := x5 + 1) (lv' := [(5, .int (x5 + 1)), (0, rf g a0), (1, .int x1), (2, .int x2), (3, .int x3), (4, .int x4)]) (pc' := 106) 5 dX7_lengthen_103 rfl rfl (by decide) rfl rfl ?_
  refine v_goto (t := 44) dX7_lengthen_106 (by decide) ?_
  refine V.sub [1, 2, 3, 4, 5, 0] rfl ?_
  exact hk44 a0 x1 x2 x3 x4 (x5 + 1)
set_option maxRecDepth 20000 in
theorem h_X7_lengthen_b44 (g : GW) (rec : Nat → Int32 → Int32 → Int32 → Mo Unit) (e : Nat) (he : 8 ≤ e) (hrec : ∀ a0 x1 x2 x3, V g mX7_lengthen e rtU 0 [(0, rf g a0), (1, .int x1), (2, .int x2), (3, .int x3)] [] (rec a0 x1 x2 x3)) : ∀ n : Nat, ∀ a0 x1 x2 x3 x4 x5, V g mX7_lengthen (e + 1) rtU 44 [(0, rf g a0), (1, .int x1), (2, .int x2), (3, .int x3), (4, .int x4), (5, .int x5)] [] (f_X7_lengthen_b44 rec n a0 x1 x2 x3 x4 x5) := by
  intro n
  induction n with
  | zero => intro a0 x1 x2 x3 x4 x5; exact V.vain
  | succ n ih =>
    intro a0 x1 x2 x3 x4 x5
    unfold f_X7_lengthen_b44
    refine v_iload (pc' := 46) 5 dX7_lengthen_44 rfl rfl ?_
    refine v_aload_n (pc' := 47) 0 dX7_lengthen_46 rfl rfl rfl ?_
    refine v_getR (pc' := 50) fl_X7_21 dX7_lengthen_47 rfl fun r1 => ?_
    refine v_getI (pc' := 53) fl_X7_29 dX7_lengthen_50 rfl fun v2 => ?_
    refine v_icmpge (t := 109) (pc' := 56) dX7_lengthen_53 (by decide) rfl ?_ ?_
    · exact v_return rfl dX7_lengthen_109
    · refine v_iload_n (pc' := 57) 3 dX7_lengthen_56 rfl rfl rfl ?_
      refine v_iload (pc' := 59) 5 dX7_lengthen_57 rfl rfl ?_
      refine v_ishr (pc' := 60) dX7_lengthen_59 rfl ?_
      refine v_iconst (v := 1) (pc' := 61) dX7_lengthen_60 rfl rfl ?_
      refine v_iand (pc' := 62) dX7_lengthen_61 rfl ?_
      refine v_ifne (t := 103) (pc' := 65) dX7_lengthen_62 (by decide) rfl ?_ ?_
      · refine V.sub [0, 1, 2, 3, 4, 5] rfl ?_
        exact h_X7_lengthen_b103 g rec e he hrec (f_X7_lengthen_b44 rec n) ih a0 x1 x2 x3 x4 x5
      · refine v_aload_n (pc' := 66) 0 dX7_lengthen_65 rfl rfl rfl ?_
        refine v_getR (pc' := 69) fl_X7_22 dX7_lengthen_66 rfl fun r3 => ?_
        refine v_iload (pc' := 71) 5 dX7_lengthen_69 rfl rfl ?_
        refine v_iald (pc' := 72) dX7_lengthen_71 rfl fun v4 => ?_
        refine v_iload (pc' := 74) 4 dX7_lengthen_72 rfl rfl ?_
        refine v_ishr (pc' := 75) dX7_lengthen_74 rfl ?_
        refine v_iconst (v := 1) (pc' := 76) dX7_lengthen_75 rfl rfl ?_
        refine v_iand (pc' := 77) dX7_lengthen_76 rfl ?_
        refine v_iconst (v := 1) (pc' := 78) dX7_lengthen_77 rfl rfl ?_
        refine v_icmpne (t := 103) (pc' := 81) dX7_lengthen_78 (by decide) rfl ?_ ?_
        · refine V.sub [0, 1, 2, 3, 4, 5] rfl ?_
          exact h_X7_lengthen_b103 g rec e he hrec (f_X7_lengthen_b44 rec n) ih a0 x1 x2 x3 x4 x5
        · refine v_aload_n (pc' := 82) 0 dX7_lengthen_81 rfl rfl rfl ?_
          refine v_getR (pc' := 85) fl_X7_26 dX7_lengthen_82 rfl fun r5 => ?_
          refine v_iload_n (pc' := 86) 2 dX7_lengthen_85 rfl rfl rfl ?_
          refine v_iload (pc' := 88) 5 dX7_lengthen_86 rfl rfl ?_
          refine v_iast (pc' := 89) dX7_lengthen_88 rfl ?_
          refine v_aload_n (pc' := 90) 0 dX7_lengthen_89 rfl rfl rfl ?_
          refine v_iload_n (pc' := 91) 1 dX7_lengthen_90 rfl rfl rfl ?_
          refine v_iload_n (pc' := 92) 2 dX7_lengthen_91 rfl rfl rfl ?_
          refine v_iconst (v := 1) (pc' := 93) dX7_lengthen_92 rfl rfl ?_
          refine v_iadd (pc' := 94) dX7_lengthen_93 rfl ?_
          refine v_iload_n (pc' := 95) 3 dX7_lengthen_94 rfl rfl rfl ?_
          refine v_iconst (v := 1) (pc' := 96) dX7_lengthen_95 rfl rfl ?_
          refine v_iload (pc' := 98) 5 dX7_lengthen_96 rfl rfl ?_
          refine v_ishl (pc' := 99) dX7_lengthen_98 rfl ?_
          refine v_ior (pc' := 100) dX7_lengthen_99 rfl ?_
          refine v_callV (vs := [.int x1, .int (x2 + (1 : Int32)), .int (x3 ||| ((1 : Int32) <<< (x5 &&& 31)))]) (pc' := 103) (hrec a0 x1 (x2 + (1 : Int32)) (x3 ||| ((1 : Int32) <<< (x5 &&& 31)))) mv_X7_lengthen wl_X7_62 rfl (Nat.le_of_ble_eq_true rfl) (by omega) (by decide) (Nat.le_of_ble_eq_true rfl) rfl dX7_lengthen_100 rfl fun _ => ?_
          refine V.sub [0, 1, 2, 3, 4, 5] rfl ?_
          exact h_X7_lengthen_b103 g rec e he hrec (f_X7_lengthen_b44 rec n) ih a0 x1 x2 x3 x4 x5
set_option maxRecDepth 20000 in
theorem h_X7_lengthen (g : GW) (rec : Nat → Int32 → Int32 → Int32 → Mo Unit) (e : Nat) (he : 8 ≤ e) (hrec : ∀ a0 x1 x2 x3, V g mX7_lengthen e rtU 0 [(0, rf g a0), (1, .int x1), (2, .int x2), (3, .int x3)] [] (rec a0 x1 x2 x3)) (a0 : Nat) (x1 : Int32) (x2 : Int32) (x3 : Int32) : V g mX7_lengthen (e + 1) rtU 0 [(0, rf g a0), (1, .int x1), (2, .int x2), (3, .int x3)] [] (f_X7_lengthen rec a0 x1 x2 x3) := by
  unfold f_X7_lengthen
  refine v_iload_n (pc' := 1) 2 dX7_lengthen_0 rfl rfl rfl ?_
  refine v_iconst (v := 1) (pc' := 2) dX7_lengthen_1 rfl rfl ?_
  refine v_icmplt (t := 10) (pc' := 5) dX7_lengthen_2 (by decide) rfl ?_ ?_
  · exact v_return rfl dX7_lengthen_10
  · refine v_iload_n (pc' := 6) 2 dX7_lengthen_5 rfl rfl rfl ?_
    refine v_iconst (v := 5) (pc' := 7) dX7_lengthen_6 rfl rfl ?_
    refine v_icmple (t := 11) (pc' := 10) dX7_lengthen_7 (by decide) rfl ?_ ?_
    · refine v_aload_n (pc' := 12) 0 dX7_lengthen_11 rfl rfl rfl ?_
      refine v_getR (pc' := 15) fl_X7_26 dX7_lengthen_12 rfl fun r6 => ?_
      refine v_iload_n (pc' := 16) 2 dX7_lengthen_15 rfl rfl rfl ?_
      refine v_iconst (v := 1) (pc' := 17) dX7_lengthen_16 rfl rfl ?_
      refine v_isub (pc' := 18) dX7_lengthen_17 rfl ?_
      refine v_iald (pc' := 19) dX7_lengthen_18 rfl fun v7 => ?_
      refine v_istore (lv' := [(4, .int v7), (0, rf g a0), (1, .int x1), (2, .int x2), (3, .int x3)]) (pc' := 21) dX7_lengthen_19 (by decide) rfl rfl ?_
      refine v_iload_n (pc' := 22) 3 dX7_lengthen_21 rfl rfl rfl ?_
      refine v_iload_n (pc' := 23) 2 dX7_lengthen_22 rfl rfl rfl ?_
      refine v_icmplt (t := 34) (pc' := 26) dX7_lengthen_23 (by decide) rfl ?_ ?_
      · refine v_aload_n (pc' := 35) 1 dX7_lengthen_34 rfl rfl rfl ?_
        refine v_getR (pc' := 38) fl_X7_26 dX7_lengthen_35 rfl fun r8 => ?_
        refine v_iconst (v := 0) (pc' := 39) dX7_lengthen_38 rfl rfl ?_
        refine v_iald (pc' := 40) dX7_lengthen_39 rfl fun v9 => ?_
        refine v_iconst (v := 1) (pc' := 41) dX7_lengthen_40 rfl rfl ?_
        refine v_iadd (pc' := 42) dX7_lengthen_41 rfl ?_
        refine v_istore (lv' := [(5, .int (v9 + (1 : Int32))), (4, .int v7), (0, rf g a0), (1, .int x1), (2, .int x2), (3, .int x3)]) (pc' := 44) dX7_lengthen_42 (by decide) rfl rfl ?_
        refine V.sub [2, 3, 4, 5, 1, 0] rfl ?_
        exact h_X7_lengthen_b44 g rec e he hrec NF a0 x1 x2 x3 v7 (v9 + (1 : Int32))
      · refine v_aload_n (pc' := 27) 1 dX7_lengthen_26 rfl rfl rfl ?_
        refine v_iload_n (pc' := 28) 2 dX7_lengthen_27 rfl rfl rfl ?_
        refine v_iload (pc' := 30) 0 dX7_lengthen_28 rfl rfl ?_
        refine v_callV (vs := [.int x1, .int v7]) (pc' := 33) (h_X7_closeRing g a0 x1 v7) mv_X7_closeRing wl_X7_66 rfl (Nat.le_of_ble_eq_true rfl) (by omega) (by decide) (Nat.le_of_ble_eq_true rfl) rfl dX7_lengthen_30 rfl fun _ => ?_
        exact v_return rfl dX7_lengthen_33
    · exact v_return rfl dX7_lengthen_10
theorem H_X7_lengthen (g : GW) : ∀ (D : Nat) a0 x1 x2 x3, V g mX7_lengthen (8 + D * 1) rtU 0 [(0, rf g a0), (1, .int x1), (2, .int x2), (3, .int x3)] [] (F_X7_lengthen D a0 x1 x2 x3)
  | 0, _, _, _, _ => V.vain
  | D + 1, a0, x1, x2, x3 => by
    have h := h_X7_lengthen g (F_X7_lengthen D) (8 + D * 1) (Nat.le_add_right _ _) (fun a0 x1 x2 x3 => H_X7_lengthen g D a0 x1 x2 x3) a0 x1 x2 x3
    rw [show 8 + (D + 1) * 1 = 8 + D * 1 + 1 by omega]
    exact h
-- seekRings
def f_X7_seekRings_b12 : Nat → Nat → Int32 → Int32 → Mo Unit
  | 0, _, _, _ => fl
  | n + 1, a0, x1, x2 => bd (gR 7 1 a0) fun r1 => bd (gI 2 4 r1) fun v2 => if (v2 ≤ x2 : Prop) then (pu ()) else bd (gR 7 3 a0) fun r3 => bd (as_ r3 0 x2) fun _ => bd (cv 7 a0 (F_X7_lengthen 12 a0 x1 1 ((1 : Int32) <<< (x2 &&& 31)))) fun _ => (f_X7_seekRings_b12 n) a0 x1 (x2 + 1)
def f_X7_seekRings (a0 : Nat) (x1 : Int32) : Mo Unit := bd (pf 7 4 a0 (.int 0)) fun _ => bd (pf 7 5 a0 (.int (-1))) fun _ => f_X7_seekRings_b12 NF a0 x1 0
set_option maxRecDepth 20000 in
theorem h_X7_seekRings_b12 (g : GW) : ∀ n : Nat, ∀ a0 x1 x2, V g mX7_seekRings 21 rtU 12 [(0, rf g a0), (1, .int x1), (2, .int x2)] [] (f_X7_seekRings_b12 n a0 x1 x2) := by
  intro n
  induction n with
  | zero => intro a0 x1 x2; exact V.vain
  | succ n ih =>
    intro a0 x1 x2
    unfold f_X7_seekRings_b12
    refine v_iload_n (pc' := 13) 2 dX7_seekRings_12 rfl rfl rfl ?_
    refine v_aload_n (pc' := 14) 0 dX7_seekRings_13 rfl rfl rfl ?_
    refine v_getR (pc' := 17) fl_X7_21 dX7_seekRings_14 rfl fun r1 => ?_
    refine v_getI (pc' := 20) fl_X7_29 dX7_seekRings_17 rfl fun v2 => ?_
    refine v_icmpge (t := 45) (pc' := 23) dX7_seekRings_20 (by decide) rfl ?_ ?_
    · exact v_return rfl dX7_seekRings_45
    · refine v_aload_n (pc' := 24) 0 dX7_seekRings_23 rfl rfl rfl ?_
      refine v_getR (pc' := 27) fl_X7_26 dX7_seekRings_24 rfl fun r3 => ?_
      refine v_iconst (v := 0) (pc' := 28) dX7_seekRings_27 rfl rfl ?_
      refine v_iload_n (pc' := 29) 2 dX7_seekRings_28 rfl rfl rfl ?_
      refine v_iast (pc' := 30) dX7_seekRings_29 rfl ?_
      refine v_aload_n (pc' := 31) 0 dX7_seekRings_30 rfl rfl rfl ?_
      refine v_iload_n (pc' := 32) 1 dX7_seekRings_31 rfl rfl rfl ?_
      refine v_iconst (v := 1) (pc' := 33) dX7_seekRings_32 rfl rfl ?_
      refine v_iconst (v := 1) (pc' := 34) dX7_seekRings_33 rfl rfl ?_
      refine v_iload_n (pc' := 35) 2 dX7_seekRings_34 rfl rfl rfl ?_
      refine v_ishl (pc' := 36) dX7_seekRings_35 rfl ?_
      refine v_callV (vs := [.int x1, .int 1, .int ((1 : Int32) <<< (x2 &&& 31))]) (pc' := 39) (H_X7_lengthen g 12 a0 x1 1 ((1 : Int32) <<< (x2 &&& 31))) mv_X7_lengthen wl_X7_62 rfl (Nat.le_of_ble_eq_true rfl) (by omega) (by decide) (Nat.le_of_ble_eq_true rfl) rfl dX7_seekRings_36 rfl fun _ => ?_
      refine v_iinc (v := x2 + 1) (lv' := [(2, .int (x2 + 1)), (0, rf g a0), (1, .int x1)]) (pc' := 42) 2 dX7_seekRings_39 rfl rfl (by decide) rfl rfl ?_
      refine v_goto (t := 12) dX7_seekRings_42 (by decide) ?_
      refine V.sub [1, 2, 0] rfl ?_
      exact ih a0 x1 (x2 + 1)
set_option maxRecDepth 20000 in
theorem h_X7_seekRings (g : GW) (a0 : Nat) (x1 : Int32) : V g mX7_seekRings 21 rtU 0 [(0, rf g a0), (1, .int x1)] [] (f_X7_seekRings a0 x1) := by
  unfold f_X7_seekRings
  refine v_aload_n (pc' := 1) 0 dX7_seekRings_0 rfl rfl rfl ?_
  refine v_iconst (v := 0) (pc' := 2) dX7_seekRings_1 rfl rfl ?_
  refine v_put (v := (.int 0)) (v' := .int 0) (pc' := 5) fw_X7_56 rfl rfl rfl (fun h => nomatch h) dX7_seekRings_2 rfl ?_
  refine v_aload_n (pc' := 6) 0 dX7_seekRings_5 rfl rfl rfl ?_
  refine v_iconst (v := -1) (pc' := 7) dX7_seekRings_6 rfl rfl ?_
  refine v_put (v := (.int (-1))) (v' := .int (-1)) (pc' := 10) fw_X7_59 rfl rfl rfl (fun h => nomatch h) dX7_seekRings_7 rfl ?_
  refine v_iconst (v := 0) (pc' := 11) dX7_seekRings_10 rfl rfl ?_
  refine v_istore_n (lv' := [(2, .int 0), (0, rf g a0), (1, .int x1)]) (pc' := 12) dX7_seekRings_11 rfl (by decide) rfl rfl ?_
  refine V.sub [1, 2, 0] rfl ?_
  exact h_X7_seekRings_b12 g NF a0 x1 0
-- nextTo
def f_X7_nextTo_b32 (k4 : Nat → Int32 → Int32 → Int32 → Mo Int32) (a0 : Nat) (x1 : Int32) (x2 : Int32) (x3 : Int32) : Mo Int32 := k4 a0 x1 x2 (x3 + 1)
def f_X7_nextTo_b4 : Nat → Nat → Int32 → Int32 → Int32 → Mo Int32
  | 0, _, _, _, _ => fl
  | n + 1, a0, x1, x2, x3 => bd (gR 7 1 a0) fun r1 => bd (gI 2 4 r1) fun v2 => if (v2 ≤ x3 : Prop) then (pu x2) else bd (gR 7 2 a0) fun r3 => bd (al 0 r3 x3) fun v4 => if ((v4 &&& x1) = 0 : Prop) then (f_X7_nextTo_b32 (f_X7_nextTo_b4 n) a0 x1 x2 x3) else f_X7_nextTo_b32 (f_X7_nextTo_b4 n) a0 x1 (x2 ||| ((1 : Int32) <<< (x3 &&& 31))) x3
def f_X7_nextTo (a0 : Nat) (x1 : Int32) : Mo Int32 := f_X7_nextTo_b4 NF a0 x1 0 0
set_option maxRecDepth 20000 in
theorem h_X7_nextTo_b32 (g : GW) (k4 : Nat → Int32 → Int32 → Int32 → Mo Int32) (hk4 : ∀ a0 x1 x2 x3, V g mX7_nextTo 8 rtI 4 [(0, rf g a0), (1, .int x1), (2, .int x2), (3, .int x3)] [] (k4 a0 x1 x2 x3)) (a0 : Nat) (x1 : Int32) (x2 : Int32) (x3 : Int32) : V g mX7_nextTo 8 rtI 32 [(0, rf g a0), (1, .int x1), (2, .int x2), (3, .int x3)] [] (f_X7_nextTo_b32 k4 a0 x1 x2 x3) := by
  unfold f_X7_nextTo_b32
  refine v_iinc (v := x3 + 1) (lv' := [(3, .int (x3 + 1)), (0, rf g a0), (1, .int x1), (2, .int x2)]) (pc' := 35) 3 dX7_nextTo_32 rfl rfl (by decide) rfl rfl ?_
  refine v_goto (t := 4) dX7_nextTo_35 (by decide) ?_
  refine V.sub [1, 2, 3, 0] rfl ?_
  exact hk4 a0 x1 x2 (x3 + 1)
set_option maxRecDepth 20000 in
theorem h_X7_nextTo_b4 (g : GW) : ∀ n : Nat, ∀ a0 x1 x2 x3, V g mX7_nextTo 8 rtI 4 [(0, rf g a0), (1, .int x1), (2, .int x2), (3, .int x3)] [] (f_X7_nextTo_b4 n a0 x1 x2 x3) := by
  intro n
  induction n with
  | zero => intro a0 x1 x2 x3; exact V.vain
  | succ n ih =>
    intro a0 x1 x2 x3
    unfold f_X7_nextTo_b4
    refine v_iload_n (pc' := 5) 3 dX7_nextTo_4 rfl rfl rfl ?_
    refine v_aload_n (pc' := 6) 0 dX7_nextTo_5 rfl rfl rfl ?_
    refine v_getR (pc' := 9) fl_X7_21 dX7_nextTo_6 rfl fun r1 => ?_
    refine v_getI (pc' := 12) fl_X7_29 dX7_nextTo_9 rfl fun v2 => ?_
    refine v_icmpge (t := 38) (pc' := 15) dX7_nextTo_12 (by decide) rfl ?_ ?_
    · refine v_iload_n (pc' := 39) 2 dX7_nextTo_38 rfl rfl rfl ?_
      exact v_ireturn rfl dX7_nextTo_39
    · refine v_aload_n (pc' := 16) 0 dX7_nextTo_15 rfl rfl rfl ?_
      refine v_getR (pc' := 19) fl_X7_22 dX7_nextTo_16 rfl fun r3 => ?_
      refine v_iload_n (pc' := 20) 3 dX7_nextTo_19 rfl rfl rfl ?_
      refine v_iald (pc' := 21) dX7_nextTo_20 rfl fun v4 => ?_
      refine v_iload_n (pc' := 22) 1 dX7_nextTo_21 rfl rfl rfl ?_
      refine v_iand (pc' := 23) dX7_nextTo_22 rfl ?_
      refine v_ifeq (t := 32) (pc' := 26) dX7_nextTo_23 (by decide) rfl ?_ ?_
      · refine V.sub [0, 1, 2, 3] rfl ?_
        exact h_X7_nextTo_b32 g (f_X7_nextTo_b4 n) ih a0 x1 x2 x3
      · refine v_iload_n (pc' := 27) 2 dX7_nextTo_26 rfl rfl rfl ?_
        refine v_iconst (v := 1) (pc' := 28) dX7_nextTo_27 rfl rfl ?_
        refine v_iload_n (pc' := 29) 3 dX7_nextTo_28 rfl rfl rfl ?_
        refine v_ishl (pc' := 30) dX7_nextTo_29 rfl ?_
        refine v_ior (pc' := 31) dX7_nextTo_30 rfl ?_
        refine v_istore_n (lv' := [(2, .int (x2 ||| ((1 : Int32) <<< (x3 &&& 31)))), (0, rf g a0), (1, .int x1), (3, .int x3)]) (pc' := 32) dX7_nextTo_31 rfl (by decide) rfl rfl ?_
        refine V.sub [1, 2, 0, 3] rfl ?_
        exact h_X7_nextTo_b32 g (f_X7_nextTo_b4 n) ih a0 x1 (x2 ||| ((1 : Int32) <<< (x3 &&& 31))) x3
set_option maxRecDepth 20000 in
theorem h_X7_nextTo (g : GW) (a0 : Nat) (x1 : Int32) : V g mX7_nextTo 8 rtI 0 [(0, rf g a0), (1, .int x1)] [] (f_X7_nextTo a0 x1) := by
  unfold f_X7_nextTo
  refine v_iconst (v := 0) (pc' := 1) dX7_nextTo_0 rfl rfl ?_
  refine v_istore_n (lv' := [(2, .int 0), (0, rf g a0), (1, .int x1)]) (pc' := 2) dX7_nextTo_1 rfl (by decide) rfl rfl ?_
  refine v_iconst (v := 0) (pc' := 3) dX7_nextTo_2 rfl rfl ?_
  refine v_istore_n (lv' := [(3, .int 0), (2, .int 0), (0, rf g a0), (1, .int x1)]) (pc' := 4) dX7_nextTo_3 rfl (by decide) rfl rfl ?_
  refine V.sub [2, 3, 1, 0] rfl ?_
  exact h_X7_nextTo_b4 g NF a0 x1 0 0
-- steps
def f_X7_steps_b7 : Nat → Nat → Int32 → Int32 → Int32 → Mo Int32
  | 0, _, _, _, _ => fl
  | n + 1, a0, x2, x3, x4 => bd (gR 7 1 a0) fun r1 => bd (gI 2 4 r1) fun v2 => if (v2 ≤ x4 : Prop) then (pu (-1)) else if (((x3 >>> (x2 &&& 31)) &&& (1 : Int32)) = 1 : Prop) then (pu x4) else bd (cv 7 a0 (f_X7_nextTo a0 x3)) fun v3 => (f_X7_steps_b7 n) a0 x2 (x3 ||| v3) (x4 + 1)
def f_X7_steps (a0 : Nat) (x1 : Int32) (x2 : Int32) : Mo Int32 := f_X7_steps_b7 NF a0 x2 ((1 : Int32) <<< (x1 &&& 31)) 0
set_option maxRecDepth 20000 in
theorem h_X7_steps_b7 (g : GW) : ∀ n : Nat, ∀ a0 x2 x3 x4, V g mX7_steps 9 rtI 7 [(0, rf g a0), (2, .int x2), (3, .int x3), (4, .int x4)] [] (f_X7_steps_b7 n a0 x2 x3 x4) := by
  intro n
  induction n with
  | zero => intro a0 x2 x3 x4; exact V.vain
  | succ n ih =>
    intro a0 x2 x3 x4
    unfold f_X7_steps_b7
    refine v_iload (pc' := 9) 3 dX7_steps_7 rfl rfl ?_
    refine v_aload_n (pc' := 10) 0 dX7_steps_9 rfl rfl rfl ?_
    refine v_getR (pc' := 13) fl_X7_21 dX7_steps_10 rfl fun r1 => ?_
    refine v_getI (pc' := 16) fl_X7_29 dX7_steps_13 rfl fun v2 => ?_
    refine v_icmpge (t := 45) (pc' := 19) dX7_steps_16 (by decide) rfl ?_ ?_
    · refine v_iconst (v := -1) (pc' := 46) dX7_steps_45 rfl rfl ?_
      exact v_ireturn rfl dX7_steps_46
    · refine v_iload_n (pc' := 20) 2 dX7_steps_19 rfl rfl rfl ?_
      refine v_iload_n (pc' := 21) 1 dX7_steps_20 rfl rfl rfl ?_
      refine v_ishr (pc' := 22) dX7_steps_21 rfl ?_
      refine v_iconst (v := 1) (pc' := 23) dX7_steps_22 rfl rfl ?_
      refine v_iand (pc' := 24) dX7_steps_23 rfl ?_
      refine v_iconst (v := 1) (pc' := 25) dX7_steps_24 rfl rfl ?_
      refine v_icmpne (t := 31) (pc' := 28) dX7_steps_25 (by decide) rfl ?_ ?_
      · refine v_iload_n (pc' := 32) 2 dX7_steps_31 rfl rfl rfl ?_
        refine v_aload_n (pc' := 33) 0 dX7_steps_32 rfl rfl rfl ?_
        refine v_iload_n (pc' := 34) 2 dX7_steps_33 rfl rfl rfl ?_
        refine v_callV (vs := [.int x3]) (pc' := 37) (h_X7_nextTo g a0 x3) mv_X7_nextTo wl_X7_70 rfl (Nat.le_of_ble_eq_true rfl) (by omega) (by decide) (Nat.le_of_ble_eq_true rfl) rfl dX7_steps_34 rfl fun v3 => ?_
        refine v_ior (pc' := 38) dX7_steps_37 rfl ?_
        refine v_istore_n (lv' := [(3, .int (x3 ||| v3)), (0, rf g a0), (2, .int x2), (4, .int x4)]) (pc' := 39) dX7_steps_38 rfl (by decide) rfl rfl ?_
        refine v_iinc (v := x4 + 1) (lv' := [(4, .int (x4 + 1)), (3, .int (x3 ||| v3)), (0, rf g a0), (2, .int x2)]) (pc' := 42) 3 dX7_steps_39 rfl rfl (by decide) rfl rfl ?_
        refine v_goto (t := 7) dX7_steps_42 (by decide) ?_
        refine V.sub [2, 3, 1, 0] rfl ?_
        exact ih a0 x2 (x3 ||| v3) (x4 + 1)
      · refine v_iload (pc' := 30) 3 dX7_steps_28 rfl rfl ?_
        exact v_ireturn rfl dX7_steps_30
set_option maxRecDepth 20000 in
theorem h_X7_steps (g : GW) (a0 : Nat) (x1 : Int32) (x2 : Int32) : V g mX7_steps 9 rtI 0 [(0, rf g a0), (1, .int x1), (2, .int x2)] [] (f_X7_steps a0 x1 x2) := by
  unfold f_X7_steps
  refine v_iconst (v := 1) (pc' := 1) dX7_steps_0 rfl rfl ?_
  refine v_iload_n (pc' := 2) 1 dX7_steps_1 rfl rfl rfl ?_
  refine v_ishl (pc' := 3) dX7_steps_2 rfl ?_
  refine v_istore_n (lv' := [(3, .int ((1 : Int32) <<< (x1 &&& 31))), (0, rf g a0), (1, .int x1), (2, .int x2)]) (pc' := 4) dX7_steps_3 rfl (by decide) rfl rfl ?_
  refine v_iconst (v := 0) (pc' := 5) dX7_steps_4 rfl rfl ?_
  refine v_istore (lv' := [(4, .int 0), (3, .int ((1 : Int32) <<< (x1 &&& 31))), (0, rf g a0), (1, .int x1), (2, .int x2)]) (pc' := 7) dX7_steps_5 (by decide) rfl rfl ?_
  refine V.sub [2, 4, 1, 0] rfl ?_
  exact h_X7_steps_b7 g NF a0 x2 ((1 : Int32) <<< (x1 &&& 31)) 0
