-- copies
def f_X12_copies_b2 : Nat → Nat → Nat → Int32 → Mo Unit
  | 0, _, _, _ => fl
  | n + 1, a0, a1, x2 => if (228 ≤ x2 : Prop) then (pu ()) else bd (al 0 a0 x2) fun v1 => bd (as_ a1 x2 v1) fun _ => (f_X12_copies_b2 n) a0 a1 (x2 + 1)
def f_X12_copies (a0 : Nat) (a1 : Nat) : Mo Unit := f_X12_copies_b2 NF a0 a1 0
set_option maxRecDepth 20000 in
theorem h_X12_copies_b2 (g : GW) : ∀ n : Nat, ∀ a0 a1 x2, V g mX12_copies 8 rtU 2 [(0, rf g a0), (1, rf g a1), (2, .int x2)] [] (f_X12_copies_b2 n a0 a1 x2) := by
  intro n
  induction n with
  | zero => intro a0 a1 x2; exact V.vain
  | succ n ih =>
    intro a0 a1 x2
    unfold f_X12_copies_b2
    refine v_iload_n (pc' := 3) 2 dX12_copies_2 rfl rfl rfl ?_
    refine v_sipush (v := 228) (pc' := 6) dX12_copies_3 rfl rfl ?_
    refine v_icmpge (t := 21) (pc' := 9) dX12_copies_6 (by decide) rfl ?_ ?_
    · exact v_return rfl dX12_copies_21
    · refine v_aload_n (pc' := 10) 1 dX12_copies_9 rfl rfl rfl ?_
      refine v_iload_n (pc' := 11) 2 dX12_copies_10 rfl rfl rfl ?_
      refine v_aload_n (pc' := 12) 0 dX12_copies_11 rfl rfl rfl ?_
      refine v_iload_n (pc' := 13) 2 dX12_copies_12 rfl rfl rfl ?_
      refine v_iald (pc' := 14) dX12_copies_13 rfl fun v1 => ?_
      refine v_iast (pc' := 15) dX12_copies_14 rfl ?_
      refine v_iinc (v := x2 + 1) (lv' := [(2, .int (x2 + 1)), (0, rf g a0), (1, rf g a1)]) (pc' := 18) 2 dX12_copies_15 rfl rfl (by decide) rfl rfl ?_
      refine v_goto (t := 2) dX12_copies_18 (by decide) ?_
      refine V.sub [1, 2, 0] rfl ?_
      exact ih a0 a1 (x2 + 1)
set_option maxRecDepth 20000 in
theorem h_X12_copies (g : GW) (a0 : Nat) (a1 : Nat) : V g mX12_copies 8 rtU 0 [(0, rf g a0), (1, rf g a1)] [] (f_X12_copies a0 a1) := by
  unfold f_X12_copies
  refine v_iconst (v := 0) (pc' := 1) dX12_copies_0 rfl rfl ?_
  refine v_istore_n (lv' := [(2, .int 0), (0, rf g a0), (1, rf g a1)]) (pc' := 2) dX12_copies_1 rfl (by decide) rfl rfl ?_
  refine V.sub [1, 2, 0] rfl ?_
  exact h_X12_copies_b2 g NF a0 a1 0
-- notes
def f_X12_notes (a0 : Nat) (x1 : Int32) (x2 : Int32) : Mo Unit := bd (gI 12 5 a0) fun v1 => if (v1 = 0 : Prop) then (bd (gR 12 20 a0) fun r2 => bd (gI 12 18 a0) fun v3 => bd (aR 3 r2 v3) fun r4 => bd (as_ r4 0 x1) fun _ => bd (gR 12 20 a0) fun r5 => bd (gI 12 18 a0) fun v6 => bd (aR 3 r5 v6) fun r7 => bd (as_ r7 1 x2) fun _ => bd (gI 12 18 a0) fun v8 => bd (pf 12 18 a0 (.int (v8 + (1 : Int32)))) fun _ => pu ()) else pu ()
set_option maxRecDepth 20000 in
theorem h_X12_notes (g : GW) (a0 : Nat) (x1 : Int32) (x2 : Int32) : V g mX12_notes 8 rtU 0 [(0, rf g a0), (1, .int x1), (2, .int x2)] [] (f_X12_notes a0 x1 x2) := by
  unfold f_X12_notes
  refine v_aload_n (pc' := 1) 0 dX12_notes_0 rfl rfl rfl ?_
  refine v_getI (pc' := 4) fl_X12_110 dX12_notes_1 rfl fun v1 => ?_
  refine v_ifeq (t := 8) (pc' := 7) dX12_notes_4 (by decide) rfl ?_ ?_
  · refine v_aload_n (pc' := 9) 0 dX12_notes_8 rfl rfl rfl ?_
    refine v_getR (pc' := 12) fl_X12_43 dX12_notes_9 rfl fun r2 => ?_
    refine v_aload_n (pc' := 13) 0 dX12_notes_12 rfl rfl rfl ?_
    refine v_getI (pc' := 16) fl_X12_199 dX12_notes_13 rfl fun v3 => ?_
    refine v_aaldR (pc' := 17) dX12_notes_16 rfl fun r4 => ?_
    refine v_iconst (v := 0) (pc' := 18) dX12_notes_17 rfl rfl ?_
    refine v_iload_n (pc' := 19) 1 dX12_notes_18 rfl rfl rfl ?_
    refine v_iast (pc' := 20) dX12_notes_19 rfl ?_
    refine v_aload_n (pc' := 21) 0 dX12_notes_20 rfl rfl rfl ?_
    refine v_getR (pc' := 24) fl_X12_43 dX12_notes_21 rfl fun r5 => ?_
    refine v_aload_n (pc' := 25) 0 dX12_notes_24 rfl rfl rfl ?_
    refine v_getI (pc' := 28) fl_X12_199 dX12_notes_25 rfl fun v6 => ?_
    refine v_aaldR (pc' := 29) dX12_notes_28 rfl fun r7 => ?_
    refine v_iconst (v := 1) (pc' := 30) dX12_notes_29 rfl rfl ?_
    refine v_iload_n (pc' := 31) 2 dX12_notes_30 rfl rfl rfl ?_
    refine v_iast (pc' := 32) dX12_notes_31 rfl ?_
    refine v_aload_n (pc' := 33) 0 dX12_notes_32 rfl rfl rfl ?_
    refine v_dup (pc' := 34) dX12_notes_33 rfl rfl ?_
    refine v_getI (pc' := 37) fl_X12_199 dX12_notes_34 rfl fun v8 => ?_
    refine v_iconst (v := 1) (pc' := 38) dX12_notes_37 rfl rfl ?_
    refine v_iadd (pc' := 39) dX12_notes_38 rfl ?_
    refine v_put (v := (.int (v8 + (1 : Int32)))) (v' := .int (v8 + (1 : Int32))) (pc' := 42) fw_X12_199 rfl rfl rfl (fun h => nomatch h) dX12_notes_39 rfl ?_
    exact v_return rfl dX12_notes_42
  · exact v_return rfl dX12_notes_7
-- opensOne
def f_X12_opensOne_b45 (a0 : Nat) : Mo Int32 := bd (gI 12 5 a0) fun v1 => if (v1 = 0 : Prop) then (pu 1) else pu 0
def f_X12_opensOne_b28 (a0 : Nat) : Mo Int32 := bd (gI 12 5 a0) fun v2 => if (v2 = 0 : Prop) then (bd (gI 12 8 a0) fun v3 => bd (pf 12 8 a0 (.int (v3 + (1 : Int32)))) fun _ => f_X12_opensOne_b45 a0) else f_X12_opensOne_b45 a0
def f_X12_opensOne (a0 : Nat) : Mo Int32 := bd (gI 12 5 a0) fun v4 => if (v4 = 0 : Prop) then (bd (gI 12 8 a0) fun v5 => if (v5 = 6 : Prop) then (bd (gI 12 4 a0) fun v6 => bd (cv 12 a0 (f_X12_wrong a0 3 v6)) fun _ => f_X12_opensOne_b45 a0) else f_X12_opensOne_b28 a0) else f_X12_opensOne_b28 a0
set_option maxRecDepth 20000 in
theorem h_X12_opensOne_b45 (g : GW) (a0 : Nat) : V g mX12_opensOne 9 rtI 45 [(0, rf g a0)] [] (f_X12_opensOne_b45 a0) := by
  unfold f_X12_opensOne_b45
  refine v_aload_n (pc' := 46) 0 dX12_opensOne_45 rfl rfl rfl ?_
  refine v_getI (pc' := 49) fl_X12_110 dX12_opensOne_46 rfl fun v1 => ?_
  refine v_ifne (t := 56) (pc' := 52) dX12_opensOne_49 (by decide) rfl ?_ ?_
  · refine v_iconst (v := 0) (pc' := 57) dX12_opensOne_56 rfl rfl ?_
    exact v_zret rfl rfl dX12_opensOne_57
  · refine v_iconst (v := 1) (pc' := 53) dX12_opensOne_52 rfl rfl ?_
    refine v_goto (t := 57) dX12_opensOne_53 (by decide) ?_
    exact v_zret rfl rfl dX12_opensOne_57
set_option maxRecDepth 20000 in
theorem h_X12_opensOne_b28 (g : GW) (a0 : Nat) : V g mX12_opensOne 9 rtI 28 [(0, rf g a0)] [] (f_X12_opensOne_b28 a0) := by
  unfold f_X12_opensOne_b28
  refine v_aload_n (pc' := 29) 0 dX12_opensOne_28 rfl rfl rfl ?_
  refine v_getI (pc' := 32) fl_X12_110 dX12_opensOne_29 rfl fun v2 => ?_
  refine v_ifne (t := 45) (pc' := 35) dX12_opensOne_32 (by decide) rfl ?_ ?_
  · refine V.sub [0] rfl ?_
    exact h_X12_opensOne_b45 g a0
  · refine v_aload_n (pc' := 36) 0 dX12_opensOne_35 rfl rfl rfl ?_
    refine v_dup (pc' := 37) dX12_opensOne_36 rfl rfl ?_
    refine v_getI (pc' := 40) fl_X12_153 dX12_opensOne_37 rfl fun v3 => ?_
    refine v_iconst (v := 1) (pc' := 41) dX12_opensOne_40 rfl rfl ?_
    refine v_iadd (pc' := 42) dX12_opensOne_41 rfl ?_
    refine v_put (v := (.int (v3 + (1 : Int32)))) (v' := .int (v3 + (1 : Int32))) (pc' := 45) fw_X12_153 rfl rfl rfl (fun h => nomatch h) dX12_opensOne_42 rfl ?_
    refine V.sub [0] rfl ?_
    exact h_X12_opensOne_b45 g a0
set_option maxRecDepth 20000 in
theorem h_X12_opensOne (g : GW) (a0 : Nat) : V g mX12_opensOne 9 rtI 0 [(0, rf g a0)] [] (f_X12_opensOne a0) := by
  unfold f_X12_opensOne
  refine v_aload_n (pc' := 1) 0 dX12_opensOne_0 rfl rfl rfl ?_
  refine v_getI (pc' := 4) fl_X12_110 dX12_opensOne_1 rfl fun v4 => ?_
  refine v_ifne (t := 28) (pc' := 7) dX12_opensOne_4 (by decide) rfl ?_ ?_
  · refine V.sub [0] rfl ?_
    exact h_X12_opensOne_b28 g a0
  · refine v_aload_n (pc' := 8) 0 dX12_opensOne_7 rfl rfl rfl ?_
    refine v_getI (pc' := 11) fl_X12_153 dX12_opensOne_8 rfl fun v5 => ?_
    refine v_bipush (v := 6) (pc' := 13) dX12_opensOne_11 rfl rfl ?_
    refine v_icmpne (t := 28) (pc' := 16) dX12_opensOne_13 (by decide) rfl ?_ ?_
    · refine V.sub [0] rfl ?_
      exact h_X12_opensOne_b28 g a0
    · refine v_aload_n (pc' := 17) 0 dX12_opensOne_16 rfl rfl rfl ?_
      refine v_iconst (v := 3) (pc' := 18) dX12_opensOne_17 rfl rfl ?_
      refine v_aload_n (pc' := 19) 0 dX12_opensOne_18 rfl rfl rfl ?_
      refine v_getI (pc' := 22) fl_X12_103 dX12_opensOne_19 rfl fun v6 => ?_
      refine v_callV (vs := [.int 3, .int v6]) (pc' := 25) (h_X12_wrong g a0 3 v6) mv_X12_wrong wl_X12_123 rfl (Nat.le_of_ble_eq_true rfl) (by omega) (by decide) (Nat.le_of_ble_eq_true rfl) rfl dX12_opensOne_22 rfl fun _ => ?_
      refine v_goto (t := 45) dX12_opensOne_25 (by decide) ?_
      refine V.sub [0] rfl ?_
      exact h_X12_opensOne_b45 g a0
-- knownHere
def f_X12_knownHere (a0 : Nat) : Mo Int32 := bd (cv 12 a0 (f_X12_takes a0 6 1 3 5 0 0)) fun v1 => if (v1 = 0 : Prop) then (bd (cv 12 a0 (f_X12_takes a0 20 5 13 16 5 18)) fun v2 => if (v2 = 0 : Prop) then (bd (cv 12 a0 (f_X12_takes a0 13 15 15 4 0 0)) fun v3 => if (v3 = 0 : Prop) then (bd (cv 12 a0 (f_X12_takes a0 19 9 20 20 5 18)) fun v4 => if (v4 = 0 : Prop) then (bd (cv 12 a0 (f_X12_takes a0 15 23 14 0 0 0)) fun v5 => if (v5 = 0 : Prop) then (bd (cv 12 a0 (f_X12_takes a0 25 5 1 18 0 0)) fun v6 => if (v6 = 0 : Prop) then (bd (cv 12 a0 (f_X12_takes a0 20 1 11 5 14 0)) fun v7 => if (v7 = 0 : Prop) then (bd (cv 12 a0 (f_X12_takes a0 8 1 12 12 0 0)) fun v8 => if (v8 = 0 : Prop) then (pu (-1)) else pu 7) else pu 6) else pu 5) else pu 4) else pu 3) else pu 2) else pu 1) else pu 0
set_option maxRecDepth 20000 in
theorem h_X12_knownHere (g : GW) (a0 : Nat) : V g mX12_knownHere 13 rtI 0 [(0, rf g a0)] [] (f_X12_knownHere a0) := by
  unfold f_X12_knownHere
  refine v_aload_n (pc' := 1) 0 dX12_knownHere_0 rfl rfl rfl ?_
  refine v_bipush (v := 6) (pc' := 3) dX12_knownHere_1 rfl rfl ?_
  refine v_iconst (v := 1) (pc' := 4) dX12_knownHere_3 rfl rfl ?_
  refine v_iconst (v := 3) (pc' := 5) dX12_knownHere_4 rfl rfl ?_
  refine v_iconst (v := 5) (pc' := 6) dX12_knownHere_5 rfl rfl ?_
  refine v_iconst (v := 0) (pc' := 7) dX12_knownHere_6 rfl rfl ?_
  refine v_iconst (v := 0) (pc' := 8) dX12_knownHere_7 rfl rfl ?_
  refine v_callV (vs := [.int 6, .int 1, .int 3, .int 5, .int 0, .int 0]) (pc' := 11) (h_X12_takes g a0 6 1 3 5 0 0) mv_X12_takes wl_X12_214 rfl (Nat.le_of_ble_eq_true rfl) (by omega) (by decide) (Nat.le_of_ble_eq_true rfl) rfl dX12_knownHere_8 rfl fun v1 => ?_
  refine v_ifeq (t := 16) (pc' := 14) dX12_knownHere_11 (by decide) rfl ?_ ?_
  · refine v_aload_n (pc' := 17) 0 dX12_knownHere_16 rfl rfl rfl ?_
    refine v_bipush (v := 20) (pc' := 19) dX12_knownHere_17 rfl rfl ?_
    refine v_iconst (v := 5) (pc' := 20) dX12_knownHere_19 rfl rfl ?_
    refine v_bipush (v := 13) (pc' := 22) dX12_knownHere_20 rfl rfl ?_
    refine v_bipush (v := 16) (pc' := 24) dX12_knownHere_22 rfl rfl ?_
    refine v_iconst (v := 5) (pc' := 25) dX12_knownHere_24 rfl rfl ?_
    refine v_bipush (v := 18) (pc' := 27) dX12_knownHere_25 rfl rfl ?_
    refine v_callV (vs := [.int 20, .int 5, .int 13, .int 16, .int 5, .int 18]) (pc' := 30) (h_X12_takes g a0 20 5 13 16 5 18) mv_X12_takes wl_X12_214 rfl (Nat.le_of_ble_eq_true rfl) (by omega) (by decide) (Nat.le_of_ble_eq_true rfl) rfl dX12_knownHere_27 rfl fun v2 => ?_
    refine v_ifeq (t := 35) (pc' := 33) dX12_knownHere_30 (by decide) rfl ?_ ?_
    · refine v_aload_n (pc' := 36) 0 dX12_knownHere_35 rfl rfl rfl ?_
      refine v_bipush (v := 13) (pc' := 38) dX12_knownHere_36 rfl rfl ?_
      refine v_bipush (v := 15) (pc' := 40) dX12_knownHere_38 rfl rfl ?_
      refine v_bipush (v := 15) (pc' := 42) dX12_knownHere_40 rfl rfl ?_
      refine v_iconst (v := 4) (pc' := 43) dX12_knownHere_42 rfl rfl ?_
      refine v_iconst (v := 0) (pc' := 44) dX12_knownHere_43 rfl rfl ?_
      refine v_iconst (v := 0) (pc' := 45) dX12_knownHere_44 rfl rfl ?_
      refine v_callV (vs := [.int 13, .int 15, .int 15, .int 4, .int 0, .int 0]) (pc' := 48) (h_X12_takes g a0 13 15 15 4 0 0) mv_X12_takes wl_X12_214 rfl (Nat.le_of_ble_eq_true rfl) (by omega) (by decide) (Nat.le_of_ble_eq_true rfl) rfl dX12_knownHere_45 rfl fun v3 => ?_
      refine v_ifeq (t := 53) (pc' := 51) dX12_knownHere_48 (by decide) rfl ?_ ?_
      · refine v_aload_n (pc' := 54) 0 dX12_knownHere_53 rfl rfl rfl ?_
        refine v_bipush (v := 19) (pc' := 56) dX12_knownHere_54 rfl rfl ?_
        refine v_bipush (v := 9) (pc' := 58) dX12_knownHere_56 rfl rfl ?_
        refine v_bipush (v := 20) (pc' := 60) dX12_knownHere_58 rfl rfl ?_
        refine v_bipush (v := 20) (pc' := 62) dX12_knownHere_60 rfl rfl ?_
        refine v_iconst (v := 5) (pc' := 63) dX12_knownHere_62 rfl rfl ?_
        refine v_bipush (v := 18) (pc' := 65) dX12_knownHere_63 rfl rfl ?_
        refine v_callV (vs := [.int 19, .int 9, .int 20, .int 20, .int 5, .int 18]) (pc' := 68) (h_X12_takes g a0 19 9 20 20 5 18) mv_X12_takes wl_X12_214 rfl (Nat.le_of_ble_eq_true rfl) (by omega) (by decide) (Nat.le_of_ble_eq_true rfl) rfl dX12_knownHere_65 rfl fun v4 => ?_
        refine v_ifeq (t := 73) (pc' := 71) dX12_knownHere_68 (by decide) rfl ?_ ?_
        · refine v_aload_n (pc' := 74) 0 dX12_knownHere_73 rfl rfl rfl ?_
          refine v_bipush (v := 15) (pc' := 76) dX12_knownHere_74 rfl rfl ?_
          refine v_bipush (v := 23) (pc' := 78) dX12_knownHere_76 rfl rfl ?_
          refine v_bipush (v := 14) (pc' := 80) dX12_knownHere_78 rfl rfl ?_
          refine v_iconst (v := 0) (pc' := 81) dX12_knownHere_80 rfl rfl ?_
          refine v_iconst (v := 0) (pc' := 82) dX12_knownHere_81 rfl rfl ?_
          refine v_iconst (v := 0) (pc' := 83) dX12_knownHere_82 rfl rfl ?_
          refine v_callV (vs := [.int 15, .int 23, .int 14, .int 0, .int 0, .int 0]) (pc' := 86) (h_X12_takes g a0 15 23 14 0 0 0) mv_X12_takes wl_X12_214 rfl (Nat.le_of_ble_eq_true rfl) (by omega) (by decide) (Nat.le_of_ble_eq_true rfl) rfl dX12_knownHere_83 rfl fun v5 => ?_
          refine v_ifeq (t := 91) (pc' := 89) dX12_knownHere_86 (by decide) rfl ?_ ?_
          · refine v_aload_n (pc' := 92) 0 dX12_knownHere_91 rfl rfl rfl ?_
            refine v_bipush (v := 25) (pc' := 94) dX12_knownHere_92 rfl rfl ?_
            refine v_iconst (v := 5) (pc' := 95) dX12_knownHere_94 rfl rfl ?_
            refine v_iconst (v := 1) (pc' := 96) dX12_knownHere_95 rfl rfl ?_
            refine v_bipush (v := 18) (pc' := 98) dX12_knownHere_96 rfl rfl ?_
            refine v_iconst (v := 0) (pc' := 99) dX12_knownHere_98 rfl rfl ?_
            refine v_iconst (v := 0) (pc' := 100) dX12_knownHere_99 rfl rfl ?_
            refine v_callV (vs := [.int 25, .int 5, .int 1, .int 18, .int 0, .int 0]) (pc' := 103) (h_X12_takes g a0 25 5 1 18 0 0) mv_X12_takes wl_X12_214 rfl (Nat.le_of_ble_eq_true rfl) (by omega) (by decide) (Nat.le_of_ble_eq_true rfl) rfl dX12_knownHere_100 rfl fun v6 => ?_
            refine v_ifeq (t := 108) (pc' := 106) dX12_knownHere_103 (by decide) rfl ?_ ?_
            · refine v_aload_n (pc' := 109) 0 dX12_knownHere_108 rfl rfl rfl ?_
              refine v_bipush (v := 20) (pc' := 111) dX12_knownHere_109 rfl rfl ?_
              refine v_iconst (v := 1) (pc' := 112) dX12_knownHere_111 rfl rfl ?_
              refine v_bipush (v := 11) (pc' := 114) dX12_knownHere_112 rfl rfl ?_
              refine v_iconst (v := 5) (pc' := 115) dX12_knownHere_114 rfl rfl ?_
              refine v_bipush (v := 14) (pc' := 117) dX12_knownHere_115 rfl rfl ?_
              refine v_iconst (v := 0) (pc' := 118) dX12_knownHere_117 rfl rfl ?_
              refine v_callV (vs := [.int 20, .int 1, .int 11, .int 5, .int 14, .int 0]) (pc' := 121) (h_X12_takes g a0 20 1 11 5 14 0) mv_X12_takes wl_X12_214 rfl (Nat.le_of_ble_eq_true rfl) (by omega) (by decide) (Nat.le_of_ble_eq_true rfl) rfl dX12_knownHere_118 rfl fun v7 => ?_
              refine v_ifeq (t := 127) (pc' := 124) dX12_knownHere_121 (by decide) rfl ?_ ?_
              · refine v_aload_n (pc' := 128) 0 dX12_knownHere_127 rfl rfl rfl ?_
                refine v_bipush (v := 8) (pc' := 130) dX12_knownHere_128 rfl rfl ?_
                refine v_iconst (v := 1) (pc' := 131) dX12_knownHere_130 rfl rfl ?_
                refine v_bipush (v := 12) (pc' := 133) dX12_knownHere_131 rfl rfl ?_
                refine v_bipush (v := 12) (pc' := 135) dX12_knownHere_133 rfl rfl ?_
                refine v_iconst (v := 0) (pc' := 136) dX12_knownHere_135 rfl rfl ?_
                refine v_iconst (v := 0) (pc' := 137) dX12_knownHere_136 rfl rfl ?_
                refine v_callV (vs := [.int 8, .int 1, .int 12, .int 12, .int 0, .int 0]) (pc' := 140) (h_X12_takes g a0 8 1 12 12 0 0) mv_X12_takes wl_X12_214 rfl (Nat.le_of_ble_eq_true rfl) (by omega) (by decide) (Nat.le_of_ble_eq_true rfl) rfl dX12_knownHere_137 rfl fun v8 => ?_
                refine v_ifeq (t := 148) (pc' := 143) dX12_knownHere_140 (by decide) rfl ?_ ?_
                · refine v_iconst (v := -1) (pc' := 149) dX12_knownHere_148 rfl rfl ?_
                  exact v_ireturn rfl dX12_knownHere_149
                · refine v_bipush (v := 7) (pc' := 145) dX12_knownHere_143 rfl rfl ?_
                  refine v_goto (t := 149) dX12_knownHere_145 (by decide) ?_
                  exact v_ireturn rfl dX12_knownHere_149
              · refine v_bipush (v := 6) (pc' := 126) dX12_knownHere_124 rfl rfl ?_
                exact v_ireturn rfl dX12_knownHere_126
            · refine v_iconst (v := 5) (pc' := 107) dX12_knownHere_106 rfl rfl ?_
              exact v_ireturn rfl dX12_knownHere_107
          · refine v_iconst (v := 4) (pc' := 90) dX12_knownHere_89 rfl rfl ?_
            exact v_ireturn rfl dX12_knownHere_90
        · refine v_iconst (v := 3) (pc' := 72) dX12_knownHere_71 rfl rfl ?_
          exact v_ireturn rfl dX12_knownHere_72
      · refine v_iconst (v := 2) (pc' := 52) dX12_knownHere_51 rfl rfl ?_
        exact v_ireturn rfl dX12_knownHere_52
    · refine v_iconst (v := 1) (pc' := 34) dX12_knownHere_33 rfl rfl ?_
      exact v_ireturn rfl dX12_knownHere_34
  · refine v_iconst (v := 0) (pc' := 15) dX12_knownHere_14 rfl rfl ?_
    exact v_ireturn rfl dX12_knownHere_15
-- one
def f_X12_one_b56 (rec : Nat → Mo Unit) (a0 : Nat) (xs0 : Int32) : Mo Unit := if (xs0 = (-1) : Prop) then (bd (gI 12 4 a0) fun v1 => bd (cv 12 a0 (f_X12_byteAt a0 v1)) fun v2 => if (v2 = 40 : Prop) then (bd (cv 12 a0 (f_X12_opensOne a0)) fun v5 => if (v5 = 0 : Prop) then (pu ()) else bd (gI 12 4 a0) fun v6 => bd (pf 12 4 a0 (.int (v6 + (1 : Int32)))) fun _ => bd (cv 12 a0 (rec a0)) fun _ => bd (cv 12 a0 (f_X12_sign a0 41)) fun _ => bd (gI 12 8 a0) fun v7 => bd (pf 12 8 a0 (.int (v7 - (1 : Int32)))) fun _ => pu ()) else bd (cv 12 a0 (f_X12_knownHere a0)) fun v3 => if (v3 = (-1) : Prop) then (bd (cv 12 a0 (f_X12_number a0 0 999)) fun v4 => bd (cv 12 a0 (f_X12_notes a0 0 v4)) fun _ => pu ()) else bd (cv 12 a0 (f_X12_notes a0 1 v3)) fun _ => pu ()) else bd (cv 12 a0 (f_X12_opensOne a0)) fun v8 => if (v8 = 0 : Prop) then (pu ()) else bd (cv 12 a0 (f_X12_skipWord a0)) fun _ => bd (cv 12 a0 (f_X12_sign a0 91)) fun _ => bd (cv 12 a0 (rec a0)) fun _ => bd (cv 12 a0 (f_X12_sign a0 44)) fun _ => bd (cv 12 a0 (rec a0)) fun _ => bd (cv 12 a0 (f_X12_sign a0 93)) fun _ => bd (cv 12 a0 (f_X12_notes a0 xs0 0)) fun _ => bd (gI 12 8 a0) fun v9 => bd (pf 12 8 a0 (.int (v9 - (1 : Int32)))) fun _ => pu ()
def f_X12_one (rec : Nat → Mo Unit) (a0 : Nat) : Mo Unit := bd (gI 12 5 a0) fun v10 => if (v10 = 0 : Prop) then (bd (cv 12 a0 (f_X12_blanks a0)) fun _ => bd (cv 12 a0 (f_X12_isWord a0 12 5 1 19 20 0)) fun v11 => if (v11 = 0 : Prop) then (bd (cv 12 a0 (f_X12_isWord a0 13 15 19 20 0 0)) fun v12 => if (v12 = 0 : Prop) then (f_X12_one_b56 rec a0 (-1)) else f_X12_one_b56 rec a0 8) else f_X12_one_b56 rec a0 7) else pu ()
set_option maxRecDepth 20000 in
theorem h_X12_one_b56 (g : GW) (rec : Nat → Mo Unit) (e : Nat) (he : 13 ≤ e) (hrec : ∀ a0, V g mX12_sum e rtU 0 [(0, rf g a0)] [] (rec a0)) (a0 : Nat) (xs0 : Int32) : V g mX12_one (e + 1) rtU 56 [(0, rf g a0)] [.int xs0] (f_X12_one_b56 rec a0 xs0) := by
  unfold f_X12_one_b56
  refine v_istore_n (lv' := [(1, .int xs0), (0, rf g a0)]) (pc' := 57) dX12_one_56 rfl (by decide) rfl rfl ?_
  refine v_iload_n (pc' := 58) 0 dX12_one_57 rfl rfl rfl ?_
  refine v_iconst (v := -1) (pc' := 59) dX12_one_58 rfl rfl ?_
  refine v_icmpeq (t := 117) (pc' := 62) dX12_one_59 (by decide) rfl ?_ ?_
  · refine v_aload_n (pc' := 118) 1 dX12_one_117 rfl rfl rfl ?_
    refine v_aload_n (pc' := 119) 1 dX12_one_118 rfl rfl rfl ?_
    refine v_getI (pc' := 122) fl_X12_103 dX12_one_119 rfl fun v1 => ?_
    refine v_callV (vs := [.int v1]) (pc' := 125) (h_X12_byteAt g a0 v1) mv_X12_byteAt wl_X12_106 rfl (Nat.le_of_ble_eq_true rfl) (by omega) (by decide) (Nat.le_of_ble_eq_true rfl) rfl dX12_one_122 rfl fun v2 => ?_
    refine v_bipush (v := 40) (pc' := 127) dX12_one_125 rfl rfl ?_
    refine v_icmpne (t := 169) (pc' := 130) dX12_one_127 (by decide) rfl ?_ ?_
    · refine v_aload_n (pc' := 170) 1 dX12_one_169 rfl rfl rfl ?_
      refine v_callV (vs := []) (pc' := 173) (h_X12_knownHere g a0) mv_X12_knownHere wl_X12_224 rfl (Nat.le_of_ble_eq_true rfl) (by omega) (by decide) (Nat.le_of_ble_eq_true rfl) rfl dX12_one_170 rfl fun v3 => ?_
      refine v_istore_n (lv' := [(2, .int v3), (1, .int xs0), (0, rf g a0)]) (pc' := 174) dX12_one_173 rfl (by decide) rfl rfl ?_
      refine v_iload_n (pc' := 175) 0 dX12_one_174 rfl rfl rfl ?_
      refine v_iconst (v := -1) (pc' := 176) dX12_one_175 rfl rfl ?_
      refine v_icmpeq (t := 188) (pc' := 179) dX12_one_176 (by decide) rfl ?_ ?_
      · refine v_aload_n (pc' := 189) 2 dX12_one_188 rfl rfl rfl ?_
        refine v_iconst (v := 0) (pc' := 190) dX12_one_189 rfl rfl ?_
        refine v_aload_n (pc' := 191) 2 dX12_one_190 rfl rfl rfl ?_
        refine v_iconst (v := 0) (pc' := 192) dX12_one_191 rfl rfl ?_
        refine v_sipush (v := 999) (pc' := 195) dX12_one_192 rfl rfl ?_
        refine v_callV (vs := [.int 0, .int 999]) (pc' := 198) (h_X12_number g a0 0 999) mv_X12_number wl_X12_159 rfl (Nat.le_of_ble_eq_true rfl) (by omega) (by decide) (Nat.le_of_ble_eq_true rfl) rfl dX12_one_195 rfl fun v4 => ?_
        refine v_callV (vs := [.int 0, .int v4]) (pc' := 201) (h_X12_notes g a0 0 v4) mv_X12_notes wl_X12_208 rfl (Nat.le_of_ble_eq_true rfl) (by omega) (by decide) (Nat.le_of_ble_eq_true rfl) rfl dX12_one_198 rfl fun _ => ?_
        exact v_return rfl dX12_one_201
      · refine v_aload_n (pc' := 180) 2 dX12_one_179 rfl rfl rfl ?_
        refine v_iconst (v := 1) (pc' := 181) dX12_one_180 rfl rfl ?_
        refine v_iload_n (pc' := 182) 0 dX12_one_181 rfl rfl rfl ?_
        refine v_callV (vs := [.int 1, .int v3]) (pc' := 185) (h_X12_notes g a0 1 v3) mv_X12_notes wl_X12_208 rfl (Nat.le_of_ble_eq_true rfl) (by omega) (by decide) (Nat.le_of_ble_eq_true rfl) rfl dX12_one_182 rfl fun _ => ?_
        refine v_goto (t := 201) dX12_one_185 (by decide) ?_
        exact v_return rfl dX12_one_201
    · refine v_aload_n (pc' := 131) 1 dX12_one_130 rfl rfl rfl ?_
      refine v_callV (vs := []) (pc' := 134) (h_X12_opensOne g a0) mv_X12_opensOne wl_X12_217 rfl (Nat.le_of_ble_eq_true rfl) (by omega) (by decide) (Nat.le_of_ble_eq_true rfl) rfl dX12_one_131 rfl fun v5 => ?_
      refine v_ifne (t := 138) (pc' := 137) dX12_one_134 (by decide) rfl ?_ ?_
      · refine v_aload_n (pc' := 139) 1 dX12_one_138 rfl rfl rfl ?_
        refine v_dup (pc' := 140) dX12_one_139 rfl rfl ?_
        refine v_getI (pc' := 143) fl_X12_103 dX12_one_140 rfl fun v6 => ?_
        refine v_iconst (v := 1) (pc' := 144) dX12_one_143 rfl rfl ?_
        refine v_iadd (pc' := 145) dX12_one_144 rfl ?_
        refine v_put (v := (.int (v6 + (1 : Int32)))) (v' := .int (v6 + (1 : Int32))) (pc' := 148) fw_X12_103 rfl rfl rfl (fun h => nomatch h) dX12_one_145 rfl ?_
        refine v_aload_n (pc' := 149) 1 dX12_one_148 rfl rfl rfl ?_
        refine v_callV (vs := []) (pc' := 152) (hrec a0) mv_X12_sum wl_X12_221 rfl (Nat.le_of_ble_eq_true rfl) (by omega) (by decide) (Nat.le_of_ble_eq_true rfl) rfl dX12_one_149 rfl fun _ => ?_
        refine v_aload_n (pc' := 153) 1 dX12_one_152 rfl rfl rfl ?_
        refine v_bipush (v := 41) (pc' := 155) dX12_one_153 rfl rfl ?_
        refine v_callV (vs := [.int 41]) (pc' := 158) (h_X12_sign g a0 41) mv_X12_sign wl_X12_163 rfl (Nat.le_of_ble_eq_true rfl) (by omega) (by decide) (Nat.le_of_ble_eq_true rfl) rfl dX12_one_155 rfl fun _ => ?_
        refine v_aload_n (pc' := 159) 1 dX12_one_158 rfl rfl rfl ?_
        refine v_dup (pc' := 160) dX12_one_159 rfl rfl ?_
        refine v_getI (pc' := 163) fl_X12_153 dX12_one_160 rfl fun v7 => ?_
        refine v_iconst (v := 1) (pc' := 164) dX12_one_163 rfl rfl ?_
        refine v_isub (pc' := 165) dX12_one_164 rfl ?_
        refine v_put (v := (.int (v7 - (1 : Int32)))) (v' := .int (v7 - (1 : Int32))) (pc' := 168) fw_X12_153 rfl rfl rfl (fun h => nomatch h) dX12_one_165 rfl ?_
        exact v_return rfl dX12_one_168
      · exact v_return rfl dX12_one_137
  · refine v_aload_n (pc' := 63) 1 dX12_one_62 rfl rfl rfl ?_
    refine v_callV (vs := []) (pc' := 66) (h_X12_opensOne g a0) mv_X12_opensOne wl_X12_217 rfl (Nat.le_of_ble_eq_true rfl) (by omega) (by decide) (Nat.le_of_ble_eq_true rfl) rfl dX12_one_63 rfl fun v8 => ?_
    refine v_ifne (t := 70) (pc' := 69) dX12_one_66 (by decide) rfl ?_ ?_
    · refine v_aload_n (pc' := 71) 1 dX12_one_70 rfl rfl rfl ?_
      refine v_callV (vs := []) (pc' := 74) (h_X12_skipWord g a0) mv_X12_skipWord wl_X12_147 rfl (Nat.le_of_ble_eq_true rfl) (by omega) (by decide) (Nat.le_of_ble_eq_true rfl) rfl dX12_one_71 rfl fun _ => ?_
      refine v_aload_n (pc' := 75) 1 dX12_one_74 rfl rfl rfl ?_
      refine v_bipush (v := 91) (pc' := 77) dX12_one_75 rfl rfl ?_
      refine v_callV (vs := [.int 91]) (pc' := 80) (h_X12_sign g a0 91) mv_X12_sign wl_X12_163 rfl (Nat.le_of_ble_eq_true rfl) (by omega) (by decide) (Nat.le_of_ble_eq_true rfl) rfl dX12_one_77 rfl fun _ => ?_
      refine v_aload_n (pc' := 81) 1 dX12_one_80 rfl rfl rfl ?_
      refine v_callV (vs := []) (pc' := 84) (hrec a0) mv_X12_sum wl_X12_221 rfl (Nat.le_of_ble_eq_true rfl) (by omega) (by decide) (Nat.le_of_ble_eq_true rfl) rfl dX12_one_81 rfl fun _ => ?_
      refine v_aload_n (pc' := 85) 1 dX12_one_84 rfl rfl rfl ?_
      refine v_bipush (v := 44) (pc' := 87) dX12_one_85 rfl rfl ?_
      refine v_callV (vs := [.int 44]) (pc' := 90) (h_X12_sign g a0 44) mv_X12_sign wl_X12_163 rfl (Nat.le_of_ble_eq_true rfl) (by omega) (by decide) (Nat.le_of_ble_eq_true rfl) rfl dX12_one_87 rfl fun _ => ?_
      refine v_aload_n (pc' := 91) 1 dX12_one_90 rfl rfl rfl ?_
      refine v_callV (vs := []) (pc' := 94) (hrec a0) mv_X12_sum wl_X12_221 rfl (Nat.le_of_ble_eq_true rfl) (by omega) (by decide) (Nat.le_of_ble_eq_true rfl) rfl dX12_one_91 rfl fun _ => ?_
      refine v_aload_n (pc' := 95) 1 dX12_one_94 rfl rfl rfl ?_
      refine v_bipush (v := 93) (pc' := 97) dX12_one_95 rfl rfl ?_
      refine v_callV (vs := [.int 93]) (pc' := 100) (h_X12_sign g a0 93) mv_X12_sign wl_X12_163 rfl (Nat.le_of_ble_eq_true rfl) (by omega) (by decide) (Nat.le_of_ble_eq_true rfl) rfl dX12_one_97 rfl fun _ => ?_
      refine v_aload_n (pc' := 101) 1 dX12_one_100 rfl rfl rfl ?_
      refine v_iload_n (pc' := 102) 0 dX12_one_101 rfl rfl rfl ?_
      refine v_iconst (v := 0) (pc' := 103) dX12_one_102 rfl rfl ?_
      refine v_callV (vs := [.int xs0, .int 0]) (pc' := 106) (h_X12_notes g a0 xs0 0) mv_X12_notes wl_X12_208 rfl (Nat.le_of_ble_eq_true rfl) (by omega) (by decide) (Nat.le_of_ble_eq_true rfl) rfl dX12_one_103 rfl fun _ => ?_
      refine v_aload_n (pc' := 107) 1 dX12_one_106 rfl rfl rfl ?_
      refine v_dup (pc' := 108) dX12_one_107 rfl rfl ?_
      refine v_getI (pc' := 111) fl_X12_153 dX12_one_108 rfl fun v9 => ?_
      refine v_iconst (v := 1) (pc' := 112) dX12_one_111 rfl rfl ?_
      refine v_isub (pc' := 113) dX12_one_112 rfl ?_
      refine v_put (v := (.int (v9 - (1 : Int32)))) (v' := .int (v9 - (1 : Int32))) (pc' := 116) fw_X12_153 rfl rfl rfl (fun h => nomatch h) dX12_one_113 rfl ?_
      exact v_return rfl dX12_one_116
    · exact v_return rfl dX12_one_69
set_option maxRecDepth 20000 in
theorem h_X12_one (g : GW) (rec : Nat → Mo Unit) (e : Nat) (he : 13 ≤ e) (hrec : ∀ a0, V g mX12_sum e rtU 0 [(0, rf g a0)] [] (rec a0)) (a0 : Nat) : V g mX12_one (e + 1) rtU 0 [(0, rf g a0)] [] (f_X12_one rec a0) := by
  unfold f_X12_one
  refine v_aload_n (pc' := 1) 0 dX12_one_0 rfl rfl rfl ?_
  refine v_getI (pc' := 4) fl_X12_110 dX12_one_1 rfl fun v10 => ?_
  refine v_ifeq (t := 8) (pc' := 7) dX12_one_4 (by decide) rfl ?_ ?_
  · refine v_aload_n (pc' := 9) 0 dX12_one_8 rfl rfl rfl ?_
    refine v_callV (vs := []) (pc' := 12) (h_X12_blanks g a0) mv_X12_blanks wl_X12_116 rfl (Nat.le_of_ble_eq_true rfl) (by omega) (by decide) (Nat.le_of_ble_eq_true rfl) rfl dX12_one_9 rfl fun _ => ?_
    refine v_aload_n (pc' := 13) 0 dX12_one_12 rfl rfl rfl ?_
    refine v_bipush (v := 12) (pc' := 15) dX12_one_13 rfl rfl ?_
    refine v_iconst (v := 5) (pc' := 16) dX12_one_15 rfl rfl ?_
    refine v_iconst (v := 1) (pc' := 17) dX12_one_16 rfl rfl ?_
    refine v_bipush (v := 19) (pc' := 19) dX12_one_17 rfl rfl ?_
    refine v_bipush (v := 20) (pc' := 21) dX12_one_19 rfl rfl ?_
    refine v_iconst (v := 0) (pc' := 22) dX12_one_21 rfl rfl ?_
    refine v_callV (vs := [.int 12, .int 5, .int 1, .int 19, .int 20, .int 0]) (pc' := 25) (h_X12_isWord g a0 12 5 1 19 20 0) mv_X12_isWord wl_X12_143 rfl (Nat.le_of_ble_eq_true rfl) (by omega) (by decide) (Nat.le_of_ble_eq_true rfl) rfl dX12_one_22 rfl fun v11 => ?_
    refine v_ifeq (t := 33) (pc' := 28) dX12_one_25 (by decide) rfl ?_ ?_
    · refine v_aload_n (pc' := 34) 0 dX12_one_33 rfl rfl rfl ?_
      refine v_bipush (v := 13) (pc' := 36) dX12_one_34 rfl rfl ?_
      refine v_bipush (v := 15) (pc' := 38) dX12_one_36 rfl rfl ?_
      refine v_bipush (v := 19) (pc' := 40) dX12_one_38 rfl rfl ?_
      refine v_bipush (v := 20) (pc' := 42) dX12_one_40 rfl rfl ?_
      refine v_iconst (v := 0) (pc' := 43) dX12_one_42 rfl rfl ?_
      refine v_iconst (v := 0) (pc' := 44) dX12_one_43 rfl rfl ?_
      refine v_callV (vs := [.int 13, .int 15, .int 19, .int 20, .int 0, .int 0]) (pc' := 47) (h_X12_isWord g a0 13 15 19 20 0 0) mv_X12_isWord wl_X12_143 rfl (Nat.le_of_ble_eq_true rfl) (by omega) (by decide) (Nat.le_of_ble_eq_true rfl) rfl dX12_one_44 rfl fun v12 => ?_
      refine v_ifeq (t := 55) (pc' := 50) dX12_one_47 (by decide) rfl ?_ ?_
      · refine v_iconst (v := -1) (pc' := 56) dX12_one_55 rfl rfl ?_
        refine V.sub [0] rfl ?_
        exact h_X12_one_b56 g rec e he hrec a0 (-1)
      · refine v_bipush (v := 8) (pc' := 52) dX12_one_50 rfl rfl ?_
        refine v_goto (t := 56) dX12_one_52 (by decide) ?_
        refine V.sub [0] rfl ?_
        exact h_X12_one_b56 g rec e he hrec a0 8
    · refine v_bipush (v := 7) (pc' := 30) dX12_one_28 rfl rfl ?_
      refine v_goto (t := 56) dX12_one_30 (by decide) ?_
      refine V.sub [0] rfl ?_
      exact h_X12_one_b56 g rec e he hrec a0 7
  · exact v_return rfl dX12_one_7
-- product
def f_X12_product_b52 (rec : Nat → Mo Unit) (k4 : Nat → Mo Unit) (a0 : Nat) (xs0 : Int32) : Mo Unit := if (xs0 = (-1) : Prop) then (pu ()) else bd (cv 12 a0 (f_X12_one rec a0)) fun _ => bd (cv 12 a0 (f_X12_notes a0 xs0 0)) fun _ => k4 a0
def f_X12_product_b4 (rec : Nat → Mo Unit) : Nat → Nat → Mo Unit
  | 0, _ => fl
  | n + 1, a0 => bd (gI 12 5 a0) fun v1 => if (v1 = 0 : Prop) then (bd (cv 12 a0 (f_X12_takesSign a0 42)) fun v2 => if (v2 = 0 : Prop) then (bd (cv 12 a0 (f_X12_takesSign a0 47)) fun v3 => if (v3 = 0 : Prop) then (bd (cv 12 a0 (f_X12_takesSign a0 37)) fun v4 => if (v4 = 0 : Prop) then (f_X12_product_b52 rec (f_X12_product_b4 rec n) a0 (-1)) else f_X12_product_b52 rec (f_X12_product_b4 rec n) a0 6) else f_X12_product_b52 rec (f_X12_product_b4 rec n) a0 5) else f_X12_product_b52 rec (f_X12_product_b4 rec n) a0 4) else pu ()
def f_X12_product (rec : Nat → Mo Unit) (a0 : Nat) : Mo Unit := bd (cv 12 a0 (f_X12_one rec a0)) fun _ => f_X12_product_b4 rec NF a0
set_option maxRecDepth 20000 in
theorem h_X12_product_b52 (g : GW) (rec : Nat → Mo Unit) (e : Nat) (he : 13 ≤ e) (hrec : ∀ a0, V g mX12_sum e rtU 0 [(0, rf g a0)] [] (rec a0)) (k4 : Nat → Mo Unit) (hk4 : ∀ a0, V g mX12_product (e + 2) rtU 4 [(0, rf g a0)] [] (k4 a0)) (a0 : Nat) (xs0 : Int32) : V g mX12_product (e + 2) rtU 52 [(0, rf g a0)] [.int xs0] (f_X12_product_b52 rec k4 a0 xs0) := by
  unfold f_X12_product_b52
  refine v_istore_n (lv' := [(1, .int xs0), (0, rf g a0)]) (pc' := 53) dX12_product_52 rfl (by decide) rfl rfl ?_
  refine v_iload_n (pc' := 54) 0 dX12_product_53 rfl rfl rfl ?_
  refine v_iconst (v := -1) (pc' := 55) dX12_product_54 rfl rfl ?_
  refine v_icmpne (t := 59) (pc' := 58) dX12_product_55 (by decide) rfl ?_ ?_
  · refine v_aload_n (pc' := 60) 1 dX12_product_59 rfl rfl rfl ?_
    refine v_callV (vs := []) (pc' := 63) (h_X12_one g rec e he hrec a0) mv_X12_one wl_X12_211 rfl (Nat.le_of_ble_eq_true rfl) (by omega) (by decide) (Nat.le_of_ble_eq_true rfl) rfl dX12_product_60 rfl fun _ => ?_
    refine v_aload_n (pc' := 64) 1 dX12_product_63 rfl rfl rfl ?_
    refine v_iload_n (pc' := 65) 0 dX12_product_64 rfl rfl rfl ?_
    refine v_iconst (v := 0) (pc' := 66) dX12_product_65 rfl rfl ?_
    refine v_callV (vs := [.int xs0, .int 0]) (pc' := 69) (h_X12_notes g a0 xs0 0) mv_X12_notes wl_X12_208 rfl (Nat.le_of_ble_eq_true rfl) (by omega) (by decide) (Nat.le_of_ble_eq_true rfl) rfl dX12_product_66 rfl fun _ => ?_
    refine v_goto (t := 4) dX12_product_69 (by decide) ?_
    refine V.sub [1] rfl ?_
    exact hk4 a0
  · exact v_return rfl dX12_product_58
set_option maxRecDepth 20000 in
theorem h_X12_product_b4 (g : GW) (rec : Nat → Mo Unit) (e : Nat) (he : 13 ≤ e) (hrec : ∀ a0, V g mX12_sum e rtU 0 [(0, rf g a0)] [] (rec a0)) : ∀ n : Nat, ∀ a0, V g mX12_product (e + 2) rtU 4 [(0, rf g a0)] [] (f_X12_product_b4 rec n a0) := by
  intro n
  induction n with
  | zero => intro a0; exact V.vain
  | succ n ih =>
    intro a0
    unfold f_X12_product_b4
    refine v_aload_n (pc' := 5) 0 dX12_product_4 rfl rfl rfl ?_
    refine v_getI (pc' := 8) fl_X12_110 dX12_product_5 rfl fun v1 => ?_
    refine v_ifne (t := 72) (pc' := 11) dX12_product_8 (by decide) rfl ?_ ?_
    · exact v_return rfl dX12_product_72
    · refine v_aload_n (pc' := 12) 0 dX12_product_11 rfl rfl rfl ?_
      refine v_bipush (v := 42) (pc' := 14) dX12_product_12 rfl rfl ?_
      refine v_callV (vs := [.int 42]) (pc' := 17) (h_X12_takesSign g a0 42) mv_X12_takesSign wl_X12_205 rfl (Nat.le_of_ble_eq_true rfl) (by omega) (by decide) (Nat.le_of_ble_eq_true rfl) rfl dX12_product_14 rfl fun v2 => ?_
      refine v_ifeq (t := 24) (pc' := 20) dX12_product_17 (by decide) rfl ?_ ?_
      · refine v_aload_n (pc' := 25) 0 dX12_product_24 rfl rfl rfl ?_
        refine v_bipush (v := 47) (pc' := 27) dX12_product_25 rfl rfl ?_
        refine v_callV (vs := [.int 47]) (pc' := 30) (h_X12_takesSign g a0 47) mv_X12_takesSign wl_X12_205 rfl (Nat.le_of_ble_eq_true rfl) (by omega) (by decide) (Nat.le_of_ble_eq_true rfl) rfl dX12_product_27 rfl fun v3 => ?_
        refine v_ifeq (t := 37) (pc' := 33) dX12_product_30 (by decide) rfl ?_ ?_
        · refine v_aload_n (pc' := 38) 0 dX12_product_37 rfl rfl rfl ?_
          refine v_bipush (v := 37) (pc' := 40) dX12_product_38 rfl rfl ?_
          refine v_callV (vs := [.int 37]) (pc' := 43) (h_X12_takesSign g a0 37) mv_X12_takesSign wl_X12_205 rfl (Nat.le_of_ble_eq_true rfl) (by omega) (by decide) (Nat.le_of_ble_eq_true rfl) rfl dX12_product_40 rfl fun v4 => ?_
          refine v_ifeq (t := 51) (pc' := 46) dX12_product_43 (by decide) rfl ?_ ?_
          · refine v_iconst (v := -1) (pc' := 52) dX12_product_51 rfl rfl ?_
            refine V.sub [0] rfl ?_
            exact h_X12_product_b52 g rec e he hrec (f_X12_product_b4 rec n) ih a0 (-1)
          · refine v_bipush (v := 6) (pc' := 48) dX12_product_46 rfl rfl ?_
            refine v_goto (t := 52) dX12_product_48 (by decide) ?_
            refine V.sub [0] rfl ?_
            exact h_X12_product_b52 g rec e he hrec (f_X12_product_b4 rec n) ih a0 6
        · refine v_iconst (v := 5) (pc' := 34) dX12_product_33 rfl rfl ?_
          refine v_goto (t := 52) dX12_product_34 (by decide) ?_
          refine V.sub [0] rfl ?_
          exact h_X12_product_b52 g rec e he hrec (f_X12_product_b4 rec n) ih a0 5
      · refine v_iconst (v := 4) (pc' := 21) dX12_product_20 rfl rfl ?_
        refine v_goto (t := 52) dX12_product_21 (by decide) ?_
        refine V.sub [0] rfl ?_
        exact h_X12_product_b52 g rec e he hrec (f_X12_product_b4 rec n) ih a0 4
set_option maxRecDepth 20000 in
theorem h_X12_product (g : GW) (rec : Nat → Mo Unit) (e : Nat) (he : 13 ≤ e) (hrec : ∀ a0, V g mX12_sum e rtU 0 [(0, rf g a0)] [] (rec a0)) (a0 : Nat) : V g mX12_product (e + 2) rtU 0 [(0, rf g a0)] [] (f_X12_product rec a0) := by
  unfold f_X12_product
  refine v_aload_n (pc' := 1) 0 dX12_product_0 rfl rfl rfl ?_
  refine v_callV (vs := []) (pc' := 4) (h_X12_one g rec e he hrec a0) mv_X12_one wl_X12_211 rfl (Nat.le_of_ble_eq_true rfl) (by omega) (by decide) (Nat.le_of_ble_eq_true rfl) rfl dX12_product_1 rfl fun _ => ?_
  refine V.sub [0] rfl ?_
  exact h_X12_product_b4 g rec e he hrec NF a0
-- sum
def f_X12_sum_b38 (rec : Nat → Mo Unit) (k4 : Nat → Mo Unit) (a0 : Nat) (xs0 : Int32) : Mo Unit := if (xs0 = (-1) : Prop) then (pu ()) else bd (cv 12 a0 (f_X12_product rec a0)) fun _ => bd (cv 12 a0 (f_X12_notes a0 xs0 0)) fun _ => k4 a0
def f_X12_sum_b4 (rec : Nat → Mo Unit) : Nat → Nat → Mo Unit
  | 0, _ => fl
  | n + 1, a0 => bd (gI 12 5 a0) fun v1 => if (v1 = 0 : Prop) then (bd (cv 12 a0 (f_X12_takesSign a0 43)) fun v2 => if (v2 = 0 : Prop) then (bd (cv 12 a0 (f_X12_takesSign a0 45)) fun v3 => if (v3 = 0 : Prop) then (f_X12_sum_b38 rec (f_X12_sum_b4 rec n) a0 (-1)) else f_X12_sum_b38 rec (f_X12_sum_b4 rec n) a0 3) else f_X12_sum_b38 rec (f_X12_sum_b4 rec n) a0 2) else pu ()
def f_X12_sum (rec : Nat → Mo Unit) (a0 : Nat) : Mo Unit := bd (cv 12 a0 (f_X12_product rec a0)) fun _ => f_X12_sum_b4 rec NF a0
def F_X12_sum : Nat → Nat → Mo Unit
  | 0, _ => fl
  | D + 1, a0 => f_X12_sum (F_X12_sum D) a0
set_option maxRecDepth 20000 in
theorem h_X12_sum_b38 (g : GW) (rec : Nat → Mo Unit) (e : Nat) (he : 13 ≤ e) (hrec : ∀ a0, V g mX12_sum e rtU 0 [(0, rf g a0)] [] (rec a0)) (k4 : Nat → Mo Unit) (hk4 : ∀ a0, V g mX12_sum (e + 3) rtU 4 [(0, rf g a0)] [] (k4 a0)) (a0 : Nat) (xs0 : Int32) : V g mX12_sum (e + 3) rtU 38 [(0, rf g a0)] [.int xs0] (f_X12_sum_b38 rec k4 a0 xs0) := by
  unfold f_X12_sum_b38
  refine v_istore_n (lv' := [(1, .int xs0), (0, rf g a0)]) (pc' := 39) dX12_sum_38 rfl (by decide) rfl rfl ?_
  refine v_iload_n (pc' := 40) 0 dX12_sum_39 rfl rfl rfl ?_
  refine v_iconst (v := -1) (pc' := 41) dX12_sum_40 rfl rfl ?_
  refine v_icmpne (t := 45) (pc' := 44) dX12_sum_41 (by decide) rfl ?_ ?_
  · refine v_aload_n (pc' := 46) 1 dX12_sum_45 rfl rfl rfl ?_
    refine v_callV (vs := []) (pc' := 49) (h_X12_product g rec e he hrec a0) mv_X12_product wl_X12_202 rfl (Nat.le_of_ble_eq_true rfl) (by omega) (by decide) (Nat.le_of_ble_eq_true rfl) rfl dX12_sum_46 rfl fun _ => ?_
    refine v_aload_n (pc' := 50) 1 dX12_sum_49 rfl rfl rfl ?_
    refine v_iload_n (pc' := 51) 0 dX12_sum_50 rfl rfl rfl ?_
    refine v_iconst (v := 0) (pc' := 52) dX12_sum_51 rfl rfl ?_
    refine v_callV (vs := [.int xs0, .int 0]) (pc' := 55) (h_X12_notes g a0 xs0 0) mv_X12_notes wl_X12_208 rfl (Nat.le_of_ble_eq_true rfl) (by omega) (by decide) (Nat.le_of_ble_eq_true rfl) rfl dX12_sum_52 rfl fun _ => ?_
    refine v_goto (t := 4) dX12_sum_55 (by decide) ?_
    refine V.sub [1] rfl ?_
    exact hk4 a0
  · exact v_return rfl dX12_sum_44
set_option maxRecDepth 20000 in
theorem h_X12_sum_b4 (g : GW) (rec : Nat → Mo Unit) (e : Nat) (he : 13 ≤ e) (hrec : ∀ a0, V g mX12_sum e rtU 0 [(0, rf g a0)] [] (rec a0)) : ∀ n : Nat, ∀ a0, V g mX12_sum (e + 3) rtU 4 [(0, rf g a0)] [] (f_X12_sum_b4 rec n a0) := by
  intro n
  induction n with
  | zero => intro a0; exact V.vain
  | succ n ih =>
    intro a0
    unfold f_X12_sum_b4
    refine v_aload_n (pc' := 5) 0 dX12_sum_4 rfl rfl rfl ?_
    refine v_getI (pc' := 8) fl_X12_110 dX12_sum_5 rfl fun v1 => ?_
    refine v_ifne (t := 58) (pc' := 11) dX12_sum_8 (by decide) rfl ?_ ?_
    · exact v_return rfl dX12_sum_58
    · refine v_aload_n (pc' := 12) 0 dX12_sum_11 rfl rfl rfl ?_
      refine v_bipush (v := 43) (pc' := 14) dX12_sum_12 rfl rfl ?_
      refine v_callV (vs := [.int 43]) (pc' := 17) (h_X12_takesSign g a0 43) mv_X12_takesSign wl_X12_205 rfl (Nat.le_of_ble_eq_true rfl) (by omega) (by decide) (Nat.le_of_ble_eq_true rfl) rfl dX12_sum_14 rfl fun v2 => ?_
      refine v_ifeq (t := 24) (pc' := 20) dX12_sum_17 (by decide) rfl ?_ ?_
      · refine v_aload_n (pc' := 25) 0 dX12_sum_24 rfl rfl rfl ?_
        refine v_bipush (v := 45) (pc' := 27) dX12_sum_25 rfl rfl ?_
        refine v_callV (vs := [.int 45]) (pc' := 30) (h_X12_takesSign g a0 45) mv_X12_takesSign wl_X12_205 rfl (Nat.le_of_ble_eq_true rfl) (by omega) (by decide) (Nat.le_of_ble_eq_true rfl) rfl dX12_sum_27 rfl fun v3 => ?_
        refine v_ifeq (t := 37) (pc' := 33) dX12_sum_30 (by decide) rfl ?_ ?_
        · refine v_iconst (v := -1) (pc' := 38) dX12_sum_37 rfl rfl ?_
          refine V.sub [0] rfl ?_
          exact h_X12_sum_b38 g rec e he hrec (f_X12_sum_b4 rec n) ih a0 (-1)
        · refine v_iconst (v := 3) (pc' := 34) dX12_sum_33 rfl rfl ?_
          refine v_goto (t := 38) dX12_sum_34 (by decide) ?_
          refine V.sub [0] rfl ?_
          exact h_X12_sum_b38 g rec e he hrec (f_X12_sum_b4 rec n) ih a0 3
      · refine v_iconst (v := 2) (pc' := 21) dX12_sum_20 rfl rfl ?_
        refine v_goto (t := 38) dX12_sum_21 (by decide) ?_
        refine V.sub [0] rfl ?_
        exact h_X12_sum_b38 g rec e he hrec (f_X12_sum_b4 rec n) ih a0 2
set_option maxRecDepth 20000 in
theorem h_X12_sum (g : GW) (rec : Nat → Mo Unit) (e : Nat) (he : 13 ≤ e) (hrec : ∀ a0, V g mX12_sum e rtU 0 [(0, rf g a0)] [] (rec a0)) (a0 : Nat) : V g mX12_sum (e + 3) rtU 0 [(0, rf g a0)] [] (f_X12_sum rec a0) := by
  unfold f_X12_sum
  refine v_aload_n (pc' := 1) 0 dX12_sum_0 rfl rfl rfl ?_
  refine v_callV (vs := []) (pc' := 4) (h_X12_product g rec e he hrec a0) mv_X12_product wl_X12_202 rfl (Nat.le_of_ble_eq_true rfl) (by omega) (by decide) (Nat.le_of_ble_eq_true rfl) rfl dX12_sum_1 rfl fun _ => ?_
  refine V.sub [0] rfl ?_
  exact h_X12_sum_b4 g rec e he hrec NF a0
theorem H_X12_sum (g : GW) : ∀ (D : Nat) a0, V g mX12_sum (13 + D * 3) rtU 0 [(0, rf g a0)] [] (F_X12_sum D a0)
  | 0, _ => V.vain
  | D + 1, a0 => by
    have h := h_X12_sum g (F_X12_sum D) (13 + D * 3) (Nat.le_add_right _ _) (fun a0 => H_X12_sum g D a0) a0
    rw [show 13 + (D + 1) * 3 = 13 + D * 3 + 3 by omega]
    exact h
-- law
def f_X12_law_b85 (a0 : Nat) : Mo Int32 := bd (gI 12 5 a0) fun v1 => if (v1 = 0 : Prop) then (bd (pf 12 3 a0 (.int (-1))) fun _ => bd (gI 12 18 a0) fun v2 => bd (pf 12 17 a0 (.int v2)) fun _ => bd (gR 12 20 a0) fun r3 => bd (gR 12 19 a0) fun r4 => bd (gI 12 17 a0) fun v5 => bd (f_X12_lays r3 r4 v5) fun _ => pu 1) else bd (cv 12 a0 (f_X12_ends a0)) fun v6 => pu v6
def f_X12_law_b30 (a0 : Nat) (x1 : Int32) (xs0 : Int32) (as1 : Nat) : Mo Int32 := bd (cv 12 as1 (f_X12_bad as1 xs0 1 1)) fun v7 => if (v7 = 0 : Prop) then (bd (cv 12 a0 (f_X12_starts a0 x1)) fun _ => bd (pf 12 18 a0 (.int 0)) fun _ => bd (cv 12 a0 (F_X12_sum 12 a0)) fun _ => bd (cv 12 a0 (f_X12_blanks a0)) fun _ => bd (gI 12 5 a0) fun v8 => if (v8 = 0 : Prop) then (bd (gI 12 4 a0) fun v9 => bd (gI 12 2 a0) fun v10 => if (v10 ≤ v9 : Prop) then (f_X12_law_b85 a0) else bd (gI 12 4 a0) fun v11 => bd (cv 12 a0 (f_X12_wrong a0 1 v11)) fun _ => f_X12_law_b85 a0) else f_X12_law_b85 a0) else pu 0
def f_X12_law_b25 (a0 : Nat) (x1 : Int32) (as0 : Nat) : Mo Int32 := f_X12_law_b30 a0 x1 1 as0
def f_X12_law (a0 : Nat) (x1 : Int32) : Mo Int32 := bd (pf 12 0 a0 (.int 0)) fun _ => bd (gI 12 1 a0) fun v12 => bd (f_X12_in x1 0 v12) fun v13 => if (v13 = 0 : Prop) then (f_X12_law_b25 a0 x1 a0) else if (x1 ≤ 150 : Prop) then (f_X12_law_b30 a0 x1 0 a0) else f_X12_law_b25 a0 x1 a0
set_option maxRecDepth 20000 in
theorem h_X12_law_b85 (g : GW) (a0 : Nat) : V g mX12_law 50 rtI 85 [(0, rf g a0)] [] (f_X12_law_b85 a0) := by
  unfold f_X12_law_b85
  refine v_aload_n (pc' := 86) 0 dX12_law_85 rfl rfl rfl ?_
  refine v_getI (pc' := 89) fl_X12_110 dX12_law_86 rfl fun v1 => ?_
  refine v_ifeq (t := 97) (pc' := 92) dX12_law_89 (by decide) rfl ?_ ?_
  · refine v_aload_n (pc' := 98) 0 dX12_law_97 rfl rfl rfl ?_
    refine v_iconst (v := -1) (pc' := 99) dX12_law_98 rfl rfl ?_
    refine v_put (v := (.int (-1))) (v' := .int (-1)) (pc' := 102) fw_X12_9 rfl rfl rfl (fun h => nomatch h) dX12_law_99 rfl ?_
    refine v_aload_n (pc' := 103) 0 dX12_law_102 rfl rfl rfl ?_
    refine v_aload_n (pc' := 104) 0 dX12_law_103 rfl rfl rfl ?_
    refine v_getI (pc' := 107) fl_X12_199 dX12_law_104 rfl fun v2 => ?_
    refine v_put (v := (.int v2)) (v' := .int v2) (pc' := 110) fw_X12_184 rfl rfl rfl (fun h => nomatch h) dX12_law_107 rfl ?_
    refine v_aload_n (pc' := 111) 0 dX12_law_110 rfl rfl rfl ?_
    refine v_getR (pc' := 114) fl_X12_43 dX12_law_111 rfl fun r3 => ?_
    refine v_aload_n (pc' := 115) 0 dX12_law_114 rfl rfl rfl ?_
    refine v_getR (pc' := 118) fl_X12_40 dX12_law_115 rfl fun r4 => ?_
    refine v_aload_n (pc' := 119) 0 dX12_law_118 rfl rfl rfl ?_
    refine v_getI (pc' := 122) fl_X12_184 dX12_law_119 rfl fun v5 => ?_
    refine v_callS (vs := [rf g r3, rf g r4, .int v5]) (pc' := 125) (h_X12_lays g r3 r4 v5) ms_X12_lays wl_X12_180 (Nat.le_of_ble_eq_true rfl) (by omega) (by decide) (Nat.le_of_ble_eq_true rfl) rfl dX12_law_122 rfl fun _ => ?_
    refine v_iconst (v := 1) (pc' := 126) dX12_law_125 rfl rfl ?_
    exact v_ireturn rfl dX12_law_126
  · refine v_aload_n (pc' := 93) 0 dX12_law_92 rfl rfl rfl ?_
    refine v_callV (vs := []) (pc' := 96) (h_X12_ends g a0) mv_X12_ends wl_X12_177 rfl (Nat.le_of_ble_eq_true rfl) (by omega) (by decide) (Nat.le_of_ble_eq_true rfl) rfl dX12_law_93 rfl fun v6 => ?_
    exact v_ireturn rfl dX12_law_96
set_option maxRecDepth 20000 in
theorem h_X12_law_b30 (g : GW) (a0 : Nat) (x1 : Int32) (xs0 : Int32) (as1 : Nat) : V g mX12_law 50 rtI 30 [(0, rf g a0), (1, .int x1)] [.int xs0, rf g as1] (f_X12_law_b30 a0 x1 xs0 as1) := by
  unfold f_X12_law_b30
  refine v_iconst (v := 1) (pc' := 31) dX12_law_30 rfl rfl ?_
  refine v_iconst (v := 1) (pc' := 32) dX12_law_31 rfl rfl ?_
  refine v_callV (vs := [.int xs0, .int 1, .int 1]) (pc' := 35) (h_X12_bad g as1 xs0 1 1) mv_X12_bad wl_X12_167 rfl (Nat.le_of_ble_eq_true rfl) (by omega) (by decide) (Nat.le_of_ble_eq_true rfl) rfl dX12_law_32 rfl fun v7 => ?_
  refine v_ifeq (t := 40) (pc' := 38) dX12_law_35 (by decide) rfl ?_ ?_
  · refine v_aload_n (pc' := 41) 0 dX12_law_40 rfl rfl rfl ?_
    refine v_iload_n (pc' := 42) 1 dX12_law_41 rfl rfl rfl ?_
    refine v_callV (vs := [.int x1]) (pc' := 45) (h_X12_starts g a0 x1) mv_X12_starts wl_X12_171 rfl (Nat.le_of_ble_eq_true rfl) (by omega) (by decide) (Nat.le_of_ble_eq_true rfl) rfl dX12_law_42 rfl fun _ => ?_
    refine v_aload_n (pc' := 46) 0 dX12_law_45 rfl rfl rfl ?_
    refine v_iconst (v := 0) (pc' := 47) dX12_law_46 rfl rfl ?_
    refine v_put (v := (.int 0)) (v' := .int 0) (pc' := 50) fw_X12_199 rfl rfl rfl (fun h => nomatch h) dX12_law_47 rfl ?_
    refine v_aload_n (pc' := 51) 0 dX12_law_50 rfl rfl rfl ?_
    refine v_callV (vs := []) (pc' := 54) (H_X12_sum g 12 a0) mv_X12_sum wl_X12_221 rfl (Nat.le_of_ble_eq_true rfl) (by omega) (by decide) (Nat.le_of_ble_eq_true rfl) rfl dX12_law_51 rfl fun _ => ?_
    refine v_aload_n (pc' := 55) 0 dX12_law_54 rfl rfl rfl ?_
    refine v_callV (vs := []) (pc' := 58) (h_X12_blanks g a0) mv_X12_blanks wl_X12_116 rfl (Nat.le_of_ble_eq_true rfl) (by omega) (by decide) (Nat.le_of_ble_eq_true rfl) rfl dX12_law_55 rfl fun _ => ?_
    refine v_aload_n (pc' := 59) 0 dX12_law_58 rfl rfl rfl ?_
    refine v_getI (pc' := 62) fl_X12_110 dX12_law_59 rfl fun v8 => ?_
    refine v_ifne (t := 85) (pc' := 65) dX12_law_62 (by decide) rfl ?_ ?_
    · refine V.sub [0] rfl ?_
      exact h_X12_law_b85 g a0
    · refine v_aload_n (pc' := 66) 0 dX12_law_65 rfl rfl rfl ?_
      refine v_getI (pc' := 69) fl_X12_103 dX12_law_66 rfl fun v9 => ?_
      refine v_aload_n (pc' := 70) 0 dX12_law_69 rfl rfl rfl ?_
      refine v_getI (pc' := 73) fl_X12_100 dX12_law_70 rfl fun v10 => ?_
      refine v_icmpge (t := 85) (pc' := 76) dX12_law_73 (by decide) rfl ?_ ?_
      · refine V.sub [0] rfl ?_
        exact h_X12_law_b85 g a0
      · refine v_aload_n (pc' := 77) 0 dX12_law_76 rfl rfl rfl ?_
        refine v_iconst (v := 1) (pc' := 78) dX12_law_77 rfl rfl ?_
        refine v_aload_n (pc' := 79) 0 dX12_law_78 rfl rfl rfl ?_
        refine v_getI (pc' := 82) fl_X12_103 dX12_law_79 rfl fun v11 => ?_
        refine v_callV (vs := [.int 1, .int v11]) (pc' := 85) (h_X12_wrong g a0 1 v11) mv_X12_wrong wl_X12_123 rfl (Nat.le_of_ble_eq_true rfl) (by omega) (by decide) (Nat.le_of_ble_eq_true rfl) rfl dX12_law_82 rfl fun _ => ?_
        refine V.sub [0] rfl ?_
        exact h_X12_law_b85 g a0
  · refine v_iconst (v := 0) (pc' := 39) dX12_law_38 rfl rfl ?_
    exact v_ireturn rfl dX12_law_39
set_option maxRecDepth 20000 in
theorem h_X12_law_b25 (g : GW) (a0 : Nat) (x1 : Int32) (as0 : Nat) : V g mX12_law 50 rtI 25 [(0, rf g a0), (1, .int x1)] [rf g as0] (f_X12_law_b25 a0 x1 as0) := by
  unfold f_X12_law_b25
  refine v_iconst (v := 1) (pc' := 26) dX12_law_25 rfl rfl ?_
  refine v_goto (t := 30) dX12_law_26 (by decide) ?_
  refine V.sub [0, 1] rfl ?_
  exact h_X12_law_b30 g a0 x1 1 as0
set_option maxRecDepth 20000 in
theorem h_X12_law (g : GW) (a0 : Nat) (x1 : Int32) : V g mX12_law 50 rtI 0 [(0, rf g a0), (1, .int x1)] [] (f_X12_law a0 x1) := by
  unfold f_X12_law
  refine v_aload_n (pc' := 1) 0 dX12_law_0 rfl rfl rfl ?_
  refine v_iconst (v := 0) (pc' := 2) dX12_law_1 rfl rfl ?_
  refine v_put (v := (.int 0)) (v' := .int 0) (pc' := 5) fw_X12_94 rfl rfl rfl (fun h => nomatch h) dX12_law_2 rfl ?_
  refine v_aload_n (pc' := 6) 0 dX12_law_5 rfl rfl rfl ?_
  refine v_iload_n (pc' := 7) 1 dX12_law_6 rfl rfl rfl ?_
  refine v_iconst (v := 0) (pc' := 8) dX12_law_7 rfl rfl ?_
  refine v_aload_n (pc' := 9) 0 dX12_law_8 rfl rfl rfl ?_
  refine v_getI (pc' := 12) fl_X12_97 dX12_law_9 rfl fun v12 => ?_
  refine v_callS (vs := [.int x1, .int 0, .int v12]) (pc' := 15) (h_X12_in g x1 0 v12) ms_X12_in wl_X12_128 (Nat.le_of_ble_eq_true rfl) (by omega) (by decide) (Nat.le_of_ble_eq_true rfl) rfl dX12_law_12 rfl fun v13 => ?_
  refine v_ifeq (t := 25) (pc' := 18) dX12_law_15 (by decide) rfl ?_ ?_
  · refine V.sub [0, 1] rfl ?_
    exact h_X12_law_b25 g a0 x1 a0
  · refine v_iload_n (pc' := 19) 1 dX12_law_18 rfl rfl rfl ?_
    refine v_sipush (v := 150) (pc' := 22) dX12_law_19 rfl rfl ?_
    refine v_icmple (t := 29) (pc' := 25) dX12_law_22 (by decide) rfl ?_ ?_
    · refine v_iconst (v := 0) (pc' := 30) dX12_law_29 rfl rfl ?_
      refine V.sub [0, 1] rfl ?_
      exact h_X12_law_b30 g a0 x1 0 a0
    · refine V.sub [0, 1] rfl ?_
      exact h_X12_law_b25 g a0 x1 a0
-- by
def f_X12_by (x0 : Int32) (x1 : Int32) (x2 : Int32) : Mo Int32 := sw x0 2 [(pu (x1 + x2)), (pu (x1 - x2)), (pu (x1 * x2)), (if (x2 = 0 : Prop) then (pu 0) else if (x2 = (-1) : Prop) then (pu (-x1)) else bd (dv x1 x2) fun v1 => pu v1), (if (x2 = 0 : Prop) then (pu 0) else if (x2 = (-1) : Prop) then (pu 0) else bd (rm_ x1 x2) fun v2 => pu v2), (bd (f_X12_less x1 x2) fun v3 => pu v3)] (bd (f_X12_more x1 x2) fun v4 => pu v4)
set_option maxRecDepth 20000 in
theorem h_X12_by (g : GW) (x0 : Int32) (x1 : Int32) (x2 : Int32) : V g mX12_by 9 rtI 0 [(0, .int x0), (1, .int x1), (2, .int x2)] [] (f_X12_by x0 x1 x2) := by
  unfold f_X12_by
  refine v_iload_n (pc' := 1) 0 dX12_by_0 rfl rfl rfl ?_
  refine v_table (td := 97) dX12_by_1 rfl (by decide) ⟨⟨40, by decide, ?_⟩, ⟨44, by decide, ?_⟩, ⟨48, by decide, ?_⟩, ⟨52, by decide, ?_⟩, ⟨74, by decide, ?_⟩, ⟨91, by decide, ?_⟩, trivial⟩ ?_
  · refine v_iload_n (pc' := 41) 1 dX12_by_40 rfl rfl rfl ?_
    refine v_iload_n (pc' := 42) 2 dX12_by_41 rfl rfl rfl ?_
    refine v_iadd (pc' := 43) dX12_by_42 rfl ?_
    exact v_ireturn rfl dX12_by_43
  · refine v_iload_n (pc' := 45) 1 dX12_by_44 rfl rfl rfl ?_
    refine v_iload_n (pc' := 46) 2 dX12_by_45 rfl rfl rfl ?_
    refine v_isub (pc' := 47) dX12_by_46 rfl ?_
    exact v_ireturn rfl dX12_by_47
  · refine v_iload_n (pc' := 49) 1 dX12_by_48 rfl rfl rfl ?_
    refine v_iload_n (pc' := 50) 2 dX12_by_49 rfl rfl rfl ?_
    refine v_imul (pc' := 51) dX12_by_50 rfl ?_
    exact v_ireturn rfl dX12_by_51
  · refine v_iload_n (pc' := 53) 2 dX12_by_52 rfl rfl rfl ?_
    refine v_ifne (t := 60) (pc' := 56) dX12_by_53 (by decide) rfl ?_ ?_
    · refine v_iload_n (pc' := 61) 2 dX12_by_60 rfl rfl rfl ?_
      refine v_iconst (v := -1) (pc' := 62) dX12_by_61 rfl rfl ?_
      refine v_icmpne (t := 70) (pc' := 65) dX12_by_62 (by decide) rfl ?_ ?_
      · refine v_iload_n (pc' := 71) 1 dX12_by_70 rfl rfl rfl ?_
        refine v_iload_n (pc' := 72) 2 dX12_by_71 rfl rfl rfl ?_
        refine v_idiv (pc' := 73) dX12_by_72 rfl fun v1 => ?_
        exact v_ireturn rfl dX12_by_73
      · refine v_iload_n (pc' := 66) 1 dX12_by_65 rfl rfl rfl ?_
        refine v_ineg (pc' := 67) dX12_by_66 rfl ?_
        refine v_goto (t := 73) dX12_by_67 (by decide) ?_
        exact v_ireturn rfl dX12_by_73
    · refine v_iconst (v := 0) (pc' := 57) dX12_by_56 rfl rfl ?_
      refine v_goto (t := 73) dX12_by_57 (by decide) ?_
      exact v_ireturn rfl dX12_by_73
  · refine v_iload_n (pc' := 75) 2 dX12_by_74 rfl rfl rfl ?_
    refine v_ifeq (t := 83) (pc' := 78) dX12_by_75 (by decide) rfl ?_ ?_
    · refine v_iconst (v := 0) (pc' := 84) dX12_by_83 rfl rfl ?_
      refine v_goto (t := 90) dX12_by_84 (by decide) ?_
      exact v_ireturn rfl dX12_by_90
    · refine v_iload_n (pc' := 79) 2 dX12_by_78 rfl rfl rfl ?_
      refine v_iconst (v := -1) (pc' := 80) dX12_by_79 rfl rfl ?_
      refine v_icmpne (t := 87) (pc' := 83) dX12_by_80 (by decide) rfl ?_ ?_
      · refine v_iload_n (pc' := 88) 1 dX12_by_87 rfl rfl rfl ?_
        refine v_iload_n (pc' := 89) 2 dX12_by_88 rfl rfl rfl ?_
        refine v_irem (pc' := 90) dX12_by_89 rfl fun v2 => ?_
        exact v_ireturn rfl dX12_by_90
      · refine v_iconst (v := 0) (pc' := 84) dX12_by_83 rfl rfl ?_
        refine v_goto (t := 90) dX12_by_84 (by decide) ?_
        exact v_ireturn rfl dX12_by_90
  · refine v_iload_n (pc' := 92) 1 dX12_by_91 rfl rfl rfl ?_
    refine v_iload_n (pc' := 93) 2 dX12_by_92 rfl rfl rfl ?_
    refine v_callS (vs := [.int x1, .int x2]) (pc' := 96) (h_X12_less g x1 x2) ms_X12_less wl_X12_227 (Nat.le_of_ble_eq_true rfl) (by omega) (by decide) (Nat.le_of_ble_eq_true rfl) rfl dX12_by_93 rfl fun v3 => ?_
    exact v_ireturn rfl dX12_by_96
  · refine v_iload_n (pc' := 98) 1 dX12_by_97 rfl rfl rfl ?_
    refine v_iload_n (pc' := 99) 2 dX12_by_98 rfl rfl rfl ?_
    refine v_callS (vs := [.int x1, .int x2]) (pc' := 102) (h_X12_more g x1 x2) ms_X12_more wl_X12_230 (Nat.le_of_ble_eq_true rfl) (by omega) (by decide) (Nat.le_of_ble_eq_true rfl) rfl dX12_by_99 rfl fun v4 => ?_
    exact v_ireturn rfl dX12_by_102
-- byLaw
def f_X12_byLaw_b126 (k23 : Nat → Int32 → Int32 → Mo Int32) (a0 : Nat) (x1 : Int32) (x2 : Int32) : Mo Int32 := k23 a0 x1 (x2 + 1)
def f_X12_byLaw_b83 (k23 : Nat → Int32 → Int32 → Mo Int32) (a0 : Nat) (x1 : Int32) (x2 : Int32) (xs0 : Int32) (xs1 : Int32) (as2 : Nat) : Mo Int32 := bd (as_ as2 xs1 xs0) fun _ => f_X12_byLaw_b126 k23 a0 (x1 + 1) x2
def f_X12_byLaw_b23 : Nat → Nat → Int32 → Int32 → Mo Int32
  | 0, _, _, _ => fl
  | n + 1, a0, x1, x2 => bd (gI 12 17 a0) fun v1 => if (v1 ≤ x2 : Prop) then (bd (gR 12 23 a0) fun r2 => bd (al 0 r2 0) fun v3 => bd (f_X12_more 0 v3) fun v4 => bd (f_X12_less 63 v4) fun v5 => pu v5) else bd (gR 12 19 a0) fun r6 => bd (aR 3 r6 x2) fun r7 => bd (al 0 r7 0) fun v8 => if (2 ≤ v8 : Prop) then (bd (gR 12 23 a0) fun r9 => bd (gR 12 19 a0) fun r10 => bd (aR 3 r10 x2) fun r11 => bd (al 0 r11 0) fun v12 => bd (gR 12 23 a0) fun r13 => bd (al 0 r13 ((x1 + (-1)) - (1 : Int32))) fun v14 => bd (gR 12 23 a0) fun r15 => bd (al 0 r15 (x1 + (-1))) fun v16 => bd (f_X12_by v12 v14 v16) fun v17 => bd (as_ r9 ((x1 + (-1)) - (1 : Int32)) v17) fun _ => f_X12_byLaw_b126 (f_X12_byLaw_b23 n) a0 (x1 + (-1)) x2) else bd (gR 12 23 a0) fun r18 => bd (gR 12 19 a0) fun r19 => bd (aR 3 r19 x2) fun r20 => bd (al 0 r20 0) fun v21 => if (v21 = 0 : Prop) then (bd (gR 12 19 a0) fun r27 => bd (aR 3 r27 x2) fun r28 => bd (al 0 r28 1) fun v29 => f_X12_byLaw_b83 (f_X12_byLaw_b23 n) a0 x1 x2 v29 x1 r18) else bd (gR 12 24 a0) fun r22 => bd (gR 12 19 a0) fun r23 => bd (aR 3 r23 x2) fun r24 => bd (al 0 r24 1) fun v25 => bd (al 0 r22 v25) fun v26 => f_X12_byLaw_b83 (f_X12_byLaw_b23 n) a0 x1 x2 v26 x1 r18
def f_X12_byLaw (a0 : Nat) : Mo Int32 := bd (gR 12 23 a0) fun r30 => bd (gR 12 24 a0) fun r31 => bd (al 0 r31 0) fun v32 => bd (gR 12 24 a0) fun r33 => bd (al 0 r33 2) fun v34 => bd (as_ r30 0 (v32 + v34)) fun _ => f_X12_byLaw_b23 NF a0 0 0
set_option maxRecDepth 20000 in
theorem h_X12_byLaw_b126 (g : GW) (k23 : Nat → Int32 → Int32 → Mo Int32) (hk23 : ∀ a0 x1 x2, V g mX12_byLaw 10 rtI 23 [(0, rf g a0), (1, .int x1), (2, .int x2)] [] (k23 a0 x1 x2)) (a0 : Nat) (x1 : Int32) (x2 : Int32) : V g mX12_byLaw 10 rtI 126 [(0, rf g a0), (1, .int x1), (2, .int x2)] [] (f_X12_byLaw_b126 k23 a0 x1 x2) := by
  unfold f_X12_byLaw_b126
  refine v_iinc (v := x2 + 1) (lv' := [(2, .int (x2 + 1)), (0, rf g a0), (1, .int x1)]) (pc' := 129) 2 dX12_byLaw_126 rfl rfl (by decide) rfl rfl ?_
  refine v_goto (t := 23) dX12_byLaw_129 (by decide) ?_
  refine V.sub [1, 2, 0] rfl ?_
  exact hk23 a0 x1 (x2 + 1)
set_option maxRecDepth 20000 in
theorem h_X12_byLaw_b83 (g : GW) (k23 : Nat → Int32 → Int32 → Mo Int32) (hk23 : ∀ a0 x1 x2, V g mX12_byLaw 10 rtI 23 [(0, rf g a0), (1, .int x1), (2, .int x2)] [] (k23 a0 x1 x2)) (a0 : Nat) (x1 : Int32) (x2 : Int32) (xs0 : Int32) (xs1 : Int32) (as2 : Nat) : V g mX12_byLaw 10 rtI 83 [(0, rf g a0), (1, .int x1), (2, .int x2)] [.int xs0, .int xs1, rf g as2] (f_X12_byLaw_b83 k23 a0 x1 x2 xs0 xs1 as2) := by
  unfold f_X12_byLaw_b83
  refine v_iast (pc' := 84) dX12_byLaw_83 rfl ?_
  refine v_iinc (v := x1 + 1) (lv' := [(1, .int (x1 + 1)), (0, rf g a0), (2, .int x2)]) (pc' := 87) 1 dX12_byLaw_84 rfl rfl (by decide) rfl rfl ?_
  refine v_goto (t := 126) dX12_byLaw_87 (by decide) ?_
  refine V.sub [1, 0, 2] rfl ?_
  exact h_X12_byLaw_b126 g k23 hk23 a0 (x1 + 1) x2
set_option maxRecDepth 20000 in
theorem h_X12_byLaw_b23 (g : GW) : ∀ n : Nat, ∀ a0 x1 x2, V g mX12_byLaw 10 rtI 23 [(0, rf g a0), (1, .int x1), (2, .int x2)] [] (f_X12_byLaw_b23 n a0 x1 x2) := by
  intro n
  induction n with
  | zero => intro a0 x1 x2; exact V.vain
  | succ n ih =>
    intro a0 x1 x2
    unfold f_X12_byLaw_b23
    refine v_iload_n (pc' := 24) 2 dX12_byLaw_23 rfl rfl rfl ?_
    refine v_aload_n (pc' := 25) 0 dX12_byLaw_24 rfl rfl rfl ?_
    refine v_getI (pc' := 28) fl_X12_184 dX12_byLaw_25 rfl fun v1 => ?_
    refine v_icmpge (t := 132) (pc' := 31) dX12_byLaw_28 (by decide) rfl ?_ ?_
    · refine v_bipush (v := 63) (pc' := 134) dX12_byLaw_132 rfl rfl ?_
      refine v_iconst (v := 0) (pc' := 135) dX12_byLaw_134 rfl rfl ?_
      refine v_aload_n (pc' := 136) 0 dX12_byLaw_135 rfl rfl rfl ?_
      refine v_getR (pc' := 139) fl_X12_52 dX12_byLaw_136 rfl fun r2 => ?_
      refine v_iconst (v := 0) (pc' := 140) dX12_byLaw_139 rfl rfl ?_
      refine v_iald (pc' := 141) dX12_byLaw_140 rfl fun v3 => ?_
      refine v_callS (vs := [.int 0, .int v3]) (pc' := 144) (h_X12_more g 0 v3) ms_X12_more wl_X12_230 (Nat.le_of_ble_eq_true rfl) (by omega) (by decide) (Nat.le_of_ble_eq_true rfl) rfl dX12_byLaw_141 rfl fun v4 => ?_
      refine v_callS (vs := [.int 63, .int v4]) (pc' := 147) (h_X12_less g 63 v4) ms_X12_less wl_X12_227 (Nat.le_of_ble_eq_true rfl) (by omega) (by decide) (Nat.le_of_ble_eq_true rfl) rfl dX12_byLaw_144 rfl fun v5 => ?_
      exact v_ireturn rfl dX12_byLaw_147
    · refine v_aload_n (pc' := 32) 0 dX12_byLaw_31 rfl rfl rfl ?_
      refine v_getR (pc' := 35) fl_X12_40 dX12_byLaw_32 rfl fun r6 => ?_
      refine v_iload_n (pc' := 36) 2 dX12_byLaw_35 rfl rfl rfl ?_
      refine v_aaldR (pc' := 37) dX12_byLaw_36 rfl fun r7 => ?_
      refine v_iconst (v := 0) (pc' := 38) dX12_byLaw_37 rfl rfl ?_
      refine v_iald (pc' := 39) dX12_byLaw_38 rfl fun v8 => ?_
      refine v_iconst (v := 2) (pc' := 40) dX12_byLaw_39 rfl rfl ?_
      refine v_icmpge (t := 90) (pc' := 43) dX12_byLaw_40 (by decide) rfl ?_ ?_
      · refine v_iinc (v := x1 + (-1)) (lv' := [(1, .int (x1 + (-1))), (0, rf g a0), (2, .int x2)]) (pc' := 93) 1 dX12_byLaw_90 rfl rfl (by decide) rfl rfl ?_
        refine v_aload_n (pc' := 94) 1 dX12_byLaw_93 rfl rfl rfl ?_
        refine v_getR (pc' := 97) fl_X12_52 dX12_byLaw_94 rfl fun r9 => ?_
        refine v_iload_n (pc' := 98) 0 dX12_byLaw_97 rfl rfl rfl ?_
        refine v_iconst (v := 1) (pc' := 99) dX12_byLaw_98 rfl rfl ?_
        refine v_isub (pc' := 100) dX12_byLaw_99 rfl ?_
        refine v_aload_n (pc' := 101) 1 dX12_byLaw_100 rfl rfl rfl ?_
        refine v_getR (pc' := 104) fl_X12_40 dX12_byLaw_101 rfl fun r10 => ?_
        refine v_iload_n (pc' := 105) 2 dX12_byLaw_104 rfl rfl rfl ?_
        refine v_aaldR (pc' := 106) dX12_byLaw_105 rfl fun r11 => ?_
        refine v_iconst (v := 0) (pc' := 107) dX12_byLaw_106 rfl rfl ?_
        refine v_iald (pc' := 108) dX12_byLaw_107 rfl fun v12 => ?_
        refine v_aload_n (pc' := 109) 1 dX12_byLaw_108 rfl rfl rfl ?_
        refine v_getR (pc' := 112) fl_X12_52 dX12_byLaw_109 rfl fun r13 => ?_
        refine v_iload_n (pc' := 113) 0 dX12_byLaw_112 rfl rfl rfl ?_
        refine v_iconst (v := 1) (pc' := 114) dX12_byLaw_113 rfl rfl ?_
        refine v_isub (pc' := 115) dX12_byLaw_114 rfl ?_
        refine v_iald (pc' := 116) dX12_byLaw_115 rfl fun v14 => ?_
        refine v_aload_n (pc' := 117) 1 dX12_byLaw_116 rfl rfl rfl ?_
        refine v_getR (pc' := 120) fl_X12_52 dX12_byLaw_117 rfl fun r15 => ?_
        refine v_iload_n (pc' := 121) 0 dX12_byLaw_120 rfl rfl rfl ?_
        refine v_iald (pc' := 122) dX12_byLaw_121 rfl fun v16 => ?_
        refine v_callS (vs := [.int v12, .int v14, .int v16]) (pc' := 125) (h_X12_by g v12 v14 v16) ms_X12_by wl_X12_233 (Nat.le_of_ble_eq_true rfl) (by omega) (by decide) (Nat.le_of_ble_eq_true rfl) rfl dX12_byLaw_122 rfl fun v17 => ?_
        refine v_iast (pc' := 126) dX12_byLaw_125 rfl ?_
        refine V.sub [1, 0, 2] rfl ?_
        exact h_X12_byLaw_b126 g (f_X12_byLaw_b23 n) ih a0 (x1 + (-1)) x2
      · refine v_aload_n (pc' := 44) 0 dX12_byLaw_43 rfl rfl rfl ?_
        refine v_getR (pc' := 47) fl_X12_52 dX12_byLaw_44 rfl fun r18 => ?_
        refine v_iload_n (pc' := 48) 1 dX12_byLaw_47 rfl rfl rfl ?_
        refine v_aload_n (pc' := 49) 0 dX12_byLaw_48 rfl rfl rfl ?_
        refine v_getR (pc' := 52) fl_X12_40 dX12_byLaw_49 rfl fun r19 => ?_
        refine v_iload_n (pc' := 53) 2 dX12_byLaw_52 rfl rfl rfl ?_
        refine v_aaldR (pc' := 54) dX12_byLaw_53 rfl fun r20 => ?_
        refine v_iconst (v := 0) (pc' := 55) dX12_byLaw_54 rfl rfl ?_
        refine v_iald (pc' := 56) dX12_byLaw_55 rfl fun v21 => ?_
        refine v_ifne (t := 70) (pc' := 59) dX12_byLaw_56 (by decide) rfl ?_ ?_
        · refine v_aload_n (pc' := 71) 0 dX12_byLaw_70 rfl rfl rfl ?_
          refine v_getR (pc' := 74) fl_X12_55 dX12_byLaw_71 rfl fun r22 => ?_
          refine v_aload_n (pc' := 75) 0 dX12_byLaw_74 rfl rfl rfl ?_
          refine v_getR (pc' := 78) fl_X12_40 dX12_byLaw_75 rfl fun r23 => ?_
          refine v_iload_n (pc' := 79) 2 dX12_byLaw_78 rfl rfl rfl ?_
          refine v_aaldR (pc' := 80) dX12_byLaw_79 rfl fun r24 => ?_
          refine v_iconst (v := 1) (pc' := 81) dX12_byLaw_80 rfl rfl ?_
          refine v_iald (pc' := 82) dX12_byLaw_81 rfl fun v25 => ?_
          refine v_iald (pc' := 83) dX12_byLaw_82 rfl fun v26 => ?_
          refine V.sub [0, 1, 2] rfl ?_
          exact h_X12_byLaw_b83 g (f_X12_byLaw_b23 n) ih a0 x1 x2 v26 x1 r18
        · refine v_aload_n (pc' := 60) 0 dX12_byLaw_59 rfl rfl rfl ?_
          refine v_getR (pc' := 63) fl_X12_40 dX12_byLaw_60 rfl fun r27 => ?_
          refine v_iload_n (pc' := 64) 2 dX12_byLaw_63 rfl rfl rfl ?_
          refine v_aaldR (pc' := 65) dX12_byLaw_64 rfl fun r28 => ?_
          refine v_iconst (v := 1) (pc' := 66) dX12_byLaw_65 rfl rfl ?_
          refine v_iald (pc' := 67) dX12_byLaw_66 rfl fun v29 => ?_
          refine v_goto (t := 83) dX12_byLaw_67 (by decide) ?_
          refine V.sub [0, 1, 2] rfl ?_
          exact h_X12_byLaw_b83 g (f_X12_byLaw_b23 n) ih a0 x1 x2 v29 x1 r18
set_option maxRecDepth 20000 in
theorem h_X12_byLaw (g : GW) (a0 : Nat) : V g mX12_byLaw 10 rtI 0 [(0, rf g a0)] [] (f_X12_byLaw a0) := by
  unfold f_X12_byLaw
  refine v_iconst (v := 0) (pc' := 1) dX12_byLaw_0 rfl rfl ?_
  refine v_istore_n (lv' := [(1, .int 0), (0, rf g a0)]) (pc' := 2) dX12_byLaw_1 rfl (by decide) rfl rfl ?_
  refine v_aload_n (pc' := 3) 1 dX12_byLaw_2 rfl rfl rfl ?_
  refine v_getR (pc' := 6) fl_X12_52 dX12_byLaw_3 rfl fun r30 => ?_
  refine v_iconst (v := 0) (pc' := 7) dX12_byLaw_6 rfl rfl ?_
  refine v_aload_n (pc' := 8) 1 dX12_byLaw_7 rfl rfl rfl ?_
  refine v_getR (pc' := 11) fl_X12_55 dX12_byLaw_8 rfl fun r31 => ?_
  refine v_iconst (v := 0) (pc' := 12) dX12_byLaw_11 rfl rfl ?_
  refine v_iald (pc' := 13) dX12_byLaw_12 rfl fun v32 => ?_
  refine v_aload_n (pc' := 14) 1 dX12_byLaw_13 rfl rfl rfl ?_
  refine v_getR (pc' := 17) fl_X12_55 dX12_byLaw_14 rfl fun r33 => ?_
  refine v_iconst (v := 2) (pc' := 18) dX12_byLaw_17 rfl rfl ?_
  refine v_iald (pc' := 19) dX12_byLaw_18 rfl fun v34 => ?_
  refine v_iadd (pc' := 20) dX12_byLaw_19 rfl ?_
  refine v_iast (pc' := 21) dX12_byLaw_20 rfl ?_
  refine v_iconst (v := 0) (pc' := 22) dX12_byLaw_21 rfl rfl ?_
  refine v_istore_n (lv' := [(2, .int 0), (1, .int 0), (0, rf g a0)]) (pc' := 23) dX12_byLaw_22 rfl (by decide) rfl rfl ?_
  refine V.sub [2, 1, 0] rfl ?_
  exact h_X12_byLaw_b23 g NF a0 0 0
-- stepHere
def f_X12_stepHere (a0 : Nat) : Mo Int32 := bd (cv 12 a0 (f_X12_isWord a0 20 1 11 5 0 0)) fun v1 => if (v1 = 0 : Prop) then (bd (cv 12 a0 (f_X12_isWord a0 13 15 15 4 0 0)) fun v2 => if (v2 = 0 : Prop) then (bd (cv 12 a0 (f_X12_isWord a0 2 21 18 14 0 0)) fun v3 => if (v3 = 0 : Prop) then (bd (cv 12 a0 (f_X12_isWord a0 25 5 1 18 0 0)) fun v4 => if (v4 = 0 : Prop) then (bd (cv 12 a0 (f_X12_isWord a0 1 7 1 9 14 0)) fun v5 => if (v5 = 0 : Prop) then (pu (-1)) else pu 4) else pu 3) else pu 2) else pu 1) else pu 0
set_option maxRecDepth 20000 in
theorem h_X12_stepHere (g : GW) (a0 : Nat) : V g mX12_stepHere 12 rtI 0 [(0, rf g a0)] [] (f_X12_stepHere a0) := by
  unfold f_X12_stepHere
  refine v_aload_n (pc' := 1) 0 dX12_stepHere_0 rfl rfl rfl ?_
  refine v_bipush (v := 20) (pc' := 3) dX12_stepHere_1 rfl rfl ?_
  refine v_iconst (v := 1) (pc' := 4) dX12_stepHere_3 rfl rfl ?_
  refine v_bipush (v := 11) (pc' := 6) dX12_stepHere_4 rfl rfl ?_
  refine v_iconst (v := 5) (pc' := 7) dX12_stepHere_6 rfl rfl ?_
  refine v_iconst (v := 0) (pc' := 8) dX12_stepHere_7 rfl rfl ?_
  refine v_iconst (v := 0) (pc' := 9) dX12_stepHere_8 rfl rfl ?_
  refine v_callV (vs := [.int 20, .int 1, .int 11, .int 5, .int 0, .int 0]) (pc' := 12) (h_X12_isWord g a0 20 1 11 5 0 0) mv_X12_isWord wl_X12_143 rfl (Nat.le_of_ble_eq_true rfl) (by omega) (by decide) (Nat.le_of_ble_eq_true rfl) rfl dX12_stepHere_9 rfl fun v1 => ?_
  refine v_ifeq (t := 17) (pc' := 15) dX12_stepHere_12 (by decide) rfl ?_ ?_
  · refine v_aload_n (pc' := 18) 0 dX12_stepHere_17 rfl rfl rfl ?_
    refine v_bipush (v := 13) (pc' := 20) dX12_stepHere_18 rfl rfl ?_
    refine v_bipush (v := 15) (pc' := 22) dX12_stepHere_20 rfl rfl ?_
    refine v_bipush (v := 15) (pc' := 24) dX12_stepHere_22 rfl rfl ?_
    refine v_iconst (v := 4) (pc' := 25) dX12_stepHere_24 rfl rfl ?_
    refine v_iconst (v := 0) (pc' := 26) dX12_stepHere_25 rfl rfl ?_
    refine v_iconst (v := 0) (pc' := 27) dX12_stepHere_26 rfl rfl ?_
    refine v_callV (vs := [.int 13, .int 15, .int 15, .int 4, .int 0, .int 0]) (pc' := 30) (h_X12_isWord g a0 13 15 15 4 0 0) mv_X12_isWord wl_X12_143 rfl (Nat.le_of_ble_eq_true rfl) (by omega) (by decide) (Nat.le_of_ble_eq_true rfl) rfl dX12_stepHere_27 rfl fun v2 => ?_
    refine v_ifeq (t := 35) (pc' := 33) dX12_stepHere_30 (by decide) rfl ?_ ?_
    · refine v_aload_n (pc' := 36) 0 dX12_stepHere_35 rfl rfl rfl ?_
      refine v_iconst (v := 2) (pc' := 37) dX12_stepHere_36 rfl rfl ?_
      refine v_bipush (v := 21) (pc' := 39) dX12_stepHere_37 rfl rfl ?_
      refine v_bipush (v := 18) (pc' := 41) dX12_stepHere_39 rfl rfl ?_
      refine v_bipush (v := 14) (pc' := 43) dX12_stepHere_41 rfl rfl ?_
      refine v_iconst (v := 0) (pc' := 44) dX12_stepHere_43 rfl rfl ?_
      refine v_iconst (v := 0) (pc' := 45) dX12_stepHere_44 rfl rfl ?_
      refine v_callV (vs := [.int 2, .int 21, .int 18, .int 14, .int 0, .int 0]) (pc' := 48) (h_X12_isWord g a0 2 21 18 14 0 0) mv_X12_isWord wl_X12_143 rfl (Nat.le_of_ble_eq_true rfl) (by omega) (by decide) (Nat.le_of_ble_eq_true rfl) rfl dX12_stepHere_45 rfl fun v3 => ?_
      refine v_ifeq (t := 53) (pc' := 51) dX12_stepHere_48 (by decide) rfl ?_ ?_
      · refine v_aload_n (pc' := 54) 0 dX12_stepHere_53 rfl rfl rfl ?_
        refine v_bipush (v := 25) (pc' := 56) dX12_stepHere_54 rfl rfl ?_
        refine v_iconst (v := 5) (pc' := 57) dX12_stepHere_56 rfl rfl ?_
        refine v_iconst (v := 1) (pc' := 58) dX12_stepHere_57 rfl rfl ?_
        refine v_bipush (v := 18) (pc' := 60) dX12_stepHere_58 rfl rfl ?_
        refine v_iconst (v := 0) (pc' := 61) dX12_stepHere_60 rfl rfl ?_
        refine v_iconst (v := 0) (pc' := 62) dX12_stepHere_61 rfl rfl ?_
        refine v_callV (vs := [.int 25, .int 5, .int 1, .int 18, .int 0, .int 0]) (pc' := 65) (h_X12_isWord g a0 25 5 1 18 0 0) mv_X12_isWord wl_X12_143 rfl (Nat.le_of_ble_eq_true rfl) (by omega) (by decide) (Nat.le_of_ble_eq_true rfl) rfl dX12_stepHere_62 rfl fun v4 => ?_
        refine v_ifeq (t := 70) (pc' := 68) dX12_stepHere_65 (by decide) rfl ?_ ?_
        · refine v_aload_n (pc' := 71) 0 dX12_stepHere_70 rfl rfl rfl ?_
          refine v_iconst (v := 1) (pc' := 72) dX12_stepHere_71 rfl rfl ?_
          refine v_bipush (v := 7) (pc' := 74) dX12_stepHere_72 rfl rfl ?_
          refine v_iconst (v := 1) (pc' := 75) dX12_stepHere_74 rfl rfl ?_
          refine v_bipush (v := 9) (pc' := 77) dX12_stepHere_75 rfl rfl ?_
          refine v_bipush (v := 14) (pc' := 79) dX12_stepHere_77 rfl rfl ?_
          refine v_iconst (v := 0) (pc' := 80) dX12_stepHere_79 rfl rfl ?_
          refine v_callV (vs := [.int 1, .int 7, .int 1, .int 9, .int 14, .int 0]) (pc' := 83) (h_X12_isWord g a0 1 7 1 9 14 0) mv_X12_isWord wl_X12_143 rfl (Nat.le_of_ble_eq_true rfl) (by omega) (by decide) (Nat.le_of_ble_eq_true rfl) rfl dX12_stepHere_80 rfl fun v5 => ?_
          refine v_ifeq (t := 90) (pc' := 86) dX12_stepHere_83 (by decide) rfl ?_ ?_
          · refine v_iconst (v := -1) (pc' := 91) dX12_stepHere_90 rfl rfl ?_
            exact v_ireturn rfl dX12_stepHere_91
          · refine v_iconst (v := 4) (pc' := 87) dX12_stepHere_86 rfl rfl ?_
            refine v_goto (t := 91) dX12_stepHere_87 (by decide) ?_
            exact v_ireturn rfl dX12_stepHere_91
        · refine v_iconst (v := 3) (pc' := 69) dX12_stepHere_68 rfl rfl ?_
          exact v_ireturn rfl dX12_stepHere_69
      · refine v_iconst (v := 2) (pc' := 52) dX12_stepHere_51 rfl rfl ?_
        exact v_ireturn rfl dX12_stepHere_52
    · refine v_iconst (v := 1) (pc' := 34) dX12_stepHere_33 rfl rfl ?_
      exact v_ireturn rfl dX12_stepHere_34
  · refine v_iconst (v := 0) (pc' := 16) dX12_stepHere_15 rfl rfl ?_
    exact v_ireturn rfl dX12_stepHere_16
-- readsStep
def f_X12_readsStep_b214 (rec : Nat → Mo Unit) (a0 : Nat) (a2 : Nat) : Mo Unit := bd (gI 12 26 a0) fun v1 => bd (as_ a2 4 v1) fun _ => bd (cv 12 a0 (f_X12_sign a0 59)) fun _ => pu ()
def f_X12_readsStep_b198 (rec : Nat → Mo Unit) (a0 : Nat) (a2 : Nat) : Mo Unit := bd (cv 12 a0 (f_X12_sign a0 93)) fun _ => bd (gI 12 8 a0) fun v2 => bd (pf 12 8 a0 (.int (v2 - (1 : Int32)))) fun _ => f_X12_readsStep_b214 rec a0 a2
def f_X12_readsStep_b167 (rec : Nat → Mo Unit) : Nat → Nat → Nat → Mo Unit
  | 0, _, _ => fl
  | n + 1, a0, a2 => bd (gI 12 5 a0) fun v3 => if (v3 = 0 : Prop) then (bd (gI 12 4 a0) fun v4 => bd (cv 12 a0 (f_X12_byteAt a0 v4)) fun v5 => if (v5 = 93 : Prop) then (f_X12_readsStep_b198 rec a0 a2) else bd (cv 12 a0 (rec a0)) fun _ => bd (cv 12 a0 (f_X12_blanks a0)) fun _ => (f_X12_readsStep_b167 rec n) a0 a2) else f_X12_readsStep_b198 rec a0 a2
def f_X12_readsStep_b142 (rec : Nat → Mo Unit) (a0 : Nat) (x1 : Int32) (a2 : Nat) : Mo Unit := if (x1 = 4 : Prop) then (bd (cv 12 a0 (f_X12_number a0 0 30)) fun v6 => bd (as_ a2 1 v6) fun _ => bd (cv 12 a0 (f_X12_sign a0 91)) fun _ => bd (cv 12 a0 (f_X12_blanks a0)) fun _ => f_X12_readsStep_b167 rec NF a0 a2) else f_X12_readsStep_b214 rec a0 a2
def f_X12_readsStep_b133 (rec : Nat → Mo Unit) (a0 : Nat) (x1 : Int32) (a2 : Nat) : Mo Unit := bd (cv 12 a0 (f_X12_number a0 0 5)) fun v7 => bd (as_ a2 3 v7) fun _ => f_X12_readsStep_b142 rec a0 x1 a2
def f_X12_readsStep_b124 (rec : Nat → Mo Unit) (a0 : Nat) (x1 : Int32) (a2 : Nat) : Mo Unit := if (x1 = 0 : Prop) then (f_X12_readsStep_b133 rec a0 x1 a2) else if (x1 = 2 : Prop) then (f_X12_readsStep_b133 rec a0 x1 a2) else f_X12_readsStep_b142 rec a0 x1 a2
def f_X12_readsStep_b109 (rec : Nat → Mo Unit) (a0 : Nat) (x1 : Int32) (a2 : Nat) : Mo Unit := if (x1 = 1 : Prop) then (bd (cv 12 a0 (f_X12_number a0 0 9)) fun v8 => bd (as_ a2 2 v8) fun _ => f_X12_readsStep_b124 rec a0 x1 a2) else f_X12_readsStep_b124 rec a0 x1 a2
def f_X12_readsStep_b89 (rec : Nat → Mo Unit) (a0 : Nat) (x1 : Int32) (a2 : Nat) : Mo Unit := if (x1 = 0 : Prop) then (bd (gR 12 12 a0) fun r9 => bd (al 0 r9 0) fun v10 => bd (cv 12 a0 (f_X12_number a0 0 (v10 - (1 : Int32)))) fun v11 => bd (as_ a2 2 v11) fun _ => f_X12_readsStep_b109 rec a0 x1 a2) else f_X12_readsStep_b109 rec a0 x1 a2
def f_X12_readsStep_b32 (rec : Nat → Mo Unit) (a0 : Nat) (x1 : Int32) : Mo Unit := bd (gI 12 5 a0) fun v12 => if (v12 = 0 : Prop) then (bd (cv 12 a0 (f_X12_skipWord a0)) fun _ => bd (gR 12 25 a0) fun r13 => bd (gI 12 26 a0) fun v14 => bd (aR 3 r13 v14) fun r15 => bd (gI 12 26 a0) fun v16 => bd (pf 12 26 a0 (.int (v16 + (1 : Int32)))) fun _ => bd (as_ r15 0 x1) fun _ => if (2 ≤ x1 : Prop) then (f_X12_readsStep_b89 rec a0 x1 r15) else bd (gR 12 12 a0) fun r17 => bd (al 0 r17 0) fun v18 => bd (cv 12 a0 (f_X12_number a0 0 (v18 - (1 : Int32)))) fun v19 => bd (as_ r15 1 v19) fun _ => f_X12_readsStep_b89 rec a0 x1 r15) else pu ()
def f_X12_readsStep_b19 (rec : Nat → Mo Unit) (a0 : Nat) (x1 : Int32) : Mo Unit := if (x1 = 4 : Prop) then (bd (cv 12 a0 (f_X12_opensOne a0)) fun v20 => if (v20 = 0 : Prop) then (pu ()) else f_X12_readsStep_b32 rec a0 x1) else f_X12_readsStep_b32 rec a0 x1
def f_X12_readsStep (rec : Nat → Mo Unit) (a0 : Nat) : Mo Unit := bd (cv 12 a0 (f_X12_stepHere a0)) fun v21 => if (v21 = (-1) : Prop) then (bd (gI 12 4 a0) fun v22 => bd (cv 12 a0 (f_X12_wrong a0 1 v22)) fun _ => f_X12_readsStep_b19 rec a0 v21) else f_X12_readsStep_b19 rec a0 v21
def F_X12_readsStep : Nat → Nat → Mo Unit
  | 0, _ => fl
  | D + 1, a0 => f_X12_readsStep (F_X12_readsStep D) a0
set_option maxRecDepth 20000 in
theorem h_X12_readsStep_b214 (g : GW) (rec : Nat → Mo Unit) (e : Nat) (he : 12 ≤ e) (hrec : ∀ a0, V g mX12_readsStep e rtU 0 [(0, rf g a0)] [] (rec a0)) (a0 : Nat) (a2 : Nat) : V g mX12_readsStep (e + 1) rtU 214 [(0, rf g a0), (2, rf g a2)] [] (f_X12_readsStep_b214 rec a0 a2) := by
  unfold f_X12_readsStep_b214
  refine v_aload_n (pc' := 215) 1 dX12_readsStep_214 rfl rfl rfl ?_
  refine v_iconst (v := 4) (pc' := 216) dX12_readsStep_215 rfl rfl ?_
  refine v_aload_n (pc' := 217) 0 dX12_readsStep_216 rfl rfl rfl ?_
  refine v_getI (pc' := 220) fl_X12_240 dX12_readsStep_217 rfl fun v1 => ?_
  refine v_iast (pc' := 221) dX12_readsStep_220 rfl ?_
  refine v_aload_n (pc' := 222) 0 dX12_readsStep_221 rfl rfl rfl ?_
  refine v_bipush (v := 59) (pc' := 224) dX12_readsStep_222 rfl rfl ?_
  refine v_callV (vs := [.int 59]) (pc' := 227) (h_X12_sign g a0 59) mv_X12_sign wl_X12_163 rfl (Nat.le_of_ble_eq_true rfl) (by omega) (by decide) (Nat.le_of_ble_eq_true rfl) rfl dX12_readsStep_224 rfl fun _ => ?_
  exact v_return rfl dX12_readsStep_227
set_option maxRecDepth 20000 in
theorem h_X12_readsStep_b198 (g : GW) (rec : Nat → Mo Unit) (e : Nat) (he : 12 ≤ e) (hrec : ∀ a0, V g mX12_readsStep e rtU 0 [(0, rf g a0)] [] (rec a0)) (a0 : Nat) (a2 : Nat) : V g mX12_readsStep (e + 1) rtU 198 [(0, rf g a0), (2, rf g a2)] [] (f_X12_readsStep_b198 rec a0 a2) := by
  unfold f_X12_readsStep_b198
  refine v_aload_n (pc' := 199) 0 dX12_readsStep_198 rfl rfl rfl ?_
  refine v_bipush (v := 93) (pc' := 201) dX12_readsStep_199 rfl rfl ?_
  refine v_callV (vs := [.int 93]) (pc' := 204) (h_X12_sign g a0 93) mv_X12_sign wl_X12_163 rfl (Nat.le_of_ble_eq_true rfl) (by omega) (by decide) (Nat.le_of_ble_eq_true rfl) rfl dX12_readsStep_201 rfl fun _ => ?_
  refine v_aload_n (pc' := 205) 0 dX12_readsStep_204 rfl rfl rfl ?_
  refine v_dup (pc' := 206) dX12_readsStep_205 rfl rfl ?_
  refine v_getI (pc' := 209) fl_X12_153 dX12_readsStep_206 rfl fun v2 => ?_
  refine v_iconst (v := 1) (pc' := 210) dX12_readsStep_209 rfl rfl ?_
  refine v_isub (pc' := 211) dX12_readsStep_210 rfl ?_
  refine v_put (v := (.int (v2 - (1 : Int32)))) (v' := .int (v2 - (1 : Int32))) (pc' := 214) fw_X12_153 rfl rfl rfl (fun h => nomatch h) dX12_readsStep_211 rfl ?_
  refine V.sub [0, 1] rfl ?_
  exact h_X12_readsStep_b214 g rec e he hrec a0 a2
set_option maxRecDepth 20000 in
theorem h_X12_readsStep_b167 (g : GW) (rec : Nat → Mo Unit) (e : Nat) (he : 12 ≤ e) (hrec : ∀ a0, V g mX12_readsStep e rtU 0 [(0, rf g a0)] [] (rec a0)) : ∀ n : Nat, ∀ a0 a2, V g mX12_readsStep (e + 1) rtU 167 [(0, rf g a0), (2, rf g a2)] [] (f_X12_readsStep_b167 rec n a0 a2) := by
  intro n
  induction n with
  | zero => intro a0 a2; exact V.vain
  | succ n ih =>
    intro a0 a2
    unfold f_X12_readsStep_b167
    refine v_aload_n (pc' := 168) 0 dX12_readsStep_167 rfl rfl rfl ?_
    refine v_getI (pc' := 171) fl_X12_110 dX12_readsStep_168 rfl fun v3 => ?_
    refine v_ifne (t := 198) (pc' := 174) dX12_readsStep_171 (by decide) rfl ?_ ?_
    · refine V.sub [0, 1] rfl ?_
      exact h_X12_readsStep_b198 g rec e he hrec a0 a2
    · refine v_aload_n (pc' := 175) 0 dX12_readsStep_174 rfl rfl rfl ?_
      refine v_aload_n (pc' := 176) 0 dX12_readsStep_175 rfl rfl rfl ?_
      refine v_getI (pc' := 179) fl_X12_103 dX12_readsStep_176 rfl fun v4 => ?_
      refine v_callV (vs := [.int v4]) (pc' := 182) (h_X12_byteAt g a0 v4) mv_X12_byteAt wl_X12_106 rfl (Nat.le_of_ble_eq_true rfl) (by omega) (by decide) (Nat.le_of_ble_eq_true rfl) rfl dX12_readsStep_179 rfl fun v5 => ?_
      refine v_bipush (v := 93) (pc' := 184) dX12_readsStep_182 rfl rfl ?_
      refine v_icmpeq (t := 198) (pc' := 187) dX12_readsStep_184 (by decide) rfl ?_ ?_
      · refine V.sub [0, 1] rfl ?_
        exact h_X12_readsStep_b198 g rec e he hrec a0 a2
      · refine v_aload_n (pc' := 188) 0 dX12_readsStep_187 rfl rfl rfl ?_
        refine v_callV (vs := []) (pc' := 191) (hrec a0) mv_X12_readsStep wl_X12_243 rfl (Nat.le_of_ble_eq_true rfl) (by omega) (by decide) (Nat.le_of_ble_eq_true rfl) rfl dX12_readsStep_188 rfl fun _ => ?_
        refine v_aload_n (pc' := 192) 0 dX12_readsStep_191 rfl rfl rfl ?_
        refine v_callV (vs := []) (pc' := 195) (h_X12_blanks g a0) mv_X12_blanks wl_X12_116 rfl (Nat.le_of_ble_eq_true rfl) (by omega) (by decide) (Nat.le_of_ble_eq_true rfl) rfl dX12_readsStep_192 rfl fun _ => ?_
        refine v_goto (t := 167) dX12_readsStep_195 (by decide) ?_
        refine V.sub [0, 1] rfl ?_
        exact ih a0 a2
set_option maxRecDepth 20000 in
theorem h_X12_readsStep_b142 (g : GW) (rec : Nat → Mo Unit) (e : Nat) (he : 12 ≤ e) (hrec : ∀ a0, V g mX12_readsStep e rtU 0 [(0, rf g a0)] [] (rec a0)) (a0 : Nat) (x1 : Int32) (a2 : Nat) : V g mX12_readsStep (e + 1) rtU 142 [(0, rf g a0), (1, .int x1), (2, rf g a2)] [] (f_X12_readsStep_b142 rec a0 x1 a2) := by
  unfold f_X12_readsStep_b142
  refine v_iload_n (pc' := 143) 1 dX12_readsStep_142 rfl rfl rfl ?_
  refine v_iconst (v := 4) (pc' := 144) dX12_readsStep_143 rfl rfl ?_
  refine v_icmpne (t := 214) (pc' := 147) dX12_readsStep_144 (by decide) rfl ?_ ?_
  · refine V.sub [0, 2] rfl ?_
    exact h_X12_readsStep_b214 g rec e he hrec a0 a2
  · refine v_aload_n (pc' := 148) 2 dX12_readsStep_147 rfl rfl rfl ?_
    refine v_iconst (v := 1) (pc' := 149) dX12_readsStep_148 rfl rfl ?_
    refine v_aload_n (pc' := 150) 0 dX12_readsStep_149 rfl rfl rfl ?_
    refine v_iconst (v := 0) (pc' := 151) dX12_readsStep_150 rfl rfl ?_
    refine v_bipush (v := 30) (pc' := 153) dX12_readsStep_151 rfl rfl ?_
    refine v_callV (vs := [.int 0, .int 30]) (pc' := 156) (h_X12_number g a0 0 30) mv_X12_number wl_X12_159 rfl (Nat.le_of_ble_eq_true rfl) (by omega) (by decide) (Nat.le_of_ble_eq_true rfl) rfl dX12_readsStep_153 rfl fun v6 => ?_
    refine v_iast (pc' := 157) dX12_readsStep_156 rfl ?_
    refine v_aload_n (pc' := 158) 0 dX12_readsStep_157 rfl rfl rfl ?_
    refine v_bipush (v := 91) (pc' := 160) dX12_readsStep_158 rfl rfl ?_
    refine v_callV (vs := [.int 91]) (pc' := 163) (h_X12_sign g a0 91) mv_X12_sign wl_X12_163 rfl (Nat.le_of_ble_eq_true rfl) (by omega) (by decide) (Nat.le_of_ble_eq_true rfl) rfl dX12_readsStep_160 rfl fun _ => ?_
    refine v_aload_n (pc' := 164) 0 dX12_readsStep_163 rfl rfl rfl ?_
    refine v_callV (vs := []) (pc' := 167) (h_X12_blanks g a0) mv_X12_blanks wl_X12_116 rfl (Nat.le_of_ble_eq_true rfl) (by omega) (by decide) (Nat.le_of_ble_eq_true rfl) rfl dX12_readsStep_164 rfl fun _ => ?_
    refine V.sub [0, 2] rfl ?_
    exact h_X12_readsStep_b167 g rec e he hrec NF a0 a2
set_option maxRecDepth 20000 in
theorem h_X12_readsStep_b133 (g : GW) (rec : Nat → Mo Unit) (e : Nat) (he : 12 ≤ e) (hrec : ∀ a0, V g mX12_readsStep e rtU 0 [(0, rf g a0)] [] (rec a0)) (a0 : Nat) (x1 : Int32) (a2 : Nat) : V g mX12_readsStep (e + 1) rtU 133 [(0, rf g a0), (1, .int x1), (2, rf g a2)] [] (f_X12_readsStep_b133 rec a0 x1 a2) := by
  unfold f_X12_readsStep_b133
  refine v_aload_n (pc' := 134) 2 dX12_readsStep_133 rfl rfl rfl ?_
  refine v_iconst (v := 3) (pc' := 135) dX12_readsStep_134 rfl rfl ?_
  refine v_aload_n (pc' := 136) 0 dX12_readsStep_135 rfl rfl rfl ?_
  refine v_iconst (v := 0) (pc' := 137) dX12_readsStep_136 rfl rfl ?_
  refine v_iconst (v := 5) (pc' := 138) dX12_readsStep_137 rfl rfl ?_
  refine v_callV (vs := [.int 0, .int 5]) (pc' := 141) (h_X12_number g a0 0 5) mv_X12_number wl_X12_159 rfl (Nat.le_of_ble_eq_true rfl) (by omega) (by decide) (Nat.le_of_ble_eq_true rfl) rfl dX12_readsStep_138 rfl fun v7 => ?_
  refine v_iast (pc' := 142) dX12_readsStep_141 rfl ?_
  refine V.sub [0, 1, 2] rfl ?_
  exact h_X12_readsStep_b142 g rec e he hrec a0 x1 a2
set_option maxRecDepth 20000 in
theorem h_X12_readsStep_b124 (g : GW) (rec : Nat → Mo Unit) (e : Nat) (he : 12 ≤ e) (hrec : ∀ a0, V g mX12_readsStep e rtU 0 [(0, rf g a0)] [] (rec a0)) (a0 : Nat) (x1 : Int32) (a2 : Nat) : V g mX12_readsStep (e + 1) rtU 124 [(0, rf g a0), (1, .int x1), (2, rf g a2)] [] (f_X12_readsStep_b124 rec a0 x1 a2) := by
  unfold f_X12_readsStep_b124
  refine v_iload_n (pc' := 125) 1 dX12_readsStep_124 rfl rfl rfl ?_
  refine v_ifeq (t := 133) (pc' := 128) dX12_readsStep_125 (by decide) rfl ?_ ?_
  · refine V.sub [0, 1, 2] rfl ?_
    exact h_X12_readsStep_b133 g rec e he hrec a0 x1 a2
  · refine v_iload_n (pc' := 129) 1 dX12_readsStep_128 rfl rfl rfl ?_
    refine v_iconst (v := 2) (pc' := 130) dX12_readsStep_129 rfl rfl ?_
    refine v_icmpne (t := 142) (pc' := 133) dX12_readsStep_130 (by decide) rfl ?_ ?_
    · refine V.sub [0, 1, 2] rfl ?_
      exact h_X12_readsStep_b142 g rec e he hrec a0 x1 a2
    · refine V.sub [0, 1, 2] rfl ?_
      exact h_X12_readsStep_b133 g rec e he hrec a0 x1 a2
set_option maxRecDepth 20000 in
theorem h_X12_readsStep_b109 (g : GW) (rec : Nat → Mo Unit) (e : Nat) (he : 12 ≤ e) (hrec : ∀ a0, V g mX12_readsStep e rtU 0 [(0, rf g a0)] [] (rec a0)) (a0 : Nat) (x1 : Int32) (a2 : Nat) : V g mX12_readsStep (e + 1) rtU 109 [(0, rf g a0), (1, .int x1), (2, rf g a2)] [] (f_X12_readsStep_b109 rec a0 x1 a2) := by
  unfold f_X12_readsStep_b109
  refine v_iload_n (pc' := 110) 1 dX12_readsStep_109 rfl rfl rfl ?_
  refine v_iconst (v := 1) (pc' := 111) dX12_readsStep_110 rfl rfl ?_
  refine v_icmpne (t := 124) (pc' := 114) dX12_readsStep_111 (by decide) rfl ?_ ?_
  · refine V.sub [0, 1, 2] rfl ?_
    exact h_X12_readsStep_b124 g rec e he hrec a0 x1 a2
  · refine v_aload_n (pc' := 115) 2 dX12_readsStep_114 rfl rfl rfl ?_
    refine v_iconst (v := 2) (pc' := 116) dX12_readsStep_115 rfl rfl ?_
    refine v_aload_n (pc' := 117) 0 dX12_readsStep_116 rfl rfl rfl ?_
    refine v_iconst (v := 0) (pc' := 118) dX12_readsStep_117 rfl rfl ?_
    refine v_bipush (v := 9) (pc' := 120) dX12_readsStep_118 rfl rfl ?_
    refine v_callV (vs := [.int 0, .int 9]) (pc' := 123) (h_X12_number g a0 0 9) mv_X12_number wl_X12_159 rfl (Nat.le_of_ble_eq_true rfl) (by omega) (by decide) (Nat.le_of_ble_eq_true rfl) rfl dX12_readsStep_120 rfl fun v8 => ?_
    refine v_iast (pc' := 124) dX12_readsStep_123 rfl ?_
    refine V.sub [0, 1, 2] rfl ?_
    exact h_X12_readsStep_b124 g rec e he hrec a0 x1 a2
set_option maxRecDepth 20000 in
theorem h_X12_readsStep_b89 (g : GW) (rec : Nat → Mo Unit) (e : Nat) (he : 12 ≤ e) (hrec : ∀ a0, V g mX12_readsStep e rtU 0 [(0, rf g a0)] [] (rec a0)) (a0 : Nat) (x1 : Int32) (a2 : Nat) : V g mX12_readsStep (e + 1) rtU 89 [(0, rf g a0), (1, .int x1), (2, rf g a2)] [] (f_X12_readsStep_b89 rec a0 x1 a2) := by
  unfold f_X12_readsStep_b89
  refine v_iload_n (pc' := 90) 1 dX12_readsStep_89 rfl rfl rfl ?_
  refine v_ifne (t := 109) (pc' := 93) dX12_readsStep_90 (by decide) rfl ?_ ?_
  · refine V.sub [0, 1, 2] rfl ?_
    exact h_X12_readsStep_b109 g rec e he hrec a0 x1 a2
  · refine v_aload_n (pc' := 94) 2 dX12_readsStep_93 rfl rfl rfl ?_
    refine v_iconst (v := 2) (pc' := 95) dX12_readsStep_94 rfl rfl ?_
    refine v_aload_n (pc' := 96) 0 dX12_readsStep_95 rfl rfl rfl ?_
    refine v_iconst (v := 0) (pc' := 97) dX12_readsStep_96 rfl rfl ?_
    refine v_aload_n (pc' := 98) 0 dX12_readsStep_97 rfl rfl rfl ?_
    refine v_getR (pc' := 101) fl_X12_23 dX12_readsStep_98 rfl fun r9 => ?_
    refine v_iconst (v := 0) (pc' := 102) dX12_readsStep_101 rfl rfl ?_
    refine v_iald (pc' := 103) dX12_readsStep_102 rfl fun v10 => ?_
    refine v_iconst (v := 1) (pc' := 104) dX12_readsStep_103 rfl rfl ?_
    refine v_isub (pc' := 105) dX12_readsStep_104 rfl ?_
    refine v_callV (vs := [.int 0, .int (v10 - (1 : Int32))]) (pc' := 108) (h_X12_number g a0 0 (v10 - (1 : Int32))) mv_X12_number wl_X12_159 rfl (Nat.le_of_ble_eq_true rfl) (by omega) (by decide) (Nat.le_of_ble_eq_true rfl) rfl dX12_readsStep_105 rfl fun v11 => ?_
    refine v_iast (pc' := 109) dX12_readsStep_108 rfl ?_
    refine V.sub [0, 1, 2] rfl ?_
    exact h_X12_readsStep_b109 g rec e he hrec a0 x1 a2
set_option maxRecDepth 20000 in
theorem h_X12_readsStep_b32 (g : GW) (rec : Nat → Mo Unit) (e : Nat) (he : 12 ≤ e) (hrec : ∀ a0, V g mX12_readsStep e rtU 0 [(0, rf g a0)] [] (rec a0)) (a0 : Nat) (x1 : Int32) : V g mX12_readsStep (e + 1) rtU 32 [(0, rf g a0), (1, .int x1)] [] (f_X12_readsStep_b32 rec a0 x1) := by
  unfold f_X12_readsStep_b32
  refine v_aload_n (pc' := 33) 0 dX12_readsStep_32 rfl rfl rfl ?_
  refine v_getI (pc' := 36) fl_X12_110 dX12_readsStep_33 rfl fun v12 => ?_
  refine v_ifeq (t := 40) (pc' := 39) dX12_readsStep_36 (by decide) rfl ?_ ?_
  · refine v_aload_n (pc' := 41) 0 dX12_readsStep_40 rfl rfl rfl ?_
    refine v_callV (vs := []) (pc' := 44) (h_X12_skipWord g a0) mv_X12_skipWord wl_X12_147 rfl (Nat.le_of_ble_eq_true rfl) (by omega) (by decide) (Nat.le_of_ble_eq_true rfl) rfl dX12_readsStep_41 rfl fun _ => ?_
    refine v_aload_n (pc' := 45) 0 dX12_readsStep_44 rfl rfl rfl ?_
    refine v_getR (pc' := 48) fl_X12_58 dX12_readsStep_45 rfl fun r13 => ?_
    refine v_aload_n (pc' := 49) 0 dX12_readsStep_48 rfl rfl rfl ?_
    refine v_getI (pc' := 52) fl_X12_240 dX12_readsStep_49 rfl fun v14 => ?_
    refine v_aaldR (pc' := 53) dX12_readsStep_52 rfl fun r15 => ?_
    refine v_astore_n (lv' := [(2, rf g r15), (0, rf g a0), (1, .int x1)]) (pc' := 54) dX12_readsStep_53 rfl (by decide) rfl rfl ?_
    refine v_aload_n (pc' := 55) 1 dX12_readsStep_54 rfl rfl rfl ?_
    refine v_dup (pc' := 56) dX12_readsStep_55 rfl rfl ?_
    refine v_getI (pc' := 59) fl_X12_240 dX12_readsStep_56 rfl fun v16 => ?_
    refine v_iconst (v := 1) (pc' := 60) dX12_readsStep_59 rfl rfl ?_
    refine v_iadd (pc' := 61) dX12_readsStep_60 rfl ?_
    refine v_put (v := (.int (v16 + (1 : Int32)))) (v' := .int (v16 + (1 : Int32))) (pc' := 64) fw_X12_240 rfl rfl rfl (fun h => nomatch h) dX12_readsStep_61 rfl ?_
    refine v_aload_n (pc' := 65) 0 dX12_readsStep_64 rfl rfl rfl ?_
    refine v_iconst (v := 0) (pc' := 66) dX12_readsStep_65 rfl rfl ?_
    refine v_iload_n (pc' := 67) 2 dX12_readsStep_66 rfl rfl rfl ?_
    refine v_iast (pc' := 68) dX12_readsStep_67 rfl ?_
    refine v_iload_n (pc' := 69) 2 dX12_readsStep_68 rfl rfl rfl ?_
    refine v_iconst (v := 2) (pc' := 70) dX12_readsStep_69 rfl rfl ?_
    refine v_icmpge (t := 89) (pc' := 73) dX12_readsStep_70 (by decide) rfl ?_ ?_
    · refine V.sub [1, 2, 0] rfl ?_
      exact h_X12_readsStep_b89 g rec e he hrec a0 x1 r15
    · refine v_aload_n (pc' := 74) 0 dX12_readsStep_73 rfl rfl rfl ?_
      refine v_iconst (v := 1) (pc' := 75) dX12_readsStep_74 rfl rfl ?_
      refine v_aload_n (pc' := 76) 1 dX12_readsStep_75 rfl rfl rfl ?_
      refine v_iconst (v := 0) (pc' := 77) dX12_readsStep_76 rfl rfl ?_
      refine v_aload_n (pc' := 78) 1 dX12_readsStep_77 rfl rfl rfl ?_
      refine v_getR (pc' := 81) fl_X12_23 dX12_readsStep_78 rfl fun r17 => ?_
      refine v_iconst (v := 0) (pc' := 82) dX12_readsStep_81 rfl rfl ?_
      refine v_iald (pc' := 83) dX12_readsStep_82 rfl fun v18 => ?_
      refine v_iconst (v := 1) (pc' := 84) dX12_readsStep_83 rfl rfl ?_
      refine v_isub (pc' := 85) dX12_readsStep_84 rfl ?_
      refine v_callV (vs := [.int 0, .int (v18 - (1 : Int32))]) (pc' := 88) (h_X12_number g a0 0 (v18 - (1 : Int32))) mv_X12_number wl_X12_159 rfl (Nat.le_of_ble_eq_true rfl) (by omega) (by decide) (Nat.le_of_ble_eq_true rfl) rfl dX12_readsStep_85 rfl fun v19 => ?_
      refine v_iast (pc' := 89) dX12_readsStep_88 rfl ?_
      refine V.sub [1, 2, 0] rfl ?_
      exact h_X12_readsStep_b89 g rec e he hrec a0 x1 r15
  · exact v_return rfl dX12_readsStep_39
set_option maxRecDepth 20000 in
theorem h_X12_readsStep_b19 (g : GW) (rec : Nat → Mo Unit) (e : Nat) (he : 12 ≤ e) (hrec : ∀ a0, V g mX12_readsStep e rtU 0 [(0, rf g a0)] [] (rec a0)) (a0 : Nat) (x1 : Int32) : V g mX12_readsStep (e + 1) rtU 19 [(0, rf g a0), (1, .int x1)] [] (f_X12_readsStep_b19 rec a0 x1) := by
  unfold f_X12_readsStep_b19
  refine v_iload_n (pc' := 20) 1 dX12_readsStep_19 rfl rfl rfl ?_
  refine v_iconst (v := 4) (pc' := 21) dX12_readsStep_20 rfl rfl ?_
  refine v_icmpne (t := 32) (pc' := 24) dX12_readsStep_21 (by decide) rfl ?_ ?_
  · refine V.sub [0, 1] rfl ?_
    exact h_X12_readsStep_b32 g rec e he hrec a0 x1
  · refine v_aload_n (pc' := 25) 0 dX12_readsStep_24 rfl rfl rfl ?_
    refine v_callV (vs := []) (pc' := 28) (h_X12_opensOne g a0) mv_X12_opensOne wl_X12_217 rfl (Nat.le_of_ble_eq_true rfl) (by omega) (by decide) (Nat.le_of_ble_eq_true rfl) rfl dX12_readsStep_25 rfl fun v20 => ?_
    refine v_ifne (t := 32) (pc' := 31) dX12_readsStep_28 (by decide) rfl ?_ ?_
    · refine V.sub [0, 1] rfl ?_
      exact h_X12_readsStep_b32 g rec e he hrec a0 x1
    · exact v_return rfl dX12_readsStep_31
set_option maxRecDepth 20000 in
theorem h_X12_readsStep (g : GW) (rec : Nat → Mo Unit) (e : Nat) (he : 12 ≤ e) (hrec : ∀ a0, V g mX12_readsStep e rtU 0 [(0, rf g a0)] [] (rec a0)) (a0 : Nat) : V g mX12_readsStep (e + 1) rtU 0 [(0, rf g a0)] [] (f_X12_readsStep rec a0) := by
  unfold f_X12_readsStep
  refine v_aload_n (pc' := 1) 0 dX12_readsStep_0 rfl rfl rfl ?_
  refine v_callV (vs := []) (pc' := 4) (h_X12_stepHere g a0) mv_X12_stepHere wl_X12_237 rfl (Nat.le_of_ble_eq_true rfl) (by omega) (by decide) (Nat.le_of_ble_eq_true rfl) rfl dX12_readsStep_1 rfl fun v21 => ?_
  refine v_istore_n (lv' := [(1, .int v21), (0, rf g a0)]) (pc' := 5) dX12_readsStep_4 rfl (by decide) rfl rfl ?_
  refine v_iload_n (pc' := 6) 0 dX12_readsStep_5 rfl rfl rfl ?_
  refine v_iconst (v := -1) (pc' := 7) dX12_readsStep_6 rfl rfl ?_
  refine v_icmpne (t := 19) (pc' := 10) dX12_readsStep_7 (by decide) rfl ?_ ?_
  · refine V.sub [1, 0] rfl ?_
    exact h_X12_readsStep_b19 g rec e he hrec a0 v21
  · refine v_aload_n (pc' := 11) 1 dX12_readsStep_10 rfl rfl rfl ?_
    refine v_iconst (v := 1) (pc' := 12) dX12_readsStep_11 rfl rfl ?_
    refine v_aload_n (pc' := 13) 1 dX12_readsStep_12 rfl rfl rfl ?_
    refine v_getI (pc' := 16) fl_X12_103 dX12_readsStep_13 rfl fun v22 => ?_
    refine v_callV (vs := [.int 1, .int v22]) (pc' := 19) (h_X12_wrong g a0 1 v22) mv_X12_wrong wl_X12_123 rfl (Nat.le_of_ble_eq_true rfl) (by omega) (by decide) (Nat.le_of_ble_eq_true rfl) rfl dX12_readsStep_16 rfl fun _ => ?_
    refine V.sub [1, 0] rfl ?_
    exact h_X12_readsStep_b19 g rec e he hrec a0 v21
theorem H_X12_readsStep (g : GW) : ∀ (D : Nat) a0, V g mX12_readsStep (12 + D * 1) rtU 0 [(0, rf g a0)] [] (F_X12_readsStep D a0)
  | 0, _ => V.vain
  | D + 1, a0 => by
    have h := h_X12_readsStep g (F_X12_readsStep D) (12 + D * 1) (Nat.le_add_right _ _) (fun a0 => H_X12_readsStep g D a0) a0
    rw [show 12 + (D + 1) * 1 = 12 + D * 1 + 1 by omega]
    exact h
-- words
def f_X12_words_b169 (a0 : Nat) (x2 : Int32) : Mo Int32 := bd (gI 12 5 a0) fun v1 => if (v1 = 0 : Prop) then (bd (pf 12 3 a0 (.int (-1))) fun _ => bd (pf 12 31 a0 (.int x2)) fun _ => bd (gR 12 22 a0) fun r2 => bd (gR 12 21 a0) fun r3 => bd (f_X12_lays r2 r3 x2) fun _ => pu x2) else bd (cv 12 a0 (f_X12_ends a0)) fun v4 => pu v4
def f_X12_words_b162 (k48 : Nat → Int32 → Int32 → Mo Int32) (a0 : Nat) (x2 : Int32) (x3 : Int32) : Mo Int32 := bd (cv 12 a0 (f_X12_blanks a0)) fun _ => k48 a0 x2 x3
def f_X12_words_b110 (k48 : Nat → Int32 → Int32 → Mo Int32) (a0 : Nat) (x2 : Int32) (x3 : Int32) (x5 : Int32) : Mo Int32 := bd (cv 12 a0 (f_X12_number a0 0 6)) fun v5 => bd (cv 12 a0 (f_X12_sign a0 59)) fun _ => bd (gI 12 5 a0) fun v6 => if (v6 = 0 : Prop) then (bd (gR 12 22 a0) fun r7 => bd (aR 3 r7 x2) fun r8 => bd (as_ r8 0 x5) fun _ => bd (gR 12 22 a0) fun r9 => bd (aR 3 r9 x2) fun r10 => bd (as_ r10 1 v5) fun _ => f_X12_words_b162 k48 a0 (x2 + 1) (x3 ||| ((1 : Int32) <<< (x5 &&& 31)))) else f_X12_words_b162 k48 a0 x2 x3
def f_X12_words_b48 : Nat → Nat → Int32 → Int32 → Mo Int32
  | 0, _, _, _ => fl
  | n + 1, a0, x2, x3 => bd (gI 12 5 a0) fun v11 => if (v11 = 0 : Prop) then (bd (gI 12 4 a0) fun v12 => bd (gI 12 2 a0) fun v13 => if (v13 ≤ v12 : Prop) then (f_X12_words_b169 a0 x2) else bd (gI 12 4 a0) fun v14 => bd (gR 12 12 a0) fun r15 => bd (al 0 r15 0) fun v16 => bd (cv 12 a0 (f_X12_number a0 0 (v16 - (1 : Int32)))) fun v17 => bd (gI 12 5 a0) fun v18 => if (v18 = 0 : Prop) then (bd (f_X12_has x3 v17) fun v19 => if (v19 = 0 : Prop) then (f_X12_words_b110 (f_X12_words_b48 n) a0 x2 x3 v17) else bd (cv 12 a0 (f_X12_wrong a0 2 v14)) fun _ => f_X12_words_b110 (f_X12_words_b48 n) a0 x2 x3 v17) else f_X12_words_b110 (f_X12_words_b48 n) a0 x2 x3 v17) else f_X12_words_b169 a0 x2
def f_X12_words_b29 (a0 : Nat) (x1 : Int32) (xs0 : Int32) (as1 : Nat) : Mo Int32 := bd (cv 12 as1 (f_X12_bad as1 xs0 1 1)) fun v20 => if (v20 = 0 : Prop) then (bd (cv 12 a0 (f_X12_starts a0 x1)) fun _ => f_X12_words_b48 NF a0 0 0) else pu 0
def f_X12_words_b24 (a0 : Nat) (x1 : Int32) (as0 : Nat) : Mo Int32 := f_X12_words_b29 a0 x1 1 as0
def f_X12_words (a0 : Nat) (x1 : Int32) : Mo Int32 := bd (pf 12 0 a0 (.int 0)) fun _ => bd (gI 12 1 a0) fun v21 => bd (f_X12_in x1 0 v21) fun v22 => if (v22 = 0 : Prop) then (f_X12_words_b24 a0 x1 a0) else if (x1 ≤ 60 : Prop) then (f_X12_words_b29 a0 x1 0 a0) else f_X12_words_b24 a0 x1 a0
set_option maxRecDepth 20000 in
theorem h_X12_words_b169 (g : GW) (a0 : Nat) (x2 : Int32) : V g mX12_words 11 rtI 169 [(0, rf g a0), (2, .int x2)] [] (f_X12_words_b169 a0 x2) := by
  unfold f_X12_words_b169
  refine v_aload_n (pc' := 170) 0 dX12_words_169 rfl rfl rfl ?_
  refine v_getI (pc' := 173) fl_X12_110 dX12_words_170 rfl fun v1 => ?_
  refine v_ifeq (t := 181) (pc' := 176) dX12_words_173 (by decide) rfl ?_ ?_
  · refine v_aload_n (pc' := 182) 0 dX12_words_181 rfl rfl rfl ?_
    refine v_iconst (v := -1) (pc' := 183) dX12_words_182 rfl rfl ?_
    refine v_put (v := (.int (-1))) (v' := .int (-1)) (pc' := 186) fw_X12_9 rfl rfl rfl (fun h => nomatch h) dX12_words_183 rfl ?_
    refine v_aload_n (pc' := 187) 0 dX12_words_186 rfl rfl rfl ?_
    refine v_iload_n (pc' := 188) 1 dX12_words_187 rfl rfl rfl ?_
    refine v_put (v := (.int x2)) (v' := .int x2) (pc' := 191) fw_X12_187 rfl rfl rfl (fun h => nomatch h) dX12_words_188 rfl ?_
    refine v_aload_n (pc' := 192) 0 dX12_words_191 rfl rfl rfl ?_
    refine v_getR (pc' := 195) fl_X12_49 dX12_words_192 rfl fun r2 => ?_
    refine v_aload_n (pc' := 196) 0 dX12_words_195 rfl rfl rfl ?_
    refine v_getR (pc' := 199) fl_X12_46 dX12_words_196 rfl fun r3 => ?_
    refine v_iload_n (pc' := 200) 1 dX12_words_199 rfl rfl rfl ?_
    refine v_callS (vs := [rf g r2, rf g r3, .int x2]) (pc' := 203) (h_X12_lays g r2 r3 x2) ms_X12_lays wl_X12_180 (Nat.le_of_ble_eq_true rfl) (by omega) (by decide) (Nat.le_of_ble_eq_true rfl) rfl dX12_words_200 rfl fun _ => ?_
    refine v_iload_n (pc' := 204) 1 dX12_words_203 rfl rfl rfl ?_
    exact v_ireturn rfl dX12_words_204
  · refine v_aload_n (pc' := 177) 0 dX12_words_176 rfl rfl rfl ?_
    refine v_callV (vs := []) (pc' := 180) (h_X12_ends g a0) mv_X12_ends wl_X12_177 rfl (Nat.le_of_ble_eq_true rfl) (by omega) (by decide) (Nat.le_of_ble_eq_true rfl) rfl dX12_words_177 rfl fun v4 => ?_
    exact v_ireturn rfl dX12_words_180
set_option maxRecDepth 20000 in
theorem h_X12_words_b162 (g : GW) (k48 : Nat → Int32 → Int32 → Mo Int32) (hk48 : ∀ a0 x2 x3, V g mX12_words 11 rtI 48 [(0, rf g a0), (2, .int x2), (3, .int x3)] [] (k48 a0 x2 x3)) (a0 : Nat) (x2 : Int32) (x3 : Int32) : V g mX12_words 11 rtI 162 [(0, rf g a0), (2, .int x2), (3, .int x3)] [] (f_X12_words_b162 k48 a0 x2 x3) := by
  unfold f_X12_words_b162
  refine v_aload_n (pc' := 163) 0 dX12_words_162 rfl rfl rfl ?_
  refine v_callV (vs := []) (pc' := 166) (h_X12_blanks g a0) mv_X12_blanks wl_X12_116 rfl (Nat.le_of_ble_eq_true rfl) (by omega) (by decide) (Nat.le_of_ble_eq_true rfl) rfl dX12_words_163 rfl fun _ => ?_
  refine v_goto (t := 48) dX12_words_166 (by decide) ?_
  refine V.sub [0, 1, 2] rfl ?_
  exact hk48 a0 x2 x3
set_option maxRecDepth 20000 in
theorem h_X12_words_b110 (g : GW) (k48 : Nat → Int32 → Int32 → Mo Int32) (hk48 : ∀ a0 x2 x3, V g mX12_words 11 rtI 48 [(0, rf g a0), (2, .int x2), (3, .int x3)] [] (k48 a0 x2 x3)) (a0 : Nat) (x2 : Int32) (x3 : Int32) (x5 : Int32) : V g mX12_words 11 rtI 110 [(0, rf g a0), (2, .int x2), (3, .int x3), (5, .int x5)] [] (f_X12_words_b110 k48 a0 x2 x3 x5) := by
  unfold f_X12_words_b110
  refine v_aload_n (pc' := 111) 0 dX12_words_110 rfl rfl rfl ?_
  refine v_iconst (v := 0) (pc' := 112) dX12_words_111 rfl rfl ?_
  refine v_bipush (v := 6) (pc' := 114) dX12_words_112 rfl rfl ?_
  refine v_callV (vs := [.int 0, .int 6]) (pc' := 117) (h_X12_number g a0 0 6) mv_X12_number wl_X12_159 rfl (Nat.le_of_ble_eq_true rfl) (by omega) (by decide) (Nat.le_of_ble_eq_true rfl) rfl dX12_words_114 rfl fun v5 => ?_
  refine v_istore (lv' := [(6, .int v5), (0, rf g a0), (2, .int x2), (3, .int x3), (5, .int x5)]) (pc' := 119) dX12_words_117 (by decide) rfl rfl ?_
  refine v_aload_n (pc' := 120) 1 dX12_words_119 rfl rfl rfl ?_
  refine v_bipush (v := 59) (pc' := 122) dX12_words_120 rfl rfl ?_
  refine v_callV (vs := [.int 59]) (pc' := 125) (h_X12_sign g a0 59) mv_X12_sign wl_X12_163 rfl (Nat.le_of_ble_eq_true rfl) (by omega) (by decide) (Nat.le_of_ble_eq_true rfl) rfl dX12_words_122 rfl fun _ => ?_
  refine v_aload_n (pc' := 126) 1 dX12_words_125 rfl rfl rfl ?_
  refine v_getI (pc' := 129) fl_X12_110 dX12_words_126 rfl fun v6 => ?_
  refine v_ifne (t := 162) (pc' := 132) dX12_words_129 (by decide) rfl ?_ ?_
  · refine V.sub [1, 2, 3] rfl ?_
    exact h_X12_words_b162 g k48 hk48 a0 x2 x3
  · refine v_iload_n (pc' := 133) 3 dX12_words_132 rfl rfl rfl ?_
    refine v_iconst (v := 1) (pc' := 134) dX12_words_133 rfl rfl ?_
    refine v_iload (pc' := 136) 4 dX12_words_134 rfl rfl ?_
    refine v_ishl (pc' := 137) dX12_words_136 rfl ?_
    refine v_ior (pc' := 138) dX12_words_137 rfl ?_
    refine v_istore_n (lv' := [(3, .int (x3 ||| ((1 : Int32) <<< (x5 &&& 31)))), (6, .int v5), (0, rf g a0), (2, .int x2), (5, .int x5)]) (pc' := 139) dX12_words_138 rfl (by decide) rfl rfl ?_
    refine v_aload_n (pc' := 140) 2 dX12_words_139 rfl rfl rfl ?_
    refine v_getR (pc' := 143) fl_X12_49 dX12_words_140 rfl fun r7 => ?_
    refine v_iload_n (pc' := 144) 3 dX12_words_143 rfl rfl rfl ?_
    refine v_aaldR (pc' := 145) dX12_words_144 rfl fun r8 => ?_
    refine v_iconst (v := 0) (pc' := 146) dX12_words_145 rfl rfl ?_
    refine v_iload (pc' := 148) 4 dX12_words_146 rfl rfl ?_
    refine v_iast (pc' := 149) dX12_words_148 rfl ?_
    refine v_aload_n (pc' := 150) 2 dX12_words_149 rfl rfl rfl ?_
    refine v_getR (pc' := 153) fl_X12_49 dX12_words_150 rfl fun r9 => ?_
    refine v_iload_n (pc' := 154) 3 dX12_words_153 rfl rfl rfl ?_
    refine v_aaldR (pc' := 155) dX12_words_154 rfl fun r10 => ?_
    refine v_iconst (v := 1) (pc' := 156) dX12_words_155 rfl rfl ?_
    refine v_iload (pc' := 158) 1 dX12_words_156 rfl rfl ?_
    refine v_iast (pc' := 159) dX12_words_158 rfl ?_
    refine v_iinc (v := x2 + 1) (lv' := [(2, .int (x2 + 1)), (3, .int (x3 ||| ((1 : Int32) <<< (x5 &&& 31)))), (6, .int v5), (0, rf g a0), (5, .int x5)]) (pc' := 162) 3 dX12_words_159 rfl rfl (by decide) rfl rfl ?_
    refine V.sub [3, 0, 1] rfl ?_
    exact h_X12_words_b162 g k48 hk48 a0 (x2 + 1) (x3 ||| ((1 : Int32) <<< (x5 &&& 31)))
set_option maxRecDepth 20000 in
theorem h_X12_words_b48 (g : GW) : ∀ n : Nat, ∀ a0 x2 x3, V g mX12_words 11 rtI 48 [(0, rf g a0), (2, .int x2), (3, .int x3)] [] (f_X12_words_b48 n a0 x2 x3) := by
  intro n
  induction n with
  | zero => intro a0 x2 x3; exact V.vain
  | succ n ih =>
    intro a0 x2 x3
    unfold f_X12_words_b48
    refine v_aload_n (pc' := 49) 0 dX12_words_48 rfl rfl rfl ?_
    refine v_getI (pc' := 52) fl_X12_110 dX12_words_49 rfl fun v11 => ?_
    refine v_ifne (t := 169) (pc' := 55) dX12_words_52 (by decide) rfl ?_ ?_
    · refine V.sub [0, 1] rfl ?_
      exact h_X12_words_b169 g a0 x2
    · refine v_aload_n (pc' := 56) 0 dX12_words_55 rfl rfl rfl ?_
      refine v_getI (pc' := 59) fl_X12_103 dX12_words_56 rfl fun v12 => ?_
      refine v_aload_n (pc' := 60) 0 dX12_words_59 rfl rfl rfl ?_
      refine v_getI (pc' := 63) fl_X12_100 dX12_words_60 rfl fun v13 => ?_
      refine v_icmpge (t := 169) (pc' := 66) dX12_words_63 (by decide) rfl ?_ ?_
      · refine V.sub [0, 1] rfl ?_
        exact h_X12_words_b169 g a0 x2
      · refine v_aload_n (pc' := 67) 0 dX12_words_66 rfl rfl rfl ?_
        refine v_getI (pc' := 70) fl_X12_103 dX12_words_67 rfl fun v14 => ?_
        refine v_istore (lv' := [(4, .int v14), (0, rf g a0), (2, .int x2), (3, .int x3)]) (pc' := 72) dX12_words_70 (by decide) rfl rfl ?_
        refine v_aload_n (pc' := 73) 1 dX12_words_72 rfl rfl rfl ?_
        refine v_iconst (v := 0) (pc' := 74) dX12_words_73 rfl rfl ?_
        refine v_aload_n (pc' := 75) 1 dX12_words_74 rfl rfl rfl ?_
        refine v_getR (pc' := 78) fl_X12_23 dX12_words_75 rfl fun r15 => ?_
        refine v_iconst (v := 0) (pc' := 79) dX12_words_78 rfl rfl ?_
        refine v_iald (pc' := 80) dX12_words_79 rfl fun v16 => ?_
        refine v_iconst (v := 1) (pc' := 81) dX12_words_80 rfl rfl ?_
        refine v_isub (pc' := 82) dX12_words_81 rfl ?_
        refine v_callV (vs := [.int 0, .int (v16 - (1 : Int32))]) (pc' := 85) (h_X12_number g a0 0 (v16 - (1 : Int32))) mv_X12_number wl_X12_159 rfl (Nat.le_of_ble_eq_true rfl) (by omega) (by decide) (Nat.le_of_ble_eq_true rfl) rfl dX12_words_82 rfl fun v17 => ?_
        refine v_istore (lv' := [(5, .int v17), (4, .int v14), (0, rf g a0), (2, .int x2), (3, .int x3)]) (pc' := 87) dX12_words_85 (by decide) rfl rfl ?_
        refine v_aload_n (pc' := 88) 2 dX12_words_87 rfl rfl rfl ?_
        refine v_getI (pc' := 91) fl_X12_110 dX12_words_88 rfl fun v18 => ?_
        refine v_ifne (t := 110) (pc' := 94) dX12_words_91 (by decide) rfl ?_ ?_
        · refine V.sub [2, 3, 4, 0] rfl ?_
          exact h_X12_words_b110 g (f_X12_words_b48 n) ih a0 x2 x3 v17
        · refine v_iload_n (pc' := 95) 4 dX12_words_94 rfl rfl rfl ?_
          refine v_iload (pc' := 97) 0 dX12_words_95 rfl rfl ?_
          refine v_callS (vs := [.int x3, .int v17]) (pc' := 100) (h_X12_has g x3 v17) ms_X12_has wl_X12_246 (Nat.le_of_ble_eq_true rfl) (by omega) (by decide) (Nat.le_of_ble_eq_true rfl) rfl dX12_words_97 rfl fun v19 => ?_
          refine v_ifeq (t := 110) (pc' := 103) dX12_words_100 (by decide) rfl ?_ ?_
          · refine V.sub [2, 3, 4, 0] rfl ?_
            exact h_X12_words_b110 g (f_X12_words_b48 n) ih a0 x2 x3 v17
          · refine v_aload_n (pc' := 104) 2 dX12_words_103 rfl rfl rfl ?_
            refine v_iconst (v := 2) (pc' := 105) dX12_words_104 rfl rfl ?_
            refine v_iload (pc' := 107) 1 dX12_words_105 rfl rfl ?_
            refine v_callV (vs := [.int 2, .int v14]) (pc' := 110) (h_X12_wrong g a0 2 v14) mv_X12_wrong wl_X12_123 rfl (Nat.le_of_ble_eq_true rfl) (by omega) (by decide) (Nat.le_of_ble_eq_true rfl) rfl dX12_words_107 rfl fun _ => ?_
            refine V.sub [2, 3, 4, 0] rfl ?_
            exact h_X12_words_b110 g (f_X12_words_b48 n) ih a0 x2 x3 v17
set_option maxRecDepth 20000 in
theorem h_X12_words_b29 (g : GW) (a0 : Nat) (x1 : Int32) (xs0 : Int32) (as1 : Nat) : V g mX12_words 11 rtI 29 [(0, rf g a0), (1, .int x1)] [.int xs0, rf g as1] (f_X12_words_b29 a0 x1 xs0 as1) := by
  unfold f_X12_words_b29
  refine v_iconst (v := 1) (pc' := 30) dX12_words_29 rfl rfl ?_
  refine v_iconst (v := 1) (pc' := 31) dX12_words_30 rfl rfl ?_
  refine v_callV (vs := [.int xs0, .int 1, .int 1]) (pc' := 34) (h_X12_bad g as1 xs0 1 1) mv_X12_bad wl_X12_167 rfl (Nat.le_of_ble_eq_true rfl) (by omega) (by decide) (Nat.le_of_ble_eq_true rfl) rfl dX12_words_31 rfl fun v20 => ?_
  refine v_ifeq (t := 39) (pc' := 37) dX12_words_34 (by decide) rfl ?_ ?_
  · refine v_aload_n (pc' := 40) 0 dX12_words_39 rfl rfl rfl ?_
    refine v_iload_n (pc' := 41) 1 dX12_words_40 rfl rfl rfl ?_
    refine v_callV (vs := [.int x1]) (pc' := 44) (h_X12_starts g a0 x1) mv_X12_starts wl_X12_171 rfl (Nat.le_of_ble_eq_true rfl) (by omega) (by decide) (Nat.le_of_ble_eq_true rfl) rfl dX12_words_41 rfl fun _ => ?_
    refine v_iconst (v := 0) (pc' := 45) dX12_words_44 rfl rfl ?_
    refine v_istore_n (lv' := [(2, .int 0), (0, rf g a0), (1, .int x1)]) (pc' := 46) dX12_words_45 rfl (by decide) rfl rfl ?_
    refine v_iconst (v := 0) (pc' := 47) dX12_words_46 rfl rfl ?_
    refine v_istore_n (lv' := [(3, .int 0), (2, .int 0), (0, rf g a0), (1, .int x1)]) (pc' := 48) dX12_words_47 rfl (by decide) rfl rfl ?_
    refine V.sub [2, 1, 0] rfl ?_
    exact h_X12_words_b48 g NF a0 0 0
  · refine v_iconst (v := 0) (pc' := 38) dX12_words_37 rfl rfl ?_
    exact v_ireturn rfl dX12_words_38
set_option maxRecDepth 20000 in
theorem h_X12_words_b24 (g : GW) (a0 : Nat) (x1 : Int32) (as0 : Nat) : V g mX12_words 11 rtI 24 [(0, rf g a0), (1, .int x1)] [rf g as0] (f_X12_words_b24 a0 x1 as0) := by
  unfold f_X12_words_b24
  refine v_iconst (v := 1) (pc' := 25) dX12_words_24 rfl rfl ?_
  refine v_goto (t := 29) dX12_words_25 (by decide) ?_
  refine V.sub [0, 1] rfl ?_
  exact h_X12_words_b29 g a0 x1 1 as0
set_option maxRecDepth 20000 in
theorem h_X12_words (g : GW) (a0 : Nat) (x1 : Int32) : V g mX12_words 11 rtI 0 [(0, rf g a0), (1, .int x1)] [] (f_X12_words a0 x1) := by
  unfold f_X12_words
  refine v_aload_n (pc' := 1) 0 dX12_words_0 rfl rfl rfl ?_
  refine v_iconst (v := 0) (pc' := 2) dX12_words_1 rfl rfl ?_
  refine v_put (v := (.int 0)) (v' := .int 0) (pc' := 5) fw_X12_94 rfl rfl rfl (fun h => nomatch h) dX12_words_2 rfl ?_
  refine v_aload_n (pc' := 6) 0 dX12_words_5 rfl rfl rfl ?_
  refine v_iload_n (pc' := 7) 1 dX12_words_6 rfl rfl rfl ?_
  refine v_iconst (v := 0) (pc' := 8) dX12_words_7 rfl rfl ?_
  refine v_aload_n (pc' := 9) 0 dX12_words_8 rfl rfl rfl ?_
  refine v_getI (pc' := 12) fl_X12_97 dX12_words_9 rfl fun v21 => ?_
  refine v_callS (vs := [.int x1, .int 0, .int v21]) (pc' := 15) (h_X12_in g x1 0 v21) ms_X12_in wl_X12_128 (Nat.le_of_ble_eq_true rfl) (by omega) (by decide) (Nat.le_of_ble_eq_true rfl) rfl dX12_words_12 rfl fun v22 => ?_
  refine v_ifeq (t := 24) (pc' := 18) dX12_words_15 (by decide) rfl ?_ ?_
  · refine V.sub [0, 1] rfl ?_
    exact h_X12_words_b24 g a0 x1 a0
  · refine v_iload_n (pc' := 19) 1 dX12_words_18 rfl rfl rfl ?_
    refine v_bipush (v := 60) (pc' := 21) dX12_words_19 rfl rfl ?_
    refine v_icmple (t := 28) (pc' := 24) dX12_words_21 (by decide) rfl ?_ ?_
    · refine v_iconst (v := 0) (pc' := 29) dX12_words_28 rfl rfl ?_
      refine V.sub [0, 1] rfl ?_
      exact h_X12_words_b29 g a0 x1 0 a0
    · refine V.sub [0, 1] rfl ?_
      exact h_X12_words_b24 g a0 x1 a0
-- fault
def f_X12_fault (a0 : Nat) : Mo Int32 := bd (pf 12 0 a0 (.int 0)) fun _ => bd (gI 12 3 a0) fun v1 => pu v1
set_option maxRecDepth 20000 in
theorem h_X12_fault (g : GW) (a0 : Nat) : V g mX12_fault 8 rtI 0 [(0, rf g a0)] [] (f_X12_fault a0) := by
  unfold f_X12_fault
  refine v_aload_n (pc' := 1) 0 dX12_fault_0 rfl rfl rfl ?_
  refine v_iconst (v := 0) (pc' := 2) dX12_fault_1 rfl rfl ?_
  refine v_put (v := (.int 0)) (v' := .int 0) (pc' := 5) fw_X12_94 rfl rfl rfl (fun h => nomatch h) dX12_fault_2 rfl ?_
  refine v_aload_n (pc' := 6) 0 dX12_fault_5 rfl rfl rfl ?_
  refine v_getI (pc' := 9) fl_X12_9 dX12_fault_6 rfl fun v1 => ?_
  exact v_ireturn rfl dX12_fault_9
-- ones
def f_X12_ones_b4 : Nat → Int32 → Int32 → Int32 → Mo Int32
  | 0, _, _, _ => fl
  | n + 1, x0, x1, x2 => if (8 ≤ x2 : Prop) then (pu x1) else (f_X12_ones_b4 n) x0 (x1 + ((x0 >>> (x2 &&& 31)) &&& (1 : Int32))) (x2 + 1)
def f_X12_ones (x0 : Int32) : Mo Int32 := f_X12_ones_b4 NF x0 0 0
set_option maxRecDepth 20000 in
theorem h_X12_ones_b4 (g : GW) : ∀ n : Nat, ∀ x0 x1 x2, V g mX12_ones 8 rtI 4 [(0, .int x0), (1, .int x1), (2, .int x2)] [] (f_X12_ones_b4 n x0 x1 x2) := by
  intro n
  induction n with
  | zero => intro x0 x1 x2; exact V.vain
  | succ n ih =>
    intro x0 x1 x2
    unfold f_X12_ones_b4
    refine v_iload_n (pc' := 5) 2 dX12_ones_4 rfl rfl rfl ?_
    refine v_bipush (v := 8) (pc' := 7) dX12_ones_5 rfl rfl ?_
    refine v_icmpge (t := 24) (pc' := 10) dX12_ones_7 (by decide) rfl ?_ ?_
    · refine v_iload_n (pc' := 25) 1 dX12_ones_24 rfl rfl rfl ?_
      exact v_ireturn rfl dX12_ones_25
    · refine v_iload_n (pc' := 11) 1 dX12_ones_10 rfl rfl rfl ?_
      refine v_iload_n (pc' := 12) 0 dX12_ones_11 rfl rfl rfl ?_
      refine v_iload_n (pc' := 13) 2 dX12_ones_12 rfl rfl rfl ?_
      refine v_ishr (pc' := 14) dX12_ones_13 rfl ?_
      refine v_iconst (v := 1) (pc' := 15) dX12_ones_14 rfl rfl ?_
      refine v_iand (pc' := 16) dX12_ones_15 rfl ?_
      refine v_iadd (pc' := 17) dX12_ones_16 rfl ?_
      refine v_istore_n (lv' := [(1, .int (x1 + ((x0 >>> (x2 &&& 31)) &&& (1 : Int32)))), (0, .int x0), (2, .int x2)]) (pc' := 18) dX12_ones_17 rfl (by decide) rfl rfl ?_
      refine v_iinc (v := x2 + 1) (lv' := [(2, .int (x2 + 1)), (1, .int (x1 + ((x0 >>> (x2 &&& 31)) &&& (1 : Int32)))), (0, .int x0)]) (pc' := 21) 2 dX12_ones_18 rfl rfl (by decide) rfl rfl ?_
      refine v_goto (t := 4) dX12_ones_21 (by decide) ?_
      refine V.sub [2, 1, 0] rfl ?_
      exact ih x0 (x1 + ((x0 >>> (x2 &&& 31)) &&& (1 : Int32))) (x2 + 1)
set_option maxRecDepth 20000 in
theorem h_X12_ones (g : GW) (x0 : Int32) : V g mX12_ones 8 rtI 0 [(0, .int x0)] [] (f_X12_ones x0) := by
  unfold f_X12_ones
  refine v_iconst (v := 0) (pc' := 1) dX12_ones_0 rfl rfl ?_
  refine v_istore_n (lv' := [(1, .int 0), (0, .int x0)]) (pc' := 2) dX12_ones_1 rfl (by decide) rfl rfl ?_
  refine v_iconst (v := 0) (pc' := 3) dX12_ones_2 rfl rfl ?_
  refine v_istore_n (lv' := [(2, .int 0), (1, .int 0), (0, .int x0)]) (pc' := 4) dX12_ones_3 rfl (by decide) rfl rfl ?_
  refine V.sub [2, 1, 0] rfl ?_
  exact h_X12_ones_b4 g NF x0 0 0
-- faceOf
def f_X12_faceOf (a0 : Nat) (x1 : Int32) : Mo Int32 := bd (gR 12 16 a0) fun r1 => bd (aR 3 r1 x1) fun r2 => bd (al 0 r2 0) fun v3 => pu v3
set_option maxRecDepth 20000 in
theorem h_X12_faceOf (g : GW) (a0 : Nat) (x1 : Int32) : V g mX12_faceOf 8 rtI 0 [(0, rf g a0), (1, .int x1)] [] (f_X12_faceOf a0 x1) := by
  unfold f_X12_faceOf
  refine v_aload_n (pc' := 1) 0 dX12_faceOf_0 rfl rfl rfl ?_
  refine v_getR (pc' := 4) fl_X12_37 dX12_faceOf_1 rfl fun r1 => ?_
  refine v_iload_n (pc' := 5) 1 dX12_faceOf_4 rfl rfl rfl ?_
  refine v_aaldR (pc' := 6) dX12_faceOf_5 rfl fun r2 => ?_
  refine v_iconst (v := 0) (pc' := 7) dX12_faceOf_6 rfl rfl ?_
  refine v_iald (pc' := 8) dX12_faceOf_7 rfl fun v3 => ?_
  exact v_ireturn rfl dX12_faceOf_8
-- isAlike
def f_X12_isAlike (a0 : Nat) (x1 : Int32) (x2 : Int32) : Mo Int32 := bd (f_X12_ones (x1 ^^^ x2)) fun v1 => bd (gR 12 12 a0) fun r2 => bd (al 0 r2 1) fun v3 => if (v3 < v1 : Prop) then (pu 0) else pu 1
set_option maxRecDepth 20000 in
theorem h_X12_isAlike (g : GW) (a0 : Nat) (x1 : Int32) (x2 : Int32) : V g mX12_isAlike 9 rtI 0 [(0, rf g a0), (1, .int x1), (2, .int x2)] [] (f_X12_isAlike a0 x1 x2) := by
  unfold f_X12_isAlike
  refine v_iload_n (pc' := 1) 1 dX12_isAlike_0 rfl rfl rfl ?_
  refine v_iload_n (pc' := 2) 2 dX12_isAlike_1 rfl rfl rfl ?_
  refine v_ixor (pc' := 3) dX12_isAlike_2 rfl ?_
  refine v_callS (vs := [.int (x1 ^^^ x2)]) (pc' := 6) (h_X12_ones g (x1 ^^^ x2)) ms_X12_ones wl_X12_250 (Nat.le_of_ble_eq_true rfl) (by omega) (by decide) (Nat.le_of_ble_eq_true rfl) rfl dX12_isAlike_3 rfl fun v1 => ?_
  refine v_aload_n (pc' := 7) 0 dX12_isAlike_6 rfl rfl rfl ?_
  refine v_getR (pc' := 10) fl_X12_23 dX12_isAlike_7 rfl fun r2 => ?_
  refine v_iconst (v := 1) (pc' := 11) dX12_isAlike_10 rfl rfl ?_
  refine v_iald (pc' := 12) dX12_isAlike_11 rfl fun v3 => ?_
  refine v_icmpgt (t := 19) (pc' := 15) dX12_isAlike_12 (by decide) rfl ?_ ?_
  · refine v_iconst (v := 0) (pc' := 20) dX12_isAlike_19 rfl rfl ?_
    exact v_zret rfl rfl dX12_isAlike_20
  · refine v_iconst (v := 1) (pc' := 16) dX12_isAlike_15 rfl rfl ?_
    refine v_goto (t := 20) dX12_isAlike_16 (by decide) ?_
    exact v_zret rfl rfl dX12_isAlike_20
