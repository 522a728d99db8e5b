abbrev mJ0_coder_7d493 : MI := (RJ0, cJ0_coder_7d493, 1, (some .byte), "coder", [])
theorem mf_J0_coder_7d493 : MF yJ0_coder_7d493 mJ0_coder_7d493 := ⟨⟨by decide +kernel, rfl, rfl, by decide +kernel, by decide +kernel⟩, Or.inl ⟨rfl, (tg3 169 (by decide +kernel) (by decide +kernel))⟩, (tg1 18 (by decide +kernel) (by decide +kernel))⟩
theorem mo_J0_coder_7d493 : Cond.code yJ0_coder_7d493 mJ0_coder_7d493.2.1 mJ0_coder_7d493.2.2.1 mJ0_coder_7d493.2.2.2.1 ∈ TG ∧ Cond.instanceMethod yJ0_coder_7d493 ∈ TG ∧ Cond.selects RJ0 yJ0_coder_7d493 yJ0_coder_7d493 ∈ TG ∧ ∀ sig, parseMethodDescriptor yJ0_coder_7d493.desc = some sig → 0 = sig.parameters.length := ⟨(tg3 169 (by decide +kernel) (by decide +kernel)), (tg3 167 (by decide +kernel) (by decide +kernel)), (tg3 168 (by decide +kernel) (by decide +kernel)), sigN (by decide +kernel)⟩
abbrev mJ0_isLatin1_aae02 : MI := (RJ0, cJ0_isLatin1_aae02, 1, (some .boolean), "isLatin1", [])
theorem mf_J0_isLatin1_aae02 : MF yJ0_isLatin1_aae02 mJ0_isLatin1_aae02 := ⟨⟨by decide +kernel, rfl, rfl, by decide +kernel, by decide +kernel⟩, Or.inl ⟨rfl, (tg3 179 (by decide +kernel) (by decide +kernel))⟩, (tg1 18 (by decide +kernel) (by decide +kernel))⟩
theorem mo_J0_isLatin1_aae02 : Cond.code yJ0_isLatin1_aae02 mJ0_isLatin1_aae02.2.1 mJ0_isLatin1_aae02.2.2.1 mJ0_isLatin1_aae02.2.2.2.1 ∈ TG ∧ Cond.instanceMethod yJ0_isLatin1_aae02 ∈ TG ∧ Cond.selects RJ0 yJ0_isLatin1_aae02 yJ0_isLatin1_aae02 ∈ TG ∧ ∀ sig, parseMethodDescriptor yJ0_isLatin1_aae02.desc = some sig → 0 = sig.parameters.length := ⟨(tg3 179 (by decide +kernel) (by decide +kernel)), (tg3 177 (by decide +kernel) (by decide +kernel)), (tg3 178 (by decide +kernel) (by decide +kernel)), sigN (by decide +kernel)⟩
abbrev mJ0_length_8abf5 : MI := (RJ0, cJ0_length_8abf5, 1, (some .int), "length", [])
theorem mf_J0_length_8abf5 : MF yJ0_length_8abf5 mJ0_length_8abf5 := ⟨⟨by decide +kernel, rfl, rfl, by decide +kernel, by decide +kernel⟩, Or.inl ⟨rfl, (tg3 165 (by decide +kernel) (by decide +kernel))⟩, (tg1 18 (by decide +kernel) (by decide +kernel))⟩
theorem mo_J0_length_8abf5 : Cond.code yJ0_length_8abf5 mJ0_length_8abf5.2.1 mJ0_length_8abf5.2.2.1 mJ0_length_8abf5.2.2.2.1 ∈ TG ∧ Cond.instanceMethod yJ0_length_8abf5 ∈ TG ∧ Cond.selects RJ0 yJ0_length_8abf5 yJ0_length_8abf5 ∈ TG ∧ ∀ sig, parseMethodDescriptor yJ0_length_8abf5.desc = some sig → 0 = sig.parameters.length := ⟨(tg3 165 (by decide +kernel) (by decide +kernel)), (tg3 163 (by decide +kernel) (by decide +kernel)), (tg3 164 (by decide +kernel) (by decide +kernel)), sigN (by decide +kernel)⟩
abbrev mJ0_charAt_5068e : MI := (RJ0, cJ0_charAt_5068e, 2, (some .char), "charAt", [])
theorem mf_J0_charAt_5068e : MF yJ0_charAt_5068e mJ0_charAt_5068e := ⟨⟨by decide +kernel, rfl, rfl, by decide +kernel, by decide +kernel⟩, Or.inl ⟨rfl, (tg3 175 (by decide +kernel) (by decide +kernel))⟩, (tg1 18 (by decide +kernel) (by decide +kernel))⟩
theorem mo_J0_charAt_5068e : Cond.code yJ0_charAt_5068e mJ0_charAt_5068e.2.1 mJ0_charAt_5068e.2.2.1 mJ0_charAt_5068e.2.2.2.1 ∈ TG ∧ Cond.instanceMethod yJ0_charAt_5068e ∈ TG ∧ Cond.selects RJ0 yJ0_charAt_5068e yJ0_charAt_5068e ∈ TG ∧ ∀ sig, parseMethodDescriptor yJ0_charAt_5068e.desc = some sig → 1 = sig.parameters.length := ⟨(tg3 175 (by decide +kernel) (by decide +kernel)), (tg3 173 (by decide +kernel) (by decide +kernel)), (tg3 174 (by decide +kernel) (by decide +kernel)), sigN (by decide +kernel)⟩
abbrev mJ0_checkIndex_df160 : MI := (RJ0, cJ0_checkIndex_df160, 2, none, "checkIndex", [])
theorem mf_J0_checkIndex_df160 : MF yJ0_checkIndex_df160 mJ0_checkIndex_df160 := ⟨⟨by decide +kernel, rfl, rfl, by decide +kernel, by decide +kernel⟩, Or.inl ⟨rfl, (tg3 185 (by decide +kernel) (by decide +kernel))⟩, (tg1 18 (by decide +kernel) (by decide +kernel))⟩
theorem ms_J0_checkIndex_df160 : MS yJ0_checkIndex_df160 mJ0_checkIndex_df160 2 := ⟨mf_J0_checkIndex_df160, rfl, (tg3 185 (by decide +kernel) (by decide +kernel)), (tg3 184 (by decide +kernel) (by decide +kernel)), (tg1 18 (by decide +kernel) (by decide +kernel)), sigN (by decide +kernel)⟩
abbrev mJ1_charAt_3b067 : MI := (RJ1, cJ1_charAt_3b067, 2, (some .char), "charAt", [])
theorem mf_J1_charAt_3b067 : MF yJ1_charAt_3b067 mJ1_charAt_3b067 := ⟨⟨by decide +kernel, rfl, rfl, by decide +kernel, by decide +kernel⟩, Or.inl ⟨rfl, (tg3 182 (by decide +kernel) (by decide +kernel))⟩, (tg1 19 (by decide +kernel) (by decide +kernel))⟩
theorem ms_J1_charAt_3b067 : MS yJ1_charAt_3b067 mJ1_charAt_3b067 2 := ⟨mf_J1_charAt_3b067, rfl, (tg3 182 (by decide +kernel) (by decide +kernel)), (tg3 181 (by decide +kernel) (by decide +kernel)), (tg1 19 (by decide +kernel) (by decide +kernel)), sigN (by decide +kernel)⟩
abbrev mJ3_checkIndex_8e157 : MI := (RJ3, cJ3_checkIndex_8e157, 3, (some .int), "checkIndex", [])
theorem mf_J3_checkIndex_8e157 : MF yJ3_checkIndex_8e157 mJ3_checkIndex_8e157 := ⟨⟨by decide +kernel, rfl, rfl, by decide +kernel, by decide +kernel⟩, Or.inl ⟨rfl, (tg3 190 (by decide +kernel) (by decide +kernel))⟩, (tg1 20 (by decide +kernel) (by decide +kernel))⟩
theorem ms_J3_checkIndex_8e157 : MS yJ3_checkIndex_8e157 mJ3_checkIndex_8e157 3 := ⟨mf_J3_checkIndex_8e157, rfl, (tg3 190 (by decide +kernel) (by decide +kernel)), (tg3 189 (by decide +kernel) (by decide +kernel)), (tg1 20 (by decide +kernel) (by decide +kernel)), sigN (by decide +kernel)⟩
/-- a method of a text -/
theorem v_callT {g : GW} {M M' : MI} {d d' : Nat} {α β : Type} {rt : α → Option Value} {rt' : β → Option Value} {pc pc' : Nat} {lv : List (Nat × Value)} {st : List Value} {y : MethodName} {idx i : Nat} {vs : List Value} {x : β} {P : Mo α} (hi : i < 5) (hV : V g M' d' rt' 0 (lv_args 0 (.ref (gK g i) :: vs)) [] (pu x)) (hM : MF y M') (hM2 : Cond.code y M'.2.1 M'.2.2.1 M'.2.2.2.1 ∈ TG ∧ Cond.instanceMethod y ∈ TG ∧ Cond.selects RJ0 y y ∈ TG ∧ ∀ sig, parseMethodDescriptor y.desc = some sig → vs.length = sig.parameters.length) (hlink : Cond.methodLink M.1 idx y ∈ TG) (hsl : (lg_sl (.ref (gK g i) :: vs)).length ≤ M'.2.2.1) (hdd : d' + 1 ≤ d) (hL : M'.2.2.1 ≤ 37) (hst : (st.map fun v => v.category).sum ≤ 16) (hd : decode M.2.1 pc = .ok (.invokevirtual idx, 3)) (hp : pc + 3 = pc')
    (k : V g M d rt pc' lv ((rt' x).toList ++ st) P) : V g M d rt pc lv (vs.reverse ++ .ref (gK g i) :: st) P := by
  intro n0 k0 p l e R s m args below meth co C σ H locs cells slots ls r σ' A hP
  intro T hT X
  have hts := Wds.at (args := args) C.2.2.2.1
  obtain ⟨cell, e1, e2, e3⟩ := vk_recv (C.2.2.2.2.2.2.2.2.2.2.2.1.kept (oldK C)) hi (oldS C A)
  rcases vx_callV X C.1.1 (own := M.1) (C := "java/lang/String") (index := idx) (y := y) (bytes := M'.2.1) (maxL := M'.2.2.1) (ret := M'.2.2.2.1) C.2.1 (hts _ hlink) (hts _ hM2.2.1) (hts _ hM2.2.2.1) (hts _ hM2.1) hM.1.2.2.2 (callee C hV hM hsl hdd hL (σ := σ) (σ1 := σ) (r := .inl x) rfl)
      (by rw [hT]; exact e1) e2 e3 (g := F0 m pc ls (vs.reverse ++ .ref (gK g i) :: st)) rfl (A.2.2.2.2.1.trans C.1.2.2.1.symm) (argsL := vs) (rest := st) hM2.2.2.2 rfl (by show 2 * 0 + _ ≤ 16; omega) (by rw [C.1.2.1]; exact hd)
      (fun vm₁ _ => ⟨rfl, by show HR g σ T.heap; rw [hT]; exact A.1, A.2.1, A.2.2.1, A.2.2.2.1⟩) with ⟨v, vm₁, B, -, XB, ⟨⟨x', e1, e2⟩, b1, b2, b3, b4⟩, hgo⟩ | ⟨z, vm₁, B, -, XB, ⟨⟨x', e1, -⟩, -⟩, -⟩
  · cases e1
    subst e2
    subst hp
    obtain ⟨t, a1, a2⟩ := k n0 k0 p l e R s m args below meth co C σ B.U.heap B.locs B.cells B.slots ls r σ' ⟨b1, b2, b3, b4, A.2.2.2.2⟩ hP B.U rfl XB
    exact ⟨t, hgo t a1, a2⟩
  · cases e1
theorem h_J0_coder_7d493 (g : GW) (i : Nat) (hi : i < 5) : V g mJ0_coder_7d493 1 rtI 0 [(0, .ref (gK g i))] [] (pu 0) := by
  refine v_gcs (pc' := 3) (tg3 170 (by decide +kernel) (by decide +kernel)) dJ0_coder_7d493_0 rfl ?_
  have e : (pu 0 : Mo Int32) = if (1 : Int32) = 0 then fl else pu 0 := by rw [if_neg (by decide)]
  rw [e]
  refine v_ifeq (t := 13) (pc' := 6) dJ0_coder_7d493_3 (by decide) rfl V.vain ?_
  refine v_aload_nX (pc' := 7) 0 dJ0_coder_7d493_6 rfl rfl rfl ?_
  refine v_skcod (pc' := 10) hi (tg9 11 (by decide +kernel) (by decide +kernel)) dJ0_coder_7d493_7 rfl ?_
  refine v_goto (t := 14) dJ0_coder_7d493_10 (by decide) ?_
  exact v_zret rfl rfl dJ0_coder_7d493_14
theorem h_J0_isLatin1_aae02 (g : GW) (i : Nat) (hi : i < 5) : V g mJ0_isLatin1_aae02 1 rtI 0 [(0, .ref (gK g i))] [] (pu 1) := by
  refine v_gcs (pc' := 3) (tg3 170 (by decide +kernel) (by decide +kernel)) dJ0_isLatin1_aae02_0 rfl ?_
  have e : (pu 1 : Mo Int32) = if (1 : Int32) = 0 then fl else (if (0 : Int32) = 0 then pu 1 else fl) := by rw [if_neg (by decide), if_pos rfl]
  rw [e]
  refine v_ifeq (t := 17) (pc' := 6) dJ0_isLatin1_aae02_3 (by decide) rfl V.vain ?_
  refine v_aload_nX (pc' := 7) 0 dJ0_isLatin1_aae02_6 rfl rfl rfl ?_
  refine v_skcod (pc' := 10) hi (tg9 11 (by decide +kernel) (by decide +kernel)) dJ0_isLatin1_aae02_7 rfl ?_
  refine v_ifne (t := 17) (pc' := 13) dJ0_isLatin1_aae02_10 (by decide) rfl V.vain ?_
  refine v_iconst (v := 1) (pc' := 14) dJ0_isLatin1_aae02_13 rfl rfl ?_
  refine v_goto (t := 18) dJ0_isLatin1_aae02_14 (by decide) ?_
  exact v_zret rfl rfl dJ0_isLatin1_aae02_18
theorem h_J0_length_8abf5 (g : GW) (i : Nat) (hi : i < 5) : V g mJ0_length_8abf5 2 rtI 0 [(0, .ref (gK g i))] [] (pu (Int32.ofNat (leL.getD i 0))) := by
  refine v_aload_nX (pc' := 1) 0 dJ0_length_8abf5_0 rfl rfl rfl ?_
  refine v_skval (pc' := 4) hi (tg9 10 (by decide +kernel) (by decide +kernel)) dJ0_length_8abf5_1 rfl ?_
  refine v_sklen (pc' := 5) hi dJ0_length_8abf5_4 rfl ?_
  refine v_aload_nX (pc' := 6) 0 dJ0_length_8abf5_5 rfl rfl rfl ?_
  refine v_callT (vs := []) (pc' := 9) hi (h_J0_coder_7d493 g i hi) mf_J0_coder_7d493 mo_J0_coder_7d493 (tg3 166 (by decide +kernel) (by decide +kernel)) (Nat.le_of_ble_eq_true rfl) (by decide) (by decide) (Nat.le_of_ble_eq_true rfl) dJ0_length_8abf5_6 rfl ?_
  refine v_ishr (pc' := 10) dJ0_length_8abf5_9 rfl ?_
  rw [sb_shr0]
  exact v_ireturn rfl dJ0_length_8abf5_10
theorem h_J3_checkIndex_8e157 (g : GW) (x y : Int32) (o : Option Nat) (h0 : ¬ x < 0) (h1 : x < y) : V g mJ3_checkIndex_8e157 1 rtI 0 [(0, .int x), (1, .int y)] [] (pu x) := by
  have e : (pu x : Mo Int32) = if x < 0 then fl else (if x < y then pu x else fl) := by rw [if_neg h0, if_pos h1]
  rw [e]
  refine v_iload_n (pc' := 1) 0 dJ3_checkIndex_8e157_0 rfl rfl rfl ?_
  refine v_iflt (t := 9) (pc' := 4) dJ3_checkIndex_8e157_1 (by decide) rfl V.vain ?_
  refine v_iload_n (pc' := 5) 0 dJ3_checkIndex_8e157_4 rfl rfl rfl ?_
  refine v_iload_n (pc' := 6) 1 dJ3_checkIndex_8e157_5 rfl rfl rfl ?_
  refine v_icmplt (t := 16) (pc' := 9) dJ3_checkIndex_8e157_6 (by decide) rfl ?_ V.vain
  refine v_iload_n (pc' := 17) 0 dJ3_checkIndex_8e157_16 rfl rfl rfl ?_
  exact v_ireturn rfl dJ3_checkIndex_8e157_17
theorem h_J0_checkIndex_df160 (g : GW) (x y : Int32) (h0 : ¬ x < 0) (h1 : x < y) : V g mJ0_checkIndex_df160 2 rtU 0 [(0, .int x), (1, .int y)] [] (pu ()) := by
  refine v_iload_n (pc' := 1) 0 dJ0_checkIndex_df160_0 rfl rfl rfl ?_
  refine v_iload_n (pc' := 2) 1 dJ0_checkIndex_df160_1 rfl rfl rfl ?_
  refine v_gsf (pc' := 5) (tg3 186 (by decide +kernel) (by decide +kernel)) dJ0_checkIndex_df160_2 rfl fun o => ?_
  have e : (pu () : Mo Unit) = bd (pu x) (fun _ => pu ()) := rfl
  rw [e]
  refine v_callS (rt' := rtI) (d' := 1) (vs := [.int x, .int y, va_rf o]) (pc' := 8) ?_ ms_J3_checkIndex_8e157 (tg3 188 (by decide +kernel) (by decide +kernel)) (by cases o <;> exact Nat.le_of_ble_eq_true rfl) (by decide) (by decide) (Nat.le_of_ble_eq_true rfl) rfl dJ0_checkIndex_df160_5 rfl fun v => ?_
  · have h := h_J3_checkIndex_8e157 g x y o h0 h1
    cases o with
    | none => exact V.sub (lv := [(0, .int x), (1, .int y), (2, .null)]) [0, 1] rfl h
    | some t => exact V.sub (lv := [(0, .int x), (1, .int y), (2, .ref t)]) [0, 1] rfl h
  · refine v_pop (pc' := 9) dJ0_checkIndex_df160_8 rfl rfl ?_
    exact v_return rfl dJ0_checkIndex_df160_9
theorem inN_lt {j : Int32} {n : Nat} (h : inN j n = true) (hn : n < 2 ^ 31) : ¬ j < 0 ∧ j < Int32.ofNat n := by
  have h1 := inN_in h
  obtain ⟨k, hk, rfl⟩ := vp_in_of h1 hn
  exact ⟨nI_pos (by omega), nI_lt hk hn⟩
def sChv (i : Nat) (j : Int32) : Int32 := (byL.getD i []).getD j.toNatClampNeg 0 &&& 255
theorem leL_lt (i : Nat) : leL.getD i 0 < 2 ^ 31 := by
  match i with
  | 0 => decide
  | 1 => decide
  | 2 => decide
  | 3 => decide
  | 4 => decide
  | k + 5 => exact (by decide : 0 < 2 ^ 31)
theorem h_J1_charAt_3b067 (g : GW) (i : Nat) (j : Int32) (hi : i < 5) (hj : inN j (leL.getD i 0) = true) : V g mJ1_charAt_3b067 3 rtI 0 [(0, .ref (gV g i)), (1, .int j)] [] (pu (sChv i j)) := by
  obtain ⟨h0, h1⟩ := inN_lt hj (leL_lt i)
  refine v_iload_n (pc' := 1) 1 dJ1_charAt_3b067_0 rfl rfl rfl ?_
  refine v_aload_nX (pc' := 2) 0 dJ1_charAt_3b067_1 rfl rfl rfl ?_
  refine v_sklen (pc' := 3) hi dJ1_charAt_3b067_2 rfl ?_
  have e : (pu (sChv i j) : Mo Int32) = bd (pu ()) (fun _ => pu (sChv i j)) := rfl
  rw [e]
  refine v_callS (rt' := rtU) (d' := 2) (vs := [.int j, .int (Int32.ofNat (leL.getD i 0))]) (pc' := 6) (h_J0_checkIndex_df160 g j _ h0 h1) ms_J0_checkIndex_df160 (tg3 183 (by decide +kernel) (by decide +kernel)) (Nat.le_of_ble_eq_true rfl) (by decide) (by decide) (Nat.le_of_ble_eq_true rfl) rfl dJ1_charAt_3b067_3 rfl fun _ => ?_
  refine v_aload_nX (pc' := 7) 0 dJ1_charAt_3b067_6 rfl rfl rfl ?_
  refine v_iload_n (pc' := 8) 1 dJ1_charAt_3b067_7 rfl rfl rfl ?_
  refine v_skbyt (pc' := 9) hi hj dJ1_charAt_3b067_8 rfl ?_
  refine v_sipush (v := 255) (pc' := 12) dJ1_charAt_3b067_9 rfl rfl ?_
  refine v_iand (pc' := 13) dJ1_charAt_3b067_12 rfl ?_
  refine v_i2c (pc' := 14) dJ1_charAt_3b067_13 rfl ?_
  rw [sc_c2]
  exact v_zret rfl (sc_nar _) dJ1_charAt_3b067_14
theorem h_J0_charAt_5068e (g : GW) (i : Nat) (j : Int32) (hi : i < 5) (hj : inN j (leL.getD i 0) = true) : V g mJ0_charAt_5068e 4 rtI 0 [(0, .ref (gK g i)), (1, .int j)] [] (pu (sChv i j)) := by
  refine v_aload_nX (pc' := 1) 0 dJ0_charAt_5068e_0 rfl rfl rfl ?_
  refine v_callT (vs := []) (pc' := 4) hi (h_J0_isLatin1_aae02 g i hi) mf_J0_isLatin1_aae02 mo_J0_isLatin1_aae02 (tg3 176 (by decide +kernel) (by decide +kernel)) (Nat.le_of_ble_eq_true rfl) (by decide) (by decide) (Nat.le_of_ble_eq_true rfl) dJ0_charAt_5068e_1 rfl ?_
  have e : (pu (sChv i j) : Mo Int32) = if (1 : Int32) = 0 then fl else bd (pu (sChv i j)) (fun v => (if narrow .char (.int v) = .int v then pu v else fl)) := by
    rw [if_neg (by decide)]
    show _ = (if narrow .char (.int (sChv i j)) = .int (sChv i j) then pu (sChv i j) else fl)
    exact (if_pos (sc_nar _)).symm
  rw [e]
  refine v_ifeq (t := 16) (pc' := 7) dJ0_charAt_5068e_4 (by decide) rfl V.vain ?_
  refine v_aload_nX (pc' := 8) 0 dJ0_charAt_5068e_7 rfl rfl rfl ?_
  refine v_skval (pc' := 11) hi (tg9 10 (by decide +kernel) (by decide +kernel)) dJ0_charAt_5068e_8 rfl ?_
  refine v_iload_n (pc' := 12) 1 dJ0_charAt_5068e_11 rfl rfl rfl ?_
  refine v_callS (rt' := rtI) (d' := 3) (vs := [.ref (gV g i), .int j]) (pc' := 15) (h_J1_charAt_3b067 g i j hi hj) ms_J1_charAt_3b067 (tg3 180 (by decide +kernel) (by decide +kernel)) (Nat.le_of_ble_eq_true rfl) (by decide) (by decide) (Nat.le_of_ble_eq_true rfl) rfl dJ0_charAt_5068e_12 rfl fun v => ?_
  exact V.ite (fun h => v_zret rfl h dJ0_charAt_5068e_15) (fun _ => V.vain)
def sLen (i : Nat) : Mo Int32 := if i < 5 then pu (Int32.ofNat (leL.getD i 0)) else fl
def sChr (i : Nat) (j : Int32) : Mo Int32 := if i < 5 ∧ inN j (leL.getD i 0) = true then pu (sChv i j) else fl
theorem v_strlen {g : GW} {M : MI} {d : Nat} {α : Type} {rt : α → Option Value} {pc pc' idx i : Nat} {lv : List (Nat × Value)} {st : List Value} {K : Int32 → Mo α} (hdd : 3 ≤ d) (hlink : Cond.methodLink M.1 idx yJ0_length_8abf5 ∈ TG) (hst : (st.map fun v => v.category).sum ≤ 16) (_ : True) (hd : decode M.2.1 pc = .ok (.invokevirtual idx, 3)) (hp : pc + 3 = pc') (k : ∀ x, V g M d rt pc' lv (.int x :: st) (K x)) : V g M d rt pc lv (.ref (gK g i) :: st) (bd (sLen i) K) := by
  unfold sLen
  by_cases hi : i < 5
  · rw [if_pos hi]
    exact v_callT (vs := []) hi (h_J0_length_8abf5 g i hi) mf_J0_length_8abf5 mo_J0_length_8abf5 hlink (Nat.le_of_ble_eq_true rfl) hdd (by decide) hst hd hp (k _)
  · rw [if_neg hi]
    exact V.vain
theorem v_strchr {g : GW} {M : MI} {d : Nat} {α : Type} {rt : α → Option Value} {pc pc' idx i : Nat} {j : Int32} {lv : List (Nat × Value)} {st : List Value} {K : Int32 → Mo α} (hdd : 5 ≤ d) (hlink : Cond.methodLink M.1 idx yJ0_charAt_5068e ∈ TG) (hst : (st.map fun v => v.category).sum ≤ 16) (_ : True) (hd : decode M.2.1 pc = .ok (.invokevirtual idx, 3)) (hp : pc + 3 = pc') (k : ∀ x, V g M d rt pc' lv (.int x :: st) (K x)) : V g M d rt pc lv (.int j :: .ref (gK g i) :: st) (bd (sChr i j) K) := by
  unfold sChr
  by_cases hi : i < 5 ∧ inN j (leL.getD i 0) = true
  · rw [if_pos hi]
    exact v_callT (vs := [.int j]) hi.1 (h_J0_charAt_5068e g i j hi.1 hi.2) mf_J0_charAt_5068e mo_J0_charAt_5068e hlink (Nat.le_of_ble_eq_true rfl) hdd (by decide) hst hd hp (k _)
  · rw [if_neg hi]
    exact V.vain
