section VJ
variable {g : GW} {M : MI} {d : Nat} {α : Type} {rt : α → Option Value} {pc pc' : Nat} {lv : List (Nat × Value)} {st : List Value} {P : Mo α}
theorem oldS {n0 k0 : Nat} {p : Program} {l : Launch} {e : Env} {R : Room} {s : State} {m : MethodId} {args : Array Value} {below : List Frame} {meth : Method} {c : Code} (C : Cx g M d n0 k0 p l e R s m args below meth c) {σ : PS} {H : Heap} {locs : List Loc} {cells slots : Nat} {ls : Array Slot} (A : At0 g M n0 k0 lv σ H locs cells slots ls) : va_S (gF g) s.heap H locs := by
  have h1 := C.2.2.2.2.2.1
  have h2 := A.2.2.1
  refine ⟨by rw [A.1.1, h1.1]; omega, fun q hq hn => ?_, A.2.1⟩
  have hq' : q < gB g := Nat.lt_of_not_le hn
  rw [A.1.2.2.2.1 q hq', h1.2.1 q hq']
theorem oldK {n0 k0 : Nat} {p : Program} {l : Launch} {e : Env} {R : Room} {s : State} {m : MethodId} {args : Array Value} {below : List Frame} {meth : Method} {c : Code} (C : Cx g M d n0 k0 p l e R s m args below meth c) : ∀ a : Nat, a < (gH g).size → ¬ gF g a → s.heap[a]? = (gH g)[a]? := by
  intro a ha _
  have h1 := C.2.2.2.2.2.1
  rw [h1.2.2] at ha
  exact h1.2.1 a ha
theorem v_skval {idx i : Nat} (hi : i < 5) (hlink : Cond.fieldLink M.1 idx "java/lang/String" "value" "[B" ∈ TG) (hd : decode M.2.1 pc = .ok (.getfield idx, 3)) (hp : pc + 3 = pc') (k : V g M d rt pc' lv (.ref (gV g i) :: st) P) : V g M d rt pc lv (.ref (gK g i) :: st) P := by
  subst hp
  intro n0 k0 p l e R s m args below meth c C σ H locs cells slots ls r σ' A hP
  have hS := (C.2.2.2.2.2.2.2.2.2.2.2.1.kept (oldK C)).1 i hi
  exact vk_getf C.1.1 C.1.2.1 hS.2.2.1 (oldS C A) C.2.1 (Wds.at C.2.2.2.1 _ hlink) (fun _ h => h) hd (k n0 k0 p l e R s m args below meth c C σ H locs cells slots ls r σ' A hP)
theorem v_skcod {idx i : Nat} (hi : i < 5) (hlink : Cond.fieldLink M.1 idx "java/lang/String" "coder" "B" ∈ TG) (hd : decode M.2.1 pc = .ok (.getfield idx, 3)) (hp : pc + 3 = pc') (k : V g M d rt pc' lv (.int 0 :: st) P) : V g M d rt pc lv (.ref (gK g i) :: st) P := by
  subst hp
  intro n0 k0 p l e R s m args below meth c C σ H locs cells slots ls r σ' A hP
  have hS := (C.2.2.2.2.2.2.2.2.2.2.2.1.kept (oldK C)).1 i hi
  exact vk_getf C.1.1 C.1.2.1 hS.2.1 (oldS C A) C.2.1 (Wds.at C.2.2.2.1 _ hlink) (fun _ h => h) hd (k n0 k0 p l e R s m args below meth c C σ H locs cells slots ls r σ' A hP)
theorem v_sklen {i : Nat} (hi : i < 5) (hd : decode M.2.1 pc = .ok (.arraylength, 1)) (hp : pc + 1 = pc') (k : V g M d rt pc' lv (.int (Int32.ofNat (leL.getD i 0)) :: st) P) : V g M d rt pc lv (.ref (gV g i) :: st) P := by
  subst hp
  intro n0 k0 p l e R s m args below meth c C σ H locs cells slots ls r σ' A hP
  have hS := (C.2.2.2.2.2.2.2.2.2.2.2.1.kept (oldK C)).1 i hi
  exact va_tlen C.1.1 C.1.2.1 hS.2.2.2 (oldS C A) rfl hd (k n0 k0 p l e R s m args below meth c C σ H locs cells slots ls r σ' A hP)
theorem v_skbyt {i : Nat} {j : Int32} (hi : i < 5) (hin : inN j (leL.getD i 0) = true) (hd : decode M.2.1 pc = .ok (.baload, 1)) (hp : pc + 1 = pc') (k : V g M d rt pc' lv (.int ((byL.getD i []).getD j.toNatClampNeg 0) :: st) P) : V g M d rt pc lv (.int j :: .ref (gV g i) :: st) P := by
  subst hp
  intro n0 k0 p l e R s m args below meth c C σ H locs cells slots ls r σ' A hP
  have hS := (C.2.2.2.2.2.2.2.2.2.2.2.1.kept (oldK C)).1 i hi
  exact va_tb C.1.1 C.1.2.1 hS.2.2.2 (oldS C A) (inN_in hin) rfl hd (k n0 k0 p l e R s m args below meth c C σ H locs cells slots ls r σ' A hP)
theorem v_gcs {idx : Nat} (hlink : Cond.fieldLink M.1 idx "java/lang/String" "COMPACT_STRINGS" "Z" ∈ TG) (hd : decode M.2.1 pc = .ok (.getstatic idx, 3)) (hp : pc + 3 = pc') (k : V g M d rt pc' lv (.int 1 :: st) P) : V g M d rt pc lv st P := by
  subst hp
  intro n0 k0 p l e R s m args below meth c C σ H locs cells slots ls r σ' A hP
  exact va_gets C.1.1 C.1.2.1 (C.2.2.2.2.2.2.2.2.2.2.2.2.1.1.kept (oldK C)) (oldS C A) C.2.1 (Wds.at C.2.2.2.1 _ hlink) (fun _ h => h) hd (k n0 k0 p l e R s m args below meth c C σ H locs cells slots ls r σ' A hP)
theorem v_gsf {idx : Nat} (hlink : Cond.fieldLink M.1 idx "jdk/internal/util/Preconditions" "SIOOBE_FORMATTER" "Ljava/util/function/BiFunction;" ∈ TG) (hd : decode M.2.1 pc = .ok (.getstatic idx, 3)) (hp : pc + 3 = pc') (k : ∀ o : Option Nat, V g M d rt pc' lv (va_rf o :: st) P) : V g M d rt pc lv st P := by
  subst hp
  intro n0 k0 p l e R s m args below meth c C σ H locs cells slots ls r σ' A hP
  rcases (C.2.2.2.2.2.2.2.2.2.2.2.2.1.2).kept (oldK C) with h | ⟨t, h⟩
  · exact va_gets C.1.1 C.1.2.1 h (oldS C A) C.2.1 (Wds.at C.2.2.2.1 _ hlink) (fun _ h => h) hd (k none n0 k0 p l e R s m args below meth c C σ H locs cells slots ls r σ' A hP)
  · exact va_gets C.1.1 C.1.2.1 h (oldS C A) C.2.1 (Wds.at C.2.2.2.1 _ hlink) (fun _ h => h) hd (k (some t) n0 k0 p l e R s m args below meth c C σ H locs cells slots ls r σ' A hP)
end VJ
abbrev mJ6_bitCount_0f7a4 : MI := (RJ6, cJ6_bitCount_0f7a4, 1, (some .int), "bitCount", [])
theorem mf_J6_bitCount_0f7a4 : MF yJ6_bitCount_0f7a4 mJ6_bitCount_0f7a4 := ⟨⟨by decide +kernel, rfl, rfl, by decide +kernel, by decide +kernel⟩, Or.inl ⟨rfl, (tg2 210 (by decide +kernel) (by decide +kernel))⟩, (tg1 24 (by decide +kernel) (by decide +kernel))⟩
theorem ms_J6_bitCount_0f7a4 : MS yJ6_bitCount_0f7a4 mJ6_bitCount_0f7a4 1 := ⟨mf_J6_bitCount_0f7a4, rfl, (tg2 210 (by decide +kernel) (by decide +kernel)), (tg2 209 (by decide +kernel) (by decide +kernel)), (tg1 24 (by decide +kernel) (by decide +kernel)), sigN (by decide +kernel)⟩
def bc32_7 (x : Int32) : Int32 := x - (((Int32.toUInt32 x >>> (Int32.toUInt32 1 &&& Int32.toUInt32 31)).toInt32) &&& 1431655765)
def bc32_17 (x : Int32) : Int32 := (x &&& 858993459) + (((Int32.toUInt32 x >>> (Int32.toUInt32 2 &&& Int32.toUInt32 31)).toInt32) &&& 858993459)
def bc32_25 (x : Int32) : Int32 := (x + ((Int32.toUInt32 x >>> (Int32.toUInt32 4 &&& Int32.toUInt32 31)).toInt32)) &&& 252645135
def bc32_31 (x : Int32) : Int32 := x + ((Int32.toUInt32 x >>> (Int32.toUInt32 8 &&& Int32.toUInt32 31)).toInt32)
def bc32_37 (x : Int32) : Int32 := x + ((Int32.toUInt32 x >>> (Int32.toUInt32 16 &&& Int32.toUInt32 31)).toInt32)
def bc32_r (x : Int32) : Int32 := x &&& 63
def bc32 (x : Int32) : Int32 := bc32_r (bc32_37 (bc32_31 (bc32_25 (bc32_17 (bc32_7 x)))))
theorem h_J6_bitCount_0f7a4 (g : GW) (x : Int32) : V g mJ6_bitCount_0f7a4 1 rtI 0 [(0, .int x)] [] (pu (bc32 x)) := by
  show V g mJ6_bitCount_0f7a4 1 rtI 0 _ _ (pu (bc32_r (bc32_37 (bc32_31 (bc32_25 (bc32_17 (bc32_7 x)))))))
  refine v_iload_n (pc' := 1) 0 dJ6_bitCount_0f7a4_0 rfl rfl rfl ?_
  refine v_iload_n (pc' := 2) 0 dJ6_bitCount_0f7a4_1 rfl rfl rfl ?_
  refine v_iconst (v := 1) (pc' := 3) dJ6_bitCount_0f7a4_2 rfl rfl ?_
  refine v_iushr (pc' := 4) dJ6_bitCount_0f7a4_3 rfl ?_
  refine v_ldcw (v := 1431655765) (pc' := 7) (tg2 211 (by decide +kernel) (by decide +kernel)) dJ6_bitCount_0f7a4_4 rfl ?_
  refine v_iand (pc' := 8) dJ6_bitCount_0f7a4_7 rfl ?_
  refine v_isub (pc' := 9) dJ6_bitCount_0f7a4_8 rfl ?_
  refine v_istore_n (lv' := [(0, .int ((bc32_7 x)))]) (pc' := 10) dJ6_bitCount_0f7a4_9 rfl (by decide) rfl rfl ?_
  refine v_iload_n (pc' := 11) 0 dJ6_bitCount_0f7a4_10 rfl rfl rfl ?_
  refine v_ldcw (v := 858993459) (pc' := 14) (tg2 212 (by decide +kernel) (by decide +kernel)) dJ6_bitCount_0f7a4_11 rfl ?_
  refine v_iand (pc' := 15) dJ6_bitCount_0f7a4_14 rfl ?_
  refine v_iload_n (pc' := 16) 0 dJ6_bitCount_0f7a4_15 rfl rfl rfl ?_
  refine v_iconst (v := 2) (pc' := 17) dJ6_bitCount_0f7a4_16 rfl rfl ?_
  refine v_iushr (pc' := 18) dJ6_bitCount_0f7a4_17 rfl ?_
  refine v_ldcw (v := 858993459) (pc' := 21) (tg2 212 (by decide +kernel) (by decide +kernel)) dJ6_bitCount_0f7a4_18 rfl ?_
  refine v_iand (pc' := 22) dJ6_bitCount_0f7a4_21 rfl ?_
  refine v_iadd (pc' := 23) dJ6_bitCount_0f7a4_22 rfl ?_
  refine v_istore_n (lv' := [(0, .int ((bc32_17 (bc32_7 x))))]) (pc' := 24) dJ6_bitCount_0f7a4_23 rfl (by decide) rfl rfl ?_
  refine v_iload_n (pc' := 25) 0 dJ6_bitCount_0f7a4_24 rfl rfl rfl ?_
  refine v_iload_n (pc' := 26) 0 dJ6_bitCount_0f7a4_25 rfl rfl rfl ?_
  refine v_iconst (v := 4) (pc' := 27) dJ6_bitCount_0f7a4_26 rfl rfl ?_
  refine v_iushr (pc' := 28) dJ6_bitCount_0f7a4_27 rfl ?_
  refine v_iadd (pc' := 29) dJ6_bitCount_0f7a4_28 rfl ?_
  refine v_ldcw (v := 252645135) (pc' := 32) (tg2 213 (by decide +kernel) (by decide +kernel)) dJ6_bitCount_0f7a4_29 rfl ?_
  refine v_iand (pc' := 33) dJ6_bitCount_0f7a4_32 rfl ?_
  refine v_istore_n (lv' := [(0, .int ((bc32_25 (bc32_17 (bc32_7 x)))))]) (pc' := 34) dJ6_bitCount_0f7a4_33 rfl (by decide) rfl rfl ?_
  refine v_iload_n (pc' := 35) 0 dJ6_bitCount_0f7a4_34 rfl rfl rfl ?_
  refine v_iload_n (pc' := 36) 0 dJ6_bitCount_0f7a4_35 rfl rfl rfl ?_
  refine v_bipush (v := 8) (pc' := 38) dJ6_bitCount_0f7a4_36 rfl rfl ?_
  refine v_iushr (pc' := 39) dJ6_bitCount_0f7a4_38 rfl ?_
  refine v_iadd (pc' := 40) dJ6_bitCount_0f7a4_39 rfl ?_
  refine v_istore_n (lv' := [(0, .int ((bc32_31 (bc32_25 (bc32_17 (bc32_7 x))))))]) (pc' := 41) dJ6_bitCount_0f7a4_40 rfl (by decide) rfl rfl ?_
  refine v_iload_n (pc' := 42) 0 dJ6_bitCount_0f7a4_41 rfl rfl rfl ?_
  refine v_iload_n (pc' := 43) 0 dJ6_bitCount_0f7a4_42 rfl rfl rfl ?_
  refine v_bipush (v := 16) (pc' := 45) dJ6_bitCount_0f7a4_43 rfl rfl ?_
  refine v_iushr (pc' := 46) dJ6_bitCount_0f7a4_45 rfl ?_
  refine v_iadd (pc' := 47) dJ6_bitCount_0f7a4_46 rfl ?_
  refine v_istore_n (lv' := [(0, .int ((bc32_37 (bc32_31 (bc32_25 (bc32_17 (bc32_7 x)))))))]) (pc' := 48) dJ6_bitCount_0f7a4_47 rfl (by decide) rfl rfl ?_
  refine v_iload_n (pc' := 49) 0 dJ6_bitCount_0f7a4_48 rfl rfl rfl ?_
  refine v_bipush (v := 63) (pc' := 51) dJ6_bitCount_0f7a4_49 rfl rfl ?_
  refine v_iand (pc' := 52) dJ6_bitCount_0f7a4_51 rfl ?_
  exact v_ireturn rfl dJ6_bitCount_0f7a4_52
theorem v_bc32 {g : GW} {M : MI} {d : Nat} {α : Type} {rt : α → Option Value} {pc pc' idx : Nat} {lv : List (Nat × Value)} {st : List Value} {P : Mo α} {x : Int32} (hdd : 2 ≤ d) (hlink : Cond.methodLink M.1 idx yJ6_bitCount_0f7a4 ∈ TG) (hst : (st.map fun v => v.category).sum ≤ 16) (hh : M.2.2.2.2.2 = []) (hd : decode M.2.1 pc = .ok (.invokestatic idx, 3)) (hp : pc + 3 = pc') (k : V g M d rt pc' lv (.int (bc32 x) :: st) P) : V g M d rt pc lv (.int x :: st) P := by
  -- have h := v_callS (g := g) (M := M) (d := d) (rt := rt) (lv := lv) (st := st) (vs := [.int x]) (F := pu (bc32 x)) (K := fun _ => P) (pc := pc) (pc' := pc') (h_J6_bitCount_0f7a4 g x) ms_J6_bitCount_0f7a4 hlink (Nat.le_of_ble_eq_true rfl) hdd (by decide) hst hh hd hp
  intro n0 k0 p l e R s m args below meth co C σ H locs cells slots ls r σ' A hP
  intro T hT X
  have hts := Wds.at (args := args) C.2.2.2.1
  rcases vx_callS X C.1.1 (own := M.1) (index := idx) (y := yJ6_bitCount_0f7a4) (bytes := mJ6_bitCount_0f7a4.2.1) (maxL := mJ6_bitCount_0f7a4.2.2.1) (ret := mJ6_bitCount_0f7a4.2.2.2.1) C.2.1 (hts _ hlink) (hts _ ms_J6_bitCount_0f7a4.2.2.2.1) (hts _ ms_J6_bitCount_0f7a4.2.2.2.2.1) (hts _ ms_J6_bitCount_0f7a4.2.2.1) ms_J6_bitCount_0f7a4.1.1.2.2.2 (callee C (h_J6_bitCount_0f7a4 g x) ms_J6_bitCount_0f7a4.1 (vs := [.int x]) (Nat.le_of_ble_eq_true rfl) hdd (by decide) (σ := σ) (σ1 := σ) (r := .inl (bc32 x)) rfl)
      (g := F0 m pc ls (.int x :: st)) rfl (A.2.2.2.2.1.trans C.1.2.2.1.symm) (argsL := [.int x]) (rest := st) ms_J6_bitCount_0f7a4.2.2.2.2.2 rfl (by show 2 * 0 + _ ≤ 16; omega) (by rw [C.1.2.1]; exact hd)
      (fun vm₁ _ => ⟨rfl, by show HR g σ T.heap; rw [hT]; exact A.1, A.2.1, A.2.2.1, A.2.2.2.1⟩) with ⟨v, vm₁, B, -, XB, ⟨⟨x', e1, e2⟩, b1, b2, b3, b4⟩, hgo⟩ | ⟨z, vm₁, B, -, XB, ⟨⟨x', e1, -⟩, -⟩, -⟩
  · cases e1
    subst e2
    subst hp
    obtain ⟨t, a1, a2⟩ := k n0 k0 p l e R s m args below meth co C σ B.U.heap B.locs B.cells B.slots ls r σ' ⟨b1, b2, b3, b4, A.2.2.2.2⟩ hP B.U rfl XB
    exact ⟨t, hgo t a1, a2⟩
  · cases e1
abbrev mJ13_bitCount_95d88 : MI := (RJ13, cJ13_bitCount_95d88, 2, (some .int), "bitCount", [])
theorem mf_J13_bitCount_95d88 : MF yJ13_bitCount_95d88 mJ13_bitCount_95d88 := ⟨⟨by decide +kernel, rfl, rfl, by decide +kernel, by decide +kernel⟩, Or.inl ⟨rfl, (tg5 163 (by decide +kernel) (by decide +kernel))⟩, (tg1 26 (by decide +kernel) (by decide +kernel))⟩
theorem ms_J13_bitCount_95d88 : MS yJ13_bitCount_95d88 mJ13_bitCount_95d88 1 := ⟨mf_J13_bitCount_95d88, rfl, (tg5 163 (by decide +kernel) (by decide +kernel)), (tg5 162 (by decide +kernel) (by decide +kernel)), (tg1 26 (by decide +kernel) (by decide +kernel)), sigN (by decide +kernel)⟩
def bc64_7 (x : Int64) : Int64 := x - (((Int64.toUInt64 x >>> ((Int32.toInt64 1).toUInt64 &&& Int64.toUInt64 63)).toInt64) &&& 6148914691236517205)
def bc64_17 (x : Int64) : Int64 := (x &&& 3689348814741910323) + (((Int64.toUInt64 x >>> ((Int32.toInt64 2).toUInt64 &&& Int64.toUInt64 63)).toInt64) &&& 3689348814741910323)
def bc64_25 (x : Int64) : Int64 := (x + ((Int64.toUInt64 x >>> ((Int32.toInt64 4).toUInt64 &&& Int64.toUInt64 63)).toInt64)) &&& 1085102592571150095
def bc64_31 (x : Int64) : Int64 := x + ((Int64.toUInt64 x >>> ((Int32.toInt64 8).toUInt64 &&& Int64.toUInt64 63)).toInt64)
def bc64_37 (x : Int64) : Int64 := x + ((Int64.toUInt64 x >>> ((Int32.toInt64 16).toUInt64 &&& Int64.toUInt64 63)).toInt64)
def bc64_43 (x : Int64) : Int64 := x + ((Int64.toUInt64 x >>> ((Int32.toInt64 32).toUInt64 &&& Int64.toUInt64 63)).toInt64)
def bc64_r (x : Int64) : Int32 := (Int64.toInt32 x) &&& 127
def bc64 (x : Int64) : Int32 := bc64_r (bc64_43 (bc64_37 (bc64_31 (bc64_25 (bc64_17 (bc64_7 x))))))
theorem h_J13_bitCount_95d88 (g : GW) (x : Int64) : V g mJ13_bitCount_95d88 1 rtI 0 [(0, .long x)] [] (pu (bc64 x)) := by
  show V g mJ13_bitCount_95d88 1 rtI 0 _ _ (pu (bc64_r (bc64_43 (bc64_37 (bc64_31 (bc64_25 (bc64_17 (bc64_7 x))))))))
  refine v_lload_n (pc' := 1) 0 dJ13_bitCount_95d88_0 rfl rfl rfl ?_
  refine v_lload_n (pc' := 2) 0 dJ13_bitCount_95d88_1 rfl rfl rfl ?_
  refine v_iconst (v := 1) (pc' := 3) dJ13_bitCount_95d88_2 rfl rfl ?_
  refine v_lushr (pc' := 4) dJ13_bitCount_95d88_3 rfl ?_
  refine v_ldc2 (v := 6148914691236517205) (pc' := 7) (tg5 164 (by decide +kernel) (by decide +kernel)) dJ13_bitCount_95d88_4 rfl ?_
  refine v_land (pc' := 8) dJ13_bitCount_95d88_7 rfl ?_
  refine v_lsub (pc' := 9) dJ13_bitCount_95d88_8 rfl ?_
  refine v_lstore_n (lv' := [(0, .long ((bc64_7 x)))]) (pc' := 10) dJ13_bitCount_95d88_9 rfl (by decide) rfl rfl ?_
  refine v_lload_n (pc' := 11) 0 dJ13_bitCount_95d88_10 rfl rfl rfl ?_
  refine v_ldc2 (v := 3689348814741910323) (pc' := 14) (tg5 165 (by decide +kernel) (by decide +kernel)) dJ13_bitCount_95d88_11 rfl ?_
  refine v_land (pc' := 15) dJ13_bitCount_95d88_14 rfl ?_
  refine v_lload_n (pc' := 16) 0 dJ13_bitCount_95d88_15 rfl rfl rfl ?_
  refine v_iconst (v := 2) (pc' := 17) dJ13_bitCount_95d88_16 rfl rfl ?_
  refine v_lushr (pc' := 18) dJ13_bitCount_95d88_17 rfl ?_
  refine v_ldc2 (v := 3689348814741910323) (pc' := 21) (tg5 165 (by decide +kernel) (by decide +kernel)) dJ13_bitCount_95d88_18 rfl ?_
  refine v_land (pc' := 22) dJ13_bitCount_95d88_21 rfl ?_
  refine v_ladd (pc' := 23) dJ13_bitCount_95d88_22 rfl ?_
  refine v_lstore_n (lv' := [(0, .long ((bc64_17 (bc64_7 x))))]) (pc' := 24) dJ13_bitCount_95d88_23 rfl (by decide) rfl rfl ?_
  refine v_lload_n (pc' := 25) 0 dJ13_bitCount_95d88_24 rfl rfl rfl ?_
  refine v_lload_n (pc' := 26) 0 dJ13_bitCount_95d88_25 rfl rfl rfl ?_
  refine v_iconst (v := 4) (pc' := 27) dJ13_bitCount_95d88_26 rfl rfl ?_
  refine v_lushr (pc' := 28) dJ13_bitCount_95d88_27 rfl ?_
  refine v_ladd (pc' := 29) dJ13_bitCount_95d88_28 rfl ?_
  refine v_ldc2 (v := 1085102592571150095) (pc' := 32) (tg5 166 (by decide +kernel) (by decide +kernel)) dJ13_bitCount_95d88_29 rfl ?_
  refine v_land (pc' := 33) dJ13_bitCount_95d88_32 rfl ?_
  refine v_lstore_n (lv' := [(0, .long ((bc64_25 (bc64_17 (bc64_7 x)))))]) (pc' := 34) dJ13_bitCount_95d88_33 rfl (by decide) rfl rfl ?_
  refine v_lload_n (pc' := 35) 0 dJ13_bitCount_95d88_34 rfl rfl rfl ?_
  refine v_lload_n (pc' := 36) 0 dJ13_bitCount_95d88_35 rfl rfl rfl ?_
  refine v_bipush (v := 8) (pc' := 38) dJ13_bitCount_95d88_36 rfl rfl ?_
  refine v_lushr (pc' := 39) dJ13_bitCount_95d88_38 rfl ?_
  refine v_ladd (pc' := 40) dJ13_bitCount_95d88_39 rfl ?_
  refine v_lstore_n (lv' := [(0, .long ((bc64_31 (bc64_25 (bc64_17 (bc64_7 x))))))]) (pc' := 41) dJ13_bitCount_95d88_40 rfl (by decide) rfl rfl ?_
  refine v_lload_n (pc' := 42) 0 dJ13_bitCount_95d88_41 rfl rfl rfl ?_
  refine v_lload_n (pc' := 43) 0 dJ13_bitCount_95d88_42 rfl rfl rfl ?_
  refine v_bipush (v := 16) (pc' := 45) dJ13_bitCount_95d88_43 rfl rfl ?_
  refine v_lushr (pc' := 46) dJ13_bitCount_95d88_45 rfl ?_
  refine v_ladd (pc' := 47) dJ13_bitCount_95d88_46 rfl ?_
  refine v_lstore_n (lv' := [(0, .long ((bc64_37 (bc64_31 (bc64_25 (bc64_17 (bc64_7 x)))))))]) (pc' := 48) dJ13_bitCount_95d88_47 rfl (by decide) rfl rfl ?_
  refine v_lload_n (pc' := 49) 0 dJ13_bitCount_95d88_48 rfl rfl rfl ?_
  refine v_lload_n (pc' := 50) 0 dJ13_bitCount_95d88_49 rfl rfl rfl ?_
  refine v_bipush (v := 32) (pc' := 52) dJ13_bitCount_95d88_50 rfl rfl ?_
  refine v_lushr (pc' := 53) dJ13_bitCount_95d88_52 rfl ?_
  refine v_ladd (pc' := 54) dJ13_bitCount_95d88_53 rfl ?_
  refine v_lstore_n (lv' := [(0, .long ((bc64_43 (bc64_37 (bc64_31 (bc64_25 (bc64_17 (bc64_7 x))))))))]) (pc' := 55) dJ13_bitCount_95d88_54 rfl (by decide) rfl rfl ?_
  refine v_lload_n (pc' := 56) 0 dJ13_bitCount_95d88_55 rfl rfl rfl ?_
  refine v_l2i (pc' := 57) dJ13_bitCount_95d88_56 rfl ?_
  refine v_bipush (v := 127) (pc' := 59) dJ13_bitCount_95d88_57 rfl rfl ?_
  refine v_iand (pc' := 60) dJ13_bitCount_95d88_59 rfl ?_
  exact v_ireturn rfl dJ13_bitCount_95d88_60
theorem v_bc64 {g : GW} {M : MI} {d : Nat} {α : Type} {rt : α → Option Value} {pc pc' idx : Nat} {lv : List (Nat × Value)} {st : List Value} {P : Mo α} {x : Int64} (hdd : 2 ≤ d) (hlink : Cond.methodLink M.1 idx yJ13_bitCount_95d88 ∈ TG) (hst : (st.map fun v => v.category).sum ≤ 16) (hh : M.2.2.2.2.2 = []) (hd : decode M.2.1 pc = .ok (.invokestatic idx, 3)) (hp : pc + 3 = pc') (k : V g M d rt pc' lv (.int (bc64 x) :: st) P) : V g M d rt pc lv (.long x :: st) P := by
  -- have h := v_callS (g := g) (M := M) (d := d) (rt := rt) (lv := lv) (st := st) (vs := [.long x]) (F := pu (bc64 x)) (K := fun _ => P) (pc := pc) (pc' := pc') (h_J13_bitCount_95d88 g x) ms_J13_bitCount_95d88 hlink (Nat.le_of_ble_eq_true rfl) hdd (by decide) hst hh hd hp
  intro n0 k0 p l e R s m args below meth co C σ H locs cells slots ls r σ' A hP
  intro T hT X
  have hts := Wds.at (args := args) C.2.2.2.1
  rcases vx_callS X C.1.1 (own := M.1) (index := idx) (y := yJ13_bitCount_95d88) (bytes := mJ13_bitCount_95d88.2.1) (maxL := mJ13_bitCount_95d88.2.2.1) (ret := mJ13_bitCount_95d88.2.2.2.1) C.2.1 (hts _ hlink) (hts _ ms_J13_bitCount_95d88.2.2.2.1) (hts _ ms_J13_bitCount_95d88.2.2.2.2.1) (hts _ ms_J13_bitCount_95d88.2.2.1) ms_J13_bitCount_95d88.1.1.2.2.2 (callee C (h_J13_bitCount_95d88 g x) ms_J13_bitCount_95d88.1 (vs := [.long x]) (Nat.le_of_ble_eq_true rfl) hdd (by decide) (σ := σ) (σ1 := σ) (r := .inl (bc64 x)) rfl)
      (g := F0 m pc ls (.long x :: st)) rfl (A.2.2.2.2.1.trans C.1.2.2.1.symm) (argsL := [.long x]) (rest := st) ms_J13_bitCount_95d88.2.2.2.2.2 rfl (by show 2 * 0 + _ ≤ 16; omega) (by rw [C.1.2.1]; exact hd)
      (fun vm₁ _ => ⟨rfl, by show HR g σ T.heap; rw [hT]; exact A.1, A.2.1, A.2.2.1, A.2.2.2.1⟩) with ⟨v, vm₁, B, -, XB, ⟨⟨x', e1, e2⟩, b1, b2, b3, b4⟩, hgo⟩ | ⟨z, vm₁, B, -, XB, ⟨⟨x', e1, -⟩, -⟩, -⟩
  · cases e1
    subst e2
    subst hp
    obtain ⟨t, a1, a2⟩ := k n0 k0 p l e R s m args below meth co C σ B.U.heap B.locs B.cells B.slots ls r σ' ⟨b1, b2, b3, b4, A.2.2.2.2⟩ hP B.U rfl XB
    exact ⟨t, hgo t a1, a2⟩
  · cases e1
abbrev mJ9_min_7cf53 : MI := (RJ9, cJ9_min_7cf53, 2, (some .int), "min", [])
theorem mf_J9_min_7cf53 : MF yJ9_min_7cf53 mJ9_min_7cf53 := ⟨⟨by decide +kernel, rfl, rfl, by decide +kernel, by decide +kernel⟩, Or.inl ⟨rfl, (tg2 234 (by decide +kernel) (by decide +kernel))⟩, (tg1 17 (by decide +kernel) (by decide +kernel))⟩
theorem ms_J9_min_7cf53 : MS yJ9_min_7cf53 mJ9_min_7cf53 2 := ⟨mf_J9_min_7cf53, rfl, (tg2 234 (by decide +kernel) (by decide +kernel)), (tg2 233 (by decide +kernel) (by decide +kernel)), (tg1 17 (by decide +kernel) (by decide +kernel)), sigN (by decide +kernel)⟩
def mn32 (x y : Int32) : Int32 := if y < x then y else x
theorem h_J9_min_7cf53 (g : GW) (x y : Int32) : V g mJ9_min_7cf53 1 rtI 0 [(0, .int x), (1, .int y)] [] (pu (mn32 x y)) := by
  have e : (pu (mn32 x y) : Mo Int32) = if y < x then pu y else pu x := by unfold mn32; split <;> rfl
  rw [e]
  refine v_iload_n (pc' := 1) 0 dJ9_min_7cf53_0 rfl rfl rfl ?_
  refine v_iload_n (pc' := 2) 1 dJ9_min_7cf53_1 rfl rfl rfl ?_
  refine v_icmpgt (t := 9) (pc' := 5) dJ9_min_7cf53_2 (by decide) rfl ?_ ?_
  · refine v_iload_n (pc' := 10) 1 dJ9_min_7cf53_9 rfl rfl rfl ?_
    exact v_ireturn rfl dJ9_min_7cf53_10
  · refine v_iload_n (pc' := 6) 0 dJ9_min_7cf53_5 rfl rfl rfl ?_
    refine v_goto (t := 10) dJ9_min_7cf53_6 (by decide) ?_
    exact v_ireturn rfl dJ9_min_7cf53_10
theorem v_mn32 {g : GW} {M : MI} {d : Nat} {α : Type} {rt : α → Option Value} {pc pc' idx : Nat} {lv : List (Nat × Value)} {st : List Value} {P : Mo α} {x y : Int32} (hdd : 2 ≤ d) (hlink : Cond.methodLink M.1 idx yJ9_min_7cf53 ∈ TG) (hst : (st.map fun v => v.category).sum ≤ 16) (hh : M.2.2.2.2.2 = []) (hd : decode M.2.1 pc = .ok (.invokestatic idx, 3)) (hp : pc + 3 = pc') (k : V g M d rt pc' lv (.int (mn32 x y) :: st) P) : V g M d rt pc lv (.int y :: .int x :: st) P := by
  -- have h := v_callS (g := g) (M := M) (d := d) (rt := rt) (lv := lv) (st := st) (vs := [.int x, .int y]) (F := pu (mn32 x y)) (K := fun _ => P) (pc := pc) (pc' := pc') (h_J9_min_7cf53 g x y) ms_J9_min_7cf53 hlink (Nat.le_of_ble_eq_true rfl) hdd (by decide) hst hh hd hp
  intro n0 k0 p l e R s m args below meth co C σ H locs cells slots ls r σ' A hP
  intro T hT X
  have hts := Wds.at (args := args) C.2.2.2.1
  rcases vx_callS X C.1.1 (own := M.1) (index := idx) (y := yJ9_min_7cf53) (bytes := mJ9_min_7cf53.2.1) (maxL := mJ9_min_7cf53.2.2.1) (ret := mJ9_min_7cf53.2.2.2.1) C.2.1 (hts _ hlink) (hts _ ms_J9_min_7cf53.2.2.2.1) (hts _ ms_J9_min_7cf53.2.2.2.2.1) (hts _ ms_J9_min_7cf53.2.2.1) ms_J9_min_7cf53.1.1.2.2.2 (callee C (h_J9_min_7cf53 g x y) ms_J9_min_7cf53.1 (vs := [.int x, .int y]) (Nat.le_of_ble_eq_true rfl) hdd (by decide) (σ := σ) (σ1 := σ) (r := .inl (mn32 x y)) rfl)
      (g := F0 m pc ls (.int y :: .int x :: st)) rfl (A.2.2.2.2.1.trans C.1.2.2.1.symm) (argsL := [.int x, .int y]) (rest := st) ms_J9_min_7cf53.2.2.2.2.2 rfl (by show 2 * 0 + _ ≤ 16; omega) (by rw [C.1.2.1]; exact hd)
      (fun vm₁ _ => ⟨rfl, by show HR g σ T.heap; rw [hT]; exact A.1, A.2.1, A.2.2.1, A.2.2.2.1⟩) with ⟨v, vm₁, B, -, XB, ⟨⟨x', e1, e2⟩, b1, b2, b3, b4⟩, hgo⟩ | ⟨z, vm₁, B, -, XB, ⟨⟨x', e1, -⟩, -⟩, -⟩
  · cases e1
    subst e2
    subst hp
    obtain ⟨t, a1, a2⟩ := k n0 k0 p l e R s m args below meth co C σ B.U.heap B.locs B.cells B.slots ls r σ' ⟨b1, b2, b3, b4, A.2.2.2.2⟩ hP B.U rfl XB
    exact ⟨t, hgo t a1, a2⟩
  · cases e1
abbrev mJ9_max_7cf53 : MI := (RJ9, cJ9_max_7cf53, 2, (some .int), "max", [])
theorem mf_J9_max_7cf53 : MF yJ9_max_7cf53 mJ9_max_7cf53 := ⟨⟨by decide +kernel, rfl, rfl, by decide +kernel, by decide +kernel⟩, Or.inl ⟨rfl, (tg4 144 (by decide +kernel) (by decide +kernel))⟩, (tg1 17 (by decide +kernel) (by decide +kernel))⟩
theorem ms_J9_max_7cf53 : MS yJ9_max_7cf53 mJ9_max_7cf53 2 := ⟨mf_J9_max_7cf53, rfl, (tg4 144 (by decide +kernel) (by decide +kernel)), (tg4 143 (by decide +kernel) (by decide +kernel)), (tg1 17 (by decide +kernel) (by decide +kernel)), sigN (by decide +kernel)⟩
def mx32 (x y : Int32) : Int32 := if x < y then y else x
theorem h_J9_max_7cf53 (g : GW) (x y : Int32) : V g mJ9_max_7cf53 1 rtI 0 [(0, .int x), (1, .int y)] [] (pu (mx32 x y)) := by
  have e : (pu (mx32 x y) : Mo Int32) = if x < y then pu y else pu x := by unfold mx32; split <;> rfl
  rw [e]
  refine v_iload_n (pc' := 1) 0 dJ9_max_7cf53_0 rfl rfl rfl ?_
  refine v_iload_n (pc' := 2) 1 dJ9_max_7cf53_1 rfl rfl rfl ?_
  refine v_icmplt (t := 9) (pc' := 5) dJ9_max_7cf53_2 (by decide) rfl ?_ ?_
  · refine v_iload_n (pc' := 10) 1 dJ9_max_7cf53_9 rfl rfl rfl ?_
    exact v_ireturn rfl dJ9_max_7cf53_10
  · refine v_iload_n (pc' := 6) 0 dJ9_max_7cf53_5 rfl rfl rfl ?_
    refine v_goto (t := 10) dJ9_max_7cf53_6 (by decide) ?_
    exact v_ireturn rfl dJ9_max_7cf53_10
theorem v_mx32 {g : GW} {M : MI} {d : Nat} {α : Type} {rt : α → Option Value} {pc pc' idx : Nat} {lv : List (Nat × Value)} {st : List Value} {P : Mo α} {x y : Int32} (hdd : 2 ≤ d) (hlink : Cond.methodLink M.1 idx yJ9_max_7cf53 ∈ TG) (hst : (st.map fun v => v.category).sum ≤ 16) (hh : M.2.2.2.2.2 = []) (hd : decode M.2.1 pc = .ok (.invokestatic idx, 3)) (hp : pc + 3 = pc') (k : V g M d rt pc' lv (.int (mx32 x y) :: st) P) : V g M d rt pc lv (.int y :: .int x :: st) P := by
  -- have h := v_callS (g := g) (M := M) (d := d) (rt := rt) (lv := lv) (st := st) (vs := [.int x, .int y]) (F := pu (mx32 x y)) (K := fun _ => P) (pc := pc) (pc' := pc') (h_J9_max_7cf53 g x y) ms_J9_max_7cf53 hlink (Nat.le_of_ble_eq_true rfl) hdd (by decide) hst hh hd hp
  intro n0 k0 p l e R s m args below meth co C σ H locs cells slots ls r σ' A hP
  intro T hT X
  have hts := Wds.at (args := args) C.2.2.2.1
  rcases vx_callS X C.1.1 (own := M.1) (index := idx) (y := yJ9_max_7cf53) (bytes := mJ9_max_7cf53.2.1) (maxL := mJ9_max_7cf53.2.2.1) (ret := mJ9_max_7cf53.2.2.2.1) C.2.1 (hts _ hlink) (hts _ ms_J9_max_7cf53.2.2.2.1) (hts _ ms_J9_max_7cf53.2.2.2.2.1) (hts _ ms_J9_max_7cf53.2.2.1) ms_J9_max_7cf53.1.1.2.2.2 (callee C (h_J9_max_7cf53 g x y) ms_J9_max_7cf53.1 (vs := [.int x, .int y]) (Nat.le_of_ble_eq_true rfl) hdd (by decide) (σ := σ) (σ1 := σ) (r := .inl (mx32 x y)) rfl)
      (g := F0 m pc ls (.int y :: .int x :: st)) rfl (A.2.2.2.2.1.trans C.1.2.2.1.symm) (argsL := [.int x, .int y]) (rest := st) ms_J9_max_7cf53.2.2.2.2.2 rfl (by show 2 * 0 + _ ≤ 16; omega) (by rw [C.1.2.1]; exact hd)
      (fun vm₁ _ => ⟨rfl, by show HR g σ T.heap; rw [hT]; exact A.1, A.2.1, A.2.2.1, A.2.2.2.1⟩) with ⟨v, vm₁, B, -, XB, ⟨⟨x', e1, e2⟩, b1, b2, b3, b4⟩, hgo⟩ | ⟨z, vm₁, B, -, XB, ⟨⟨x', e1, -⟩, -⟩, -⟩
  · cases e1
    subst e2
    subst hp
    obtain ⟨t, a1, a2⟩ := k n0 k0 p l e R s m args below meth co C σ B.U.heap B.locs B.cells B.slots ls r σ' ⟨b1, b2, b3, b4, A.2.2.2.2⟩ hP B.U rfl XB
    exact ⟨t, hgo t a1, a2⟩
  · cases e1
