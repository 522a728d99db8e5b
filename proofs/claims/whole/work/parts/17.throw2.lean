theorem words_of {own : String} {ic : Nat} {X : String} {ix : Nat} {bytes : ByteArray} {YS : String} {r : List String} (ps : List Nat) (h1 : (atG own ic X ix bytes YS r).filter goodWord = ps.filterMap (fun i => lw_tbl[i]?)) (h2 : ∀ w ∈ (atG own ic X ix bytes YS r).filter (fun w => !goodWord w), w ∈ FAW) {s : State} {args : Array Value} (hw : Wds s) (hf : ∀ w ∈ FAW, w.before args s = true) : ∀ w ∈ atG own ic X ix bytes YS r, w.before args s = true := by
  refine vx_hat (B := FAW) (fun w hm => ?_) h2 hf
  have hg := (List.mem_filter.mp hm).2
  rw [h1] at hm
  obtain ⟨i, -, hi⟩ := List.mem_filterMap.mp hm
  exact hw w (List.mem_of_getElem? hi) hg args s (State.WarmedH.refl s)
theorem Fa.at {s : State} (h : Fa s) (args : Array Value) : ∀ w ∈ FAW, w.before args s = true := by
  intro w hw
  have h1 := h w hw
  simp only [FAW, List.mem_cons, List.not_mem_nil, or_false] at hw
  rcases hw with rfl | rfl | rfl | rfl | rfl <;> exact h1
theorem th_spec {α : Type} {c : Nat} {σ σ' : PS} {r : α ⊕ (Nat × Nat)} (h : (th c : Mo α) σ = some (r, σ')) : (σ.1 + 1 ≤ CM ∧ σ.2.1 + 6 ≤ SM) ∧ r = .inr (σ.1, c) ∧ σ' = (σ.1 + 1, σ.2.1 + 6, upP σ.2.2 σ.1 (.inr (c, []))) := by
  unfold th at h
  obtain ⟨h1, h2⟩ := if_some h
  cases h2
  exact ⟨h1, rfl, rfl⟩
theorem tw13_1 : (atG RX11 403 RNSE 13 prog_31_method_4_code "java/lang/RuntimeException" ["java/lang/Exception"]).filter goodWord = [105, 664, 673, 676, 679, 681, 665, 666, 125, 126, 667, 672, 677, 697, 654, 698, 656, 699, 658, 668, 670, 660, 693, 694, 696, 660, 1051, 1052, 1053, 687, 687, 688, 689, 690, 690, 691, 692, 693, 1050, 1041, 1043, 675, 1044, 1045, 1046, 1047, 663, 662, 1048].filterMap (fun i => lw_tbl[i]?) := by decide +kernel
theorem tw13_2 : ∀ w ∈ (atG RX11 403 RNSE 13 prog_31_method_4_code "java/lang/RuntimeException" ["java/lang/Exception"]).filter (fun w => !goodWord w), w ∈ FAW := by decide +kernel
theorem tw13_3 : ∀ w ∈ Cond.classLink RX11 399 RNSE :: Cond.initialized RNSE :: atG RX11 403 RNSE 13 prog_31_method_4_code "java/lang/RuntimeException" ["java/lang/Exception"], vx_ot w = true := by decide +kernel
theorem tb13_0 : decode prog_31_method_4_code 0 = .ok (.aload_n 0, 1) := by decide +kernel
theorem tb13_1 : decode prog_31_method_4_code 1 = .ok (.aload_n 1, 1) := by decide +kernel
theorem tb13_2 : decode prog_31_method_4_code 2 = .ok (.invokespecial 13, 3) := by decide +kernel
theorem tb13_5 : decode prog_31_method_4_code 5 = .ok (.return_, 1) := by decide +kernel
theorem v_throw13 {g : GW} {M : MI} {d : Nat} {α : Type} {rt : α → Option Value} {pc : Nat} {lv : List (Nat × Value)} {st : List Value} (hM : M.1 = RX11) (hh : M.2.2.2.2.2 = []) (hdd : 8 ≤ d) (hst : (st.map fun v => v.category).sum ≤ 16) (d0 : decode M.2.1 pc = .ok (.new 399, 3)) (d3 : decode M.2.1 (pc + 3) = .ok (.dup, 1)) (d4 : decode M.2.1 (pc + 4) = .ok (.ldc_w 401, 3)) (d7 : decode M.2.1 (pc + 7) = .ok (.invokespecial 403, 3)) (d10 : decode M.2.1 (pc + 10) = .ok (.athrow, 1)) : V g M d rt pc lv st (th 13) := by
  intro n0 k0 p l e R s m args below meth co C σ H locs cells slots ls r σ' A hP
  obtain ⟨⟨r1, r2⟩, rfl, rfl⟩ := th_spec hP
  have hts := Wds.at (args := args) C.2.2.2.1
  have hrm := C.2.2.2.2.1
  have hG := C.2.2.2.2.2.2
  have hown : s.vm.findClass RX11 = some m.cls := by rw [← hM]; exact C.2.1
  refine px_throwG (own := RX11) (cls := RNSE) (text := txt 3) (YS := "java/lang/RuntimeException") (r := ["java/lang/Exception"]) (sa := gK g 3) (A := gF g) C.1.1 C.1.2.1 hG.1 tb13_0 tb13_1 tb13_2 tb13_5 hown (by decide +kernel) (by decide +kernel)
    (hts _ (tg4 228 (by decide +kernel) (by decide +kernel))) (hts _ (tg1 25 (by decide +kernel) (by decide +kernel))) hG.2.2.2.2.1.2.2.2.1 (words_of _ tw13_1 tw13_2 C.2.2.2.1 (hG.2.2.2.2.2.2.2.2.2.1.at args)) tw13_3
    (hG.2.1.kept (oldK C)) (hG.2.2.1.kept (oldK C)) (oldS C A) (A.2.2.2.2.1.trans C.1.2.2.1.symm) d0 d3 d4 d7 d10 (noHand (C.1.2.2.2.2.2.2.trans hh)) (by show 1 + 1 + 3 < R.frames; omega) (by show _ + (13 * (1 + 1 + 1) + 43) ≤ R.locals; omega) (by have := A.2.2.1; omega) (by have := A.2.2.2.1; omega) C.1.2.2.2.2.1 ?_
  intro U ce h1 h2 h3 h4 h5 h6 h7 h8 h9
  refine ⟨h1, by show Ended U below (.threw (gB g + σ.1)); rw [← A.1.1]; exact h2, h3, HR.push (n := σ.1) (k := σ.2.1) A.1 ?_ h5 h6 ⟨r1, r2⟩, locs, cells + 1, slots + 6, h4, A.2.1, by show cells + 1 + n0 = σ.1 + 1; have := A.2.2.1; omega, by show slots + 6 + k0 = σ.2.1 + 6; have := A.2.2.2.1; omega⟩
  refine ⟨(RNSE, T0, 0), rfl, ce, by rw [← A.1.1]; exact h7, ?_, h8, fun k hk => absurd hk (Nat.not_lt_zero k)⟩
  exact Option.some.inj (h9.symm.trans (C.2.2.1.1 13 _ rfl).2.1)
theorem tw14_1 : (atG RX11 410 RIAE 7 prog_19_method_2_code "java/lang/RuntimeException" ["java/lang/Exception"]).filter goodWord = [105, 664, 673, 676, 679, 681, 665, 666, 125, 126, 667, 672, 677, 697, 654, 698, 656, 699, 658, 668, 670, 660, 693, 694, 696, 660, 684, 685, 686, 687, 687, 688, 689, 690, 690, 691, 692, 693, 683, 643, 651, 652, 653, 655, 657, 659, 663, 662, 661].filterMap (fun i => lw_tbl[i]?) := by decide +kernel
theorem tw14_2 : ∀ w ∈ (atG RX11 410 RIAE 7 prog_19_method_2_code "java/lang/RuntimeException" ["java/lang/Exception"]).filter (fun w => !goodWord w), w ∈ FAW := by decide +kernel
theorem tw14_3 : ∀ w ∈ Cond.classLink RX11 406 RIAE :: Cond.initialized RIAE :: atG RX11 410 RIAE 7 prog_19_method_2_code "java/lang/RuntimeException" ["java/lang/Exception"], vx_ot w = true := by decide +kernel
theorem tb14_0 : decode prog_19_method_2_code 0 = .ok (.aload_n 0, 1) := by decide +kernel
theorem tb14_1 : decode prog_19_method_2_code 1 = .ok (.aload_n 1, 1) := by decide +kernel
theorem tb14_2 : decode prog_19_method_2_code 2 = .ok (.invokespecial 7, 3) := by decide +kernel
theorem tb14_5 : decode prog_19_method_2_code 5 = .ok (.return_, 1) := by decide +kernel
theorem v_throw14 {g : GW} {M : MI} {d : Nat} {α : Type} {rt : α → Option Value} {pc : Nat} {lv : List (Nat × Value)} {st : List Value} (hM : M.1 = RX11) (hh : M.2.2.2.2.2 = []) (hdd : 8 ≤ d) (hst : (st.map fun v => v.category).sum ≤ 16) (d0 : decode M.2.1 pc = .ok (.new 406, 3)) (d3 : decode M.2.1 (pc + 3) = .ok (.dup, 1)) (d4 : decode M.2.1 (pc + 4) = .ok (.ldc_w 408, 3)) (d7 : decode M.2.1 (pc + 7) = .ok (.invokespecial 410, 3)) (d10 : decode M.2.1 (pc + 10) = .ok (.athrow, 1)) : V g M d rt pc lv st (th 14) := by
  intro n0 k0 p l e R s m args below meth co C σ H locs cells slots ls r σ' A hP
  obtain ⟨⟨r1, r2⟩, rfl, rfl⟩ := th_spec hP
  have hts := Wds.at (args := args) C.2.2.2.1
  have hrm := C.2.2.2.2.1
  have hG := C.2.2.2.2.2.2
  have hown : s.vm.findClass RX11 = some m.cls := by rw [← hM]; exact C.2.1
  refine px_throwG (own := RX11) (cls := RIAE) (text := txt 4) (YS := "java/lang/RuntimeException") (r := ["java/lang/Exception"]) (sa := gK g 4) (A := gF g) C.1.1 C.1.2.1 hG.1 tb14_0 tb14_1 tb14_2 tb14_5 hown (by decide +kernel) (by decide +kernel)
    (hts _ (tg3 70 (by decide +kernel) (by decide +kernel))) (hts _ (tg1 16 (by decide +kernel) (by decide +kernel))) hG.2.2.2.2.1.2.2.2.2 (words_of _ tw14_1 tw14_2 C.2.2.2.1 (hG.2.2.2.2.2.2.2.2.2.1.at args)) tw14_3
    (hG.2.1.kept (oldK C)) (hG.2.2.1.kept (oldK C)) (oldS C A) (A.2.2.2.2.1.trans C.1.2.2.1.symm) d0 d3 d4 d7 d10 (noHand (C.1.2.2.2.2.2.2.trans hh)) (by show 1 + 1 + 3 < R.frames; omega) (by show _ + (13 * (1 + 1 + 1) + 43) ≤ R.locals; omega) (by have := A.2.2.1; omega) (by have := A.2.2.2.1; omega) C.1.2.2.2.2.1 ?_
  intro U ce h1 h2 h3 h4 h5 h6 h7 h8 h9
  refine ⟨h1, by show Ended U below (.threw (gB g + σ.1)); rw [← A.1.1]; exact h2, h3, HR.push (n := σ.1) (k := σ.2.1) A.1 ?_ h5 h6 ⟨r1, r2⟩, locs, cells + 1, slots + 6, h4, A.2.1, by show cells + 1 + n0 = σ.1 + 1; have := A.2.2.1; omega, by show slots + 6 + k0 = σ.2.1 + 6; have := A.2.2.2.1; omega⟩
  refine ⟨(RIAE, T0, 0), rfl, ce, by rw [← A.1.1]; exact h7, ?_, h8, fun k hk => absurd hk (Nat.not_lt_zero k)⟩
  exact Option.some.inj (h9.symm.trans (C.2.2.1.1 14 _ rfl).2.1)
