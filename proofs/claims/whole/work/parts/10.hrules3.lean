theorem vr_outer (c : ClassId) (N h0 : Nat) : ∀ i : Nat, Jvm.Free.Multi.outerC c N h0 i = arrV c N (fun j => va_rf (if j < i then some (h0 + 1 + j) else none))
  | 0 => by
    show ({ cls := c, slots := Array.replicate N .null, vm := .none } : Cell) = _
    rw [arrV_new]
    refine congrArg (arrV c N) (funext fun j => ?_)
    simp [va_rf]
  | i + 1 => by
    show (Jvm.Free.Multi.outerC c N h0 i).setSlot i (.ref (h0 + 1 + i)) = _
    rw [vr_outer c N h0 i, arrV_store]
    refine congrArg (arrV c N) (funext fun j => ?_)
    by_cases e : j = i
    · subst e
      simp [updV, va_rf]
    · by_cases h : j < i
      · simp [updV, e, h, Nat.lt_succ_of_lt h]
      · simp [updV, e, h, show ¬ j < i + 1 by omega]
theorem W.mono {p : Program} {l : Launch} {e : Env} {R : Room} {s : State} {m : MethodId} {args : Array Value} {below : List Frame} {meth : Method} {c : Code} {H : Heap} {locs : List Loc} {cells slots : Nat} {Q Q' : State → Prop} {g : JFrame} (h : ∀ t, Q t → Q' t) (k : W p l e R s m args below meth c H locs cells slots Q g) : W p l e R s m args below meth c H locs cells slots Q' g := by
  intro T hT X
  obtain ⟨t, a, b⟩ := k T hT X
  exact ⟨t, a, h t b⟩
def rz (v : Int32) : Mo Int32 := if v = 0 ∨ v = 1 then pu v else fl
section VG3
variable {g : GW} {M : MI} {d : Nat} {α : Type} {rt : α → Option Value} {pc pc' : Nat} {lv : List (Nat × Value)} {st : List Value} {P : Mo α}
theorem v_newM {idx : Nat} {n k : Int32} {K : Nat → Mo α} (hcl : Cond.classLink M.1 idx ("[" ++ (FieldType.array .int).toString) ∈ TG) (hac : Cond.arrayClass .int ∈ TG) (hd : decode M.2.1 pc = .ok (.multianewarray idx 2, 4)) (hp : pc + 4 = pc') (kk : ∀ x, V g M d rt pc' lv (rf g x :: st) (K x)) : V g M d rt pc lv (.int k :: .int n :: st) (bd (nM n k) K) := by
  intro n0 k0 p l e R s m args below meth co C σ H locs cells slots ls r σ' A hP
  subst hp
  rcases bd_spec hP with ⟨x, σ1, h1, h2⟩ | ⟨x, h1, h2⟩
  · unfold nM at h1
    obtain ⟨⟨⟨hn, hk, r00, r01⟩, r1, r2⟩, e1⟩ := if_some h1
    cases e1
    have hts := Wds.at (args := args) C.2.2.2.1
    have hrm := C.2.2.2.2.1
    intro T hT Xs
    obtain ⟨vm₁, cA, comp, -, fA, fC, hO, -, X', step⟩ := Xs.multianewarray2F C.1.1 C.2.1 (hts _ hcl) (show (Cond.arrayOver (.array .int)).before args s = true from C.2.2.2.2.2.2.2.2.2.2.2.2.2.2.1) (hts _ hac) (g := F0 m pc ls (.int k :: .int n :: st)) rfl (by rw [C.1.2.1]; exact hd) rfl hn hk (by omega) (by simp only [componentBytes]; omega) (by omega) rfl rfl (by have := A.2.2.1; have := hrm.1; omega) (by have := A.2.2.2.1; have := hrm.2.1; omega)
    have e0 : gA g 0 = comp := Option.some.inj ((C.2.2.1.2 0 _ rfl).2.symm.trans fC)
    have e3 : gA g 3 = cA := Option.some.inj ((C.2.2.1.2 3 _ rfl).2.symm.trans fA)
    subst e0
    subst e3
    generalize hF : Jvm.Free.Multi.fill (T.setVm vm₁) (gA g 3) (gA g 0) n.toNatClampNeg k.toNatClampNeg (defaultValue .int) n.toNatClampNeg = F at X' step
    have hTh : (T.setVm vm₁).heap = H := hT
    obtain ⟨f1, f2, -, -⟩ := Jvm.Free.Multi.fill_facts (T.setVm vm₁) (gA g 3) (gA g 0) n.toNatClampNeg k.toNatClampNeg (defaultValue .int) n.toNatClampNeg
    rw [hF, hTh] at f1 f2
    have hold : ∀ x : Nat, x < H.size → F.heap[x]? = H[x]? := fun x hx => by
      have := Jvm.Free.Multi.fill_old (T.setVm vm₁) (gA g 3) (gA g 0) n.toNatClampNeg k.toNatClampNeg (defaultValue .int) (a := x) (by rw [hTh]; exact hx) n.toNatClampNeg
      rw [hF, hTh] at this
      exact this
    have hrow : ∀ j : Nat, j < n.toNatClampNeg → F.heap[H.size + 1 + j]? = some (arrV (gA g 0) k.toNatClampNeg (fun _ => .int 0)) := fun j hj => by
      have := Jvm.Free.Multi.fill_inner (T.setVm vm₁) (gA g 3) (gA g 0) n.toNatClampNeg k.toNatClampNeg (defaultValue .int) n.toNatClampNeg j hj
      rw [hF, hTh] at this
      rw [this]
      show some ({ cls := gA g 0, slots := Array.replicate k.toNatClampNeg (.int 0), vm := .none } : Cell) = _
      rw [arrV_new]
    rw [vr_outer] at f2
    have hH : HR g (σ.1 + 1 + n.toNatClampNeg, σ.2.1 + n.toNatClampNeg + n.toNatClampNeg * k.toNatClampNeg, fun j => if j = σ.1 then .inl (3, n.toNatClampNeg, .inr (.inr (fun i => if i < n.toNatClampNeg then some (σ.1 + 1 + i) else none))) else if σ.1 < j ∧ j < σ.1 + 1 + n.toNatClampNeg then .inl (0, k.toNatClampNeg, .inl (fun _ => 0)) else σ.2.2 j) F.heap := by
      obtain ⟨q1, q2, q3, q4, -⟩ := A.1
      refine ⟨by rw [f1, q1]; show _ = gB g + (σ.1 + 1 + n.toNatClampNeg); omega, fun i hi => ?_, q3, fun q hq => (hold q (by omega)).trans (q4 q hq), by show σ.1 + 1 + n.toNatClampNeg ≤ CM; omega, by show σ.2.1 + n.toNatClampNeg + n.toNatClampNeg * k.toNatClampNeg ≤ SM; omega⟩
      have hi' : i < σ.1 + 1 + n.toNatClampNeg := hi
      show va_at g.1 PCl (gB g + i, toE g (if i = σ.1 then _ else _)) F.heap
      by_cases c1 : i = σ.1
      · rw [if_pos c1]
        show F.heap[gB g + i]? = some (vp_cell _ _)
        rw [vp_cell_q, c1, show gB g + σ.1 = H.size from q1.symm, f2]
        refine congrArg (fun z => some (arrV (gA g 3) n.toNatClampNeg z)) (funext fun j => ?_)
        by_cases c3 : j < n.toNatClampNeg
        · show va_rf (if j < n.toNatClampNeg then some (H.size + 1 + j) else none) = va_rf ((if j < n.toNatClampNeg then some (σ.1 + 1 + j) else none).map (gB g + ·))
          rw [if_pos c3, if_pos c3, q1]
          exact congrArg Value.ref (show gB g + σ.1 + 1 + j = gB g + (σ.1 + 1 + j) by omega)
        · show va_rf (if j < n.toNatClampNeg then some (H.size + 1 + j) else none) = va_rf ((if j < n.toNatClampNeg then some (σ.1 + 1 + j) else none).map (gB g + ·))
          rw [if_neg c3, if_neg c3]
          rfl
      · rw [if_neg c1]
        by_cases c2 : σ.1 < i ∧ i < σ.1 + 1 + n.toNatClampNeg
        · rw [if_pos c2]
          show F.heap[gB g + i]? = some (vp_cell _ _)
          rw [vp_cell_i]
          have := hrow (i - σ.1 - 1) (by omega)
          rw [q1, show gB g + σ.1 + 1 + (i - σ.1 - 1) = gB g + i by omega] at this
          exact this
        · rw [if_neg c2]
          exact (q2 i (by omega)).kept (hold (gB g + i) (by omega))
    obtain ⟨t, a1, b1⟩ := kk σ.1 n0 k0 p l e R s m args below meth co C _ F.heap locs _ _ ls r σ' ⟨hH, A.2.1, by show cells + 1 + n.toNatClampNeg + n0 = σ.1 + 1 + n.toNatClampNeg; have := A.2.2.1; omega, by show slots + n.toNatClampNeg + n.toNatClampNeg * k.toNatClampNeg + k0 = σ.2.1 + n.toNatClampNeg + n.toNatClampNeg * k.toNatClampNeg; have := A.2.2.2.1; omega, A.2.2.2.2⟩ h2 F rfl X'
    refine ⟨t, step t ?_, b1⟩
    rw [hT, A.1.1]
    exact a1
  · unfold nM at h1
    obtain ⟨-, e1⟩ := if_some h1
    cases e1
theorem v_copy {idx a0 a1 : Nat} {sp dp n : Int32} {K : Unit → Mo α} (hlink : Cond.methodLink M.1 idx arraycopyName ∈ TG) (hnat : Cond.native arraycopyName ∈ TG) (hstat : Cond.static arraycopyName ∈ TG) (hini : Cond.initialized "java/lang/System" ∈ TG) (hdd : 1 ≤ d) (hst : (st.map fun v => v.category).sum ≤ 16) (hd : decode M.2.1 pc = .ok (.invokestatic idx, 3)) (hp : pc + 3 = pc') (kk : V g M d rt pc' lv st (K ())) : V g M d rt pc lv (.int n :: .int dp :: rf g a1 :: .int sp :: rf g a0 :: st) (bd (cp_ a0 sp a1 dp n) K) := by
  intro n0 k0 p l e R s m args below meth co C σ H locs cells slots ls r σ' A hP
  subst hp
  rcases bd_spec hP with ⟨x, σ1, h1, h2⟩ | ⟨x, h1, h2⟩
  · obtain ⟨m0, m1, f, h, ho0, ho1, ⟨c1, c2, c3, c4, c5⟩, -, e2⟩ := cp_spec h1
    subst e2
    obtain ⟨ha0, hm0⟩ := ar_spec ho0
    obtain ⟨ha1, hm1⟩ := ar_spec ho1
    have hts := Wds.at (args := args) C.2.2.2.1
    have hrm := C.2.2.2.2.1
    have nn : ∀ z : Int32, ¬ z < 0 → z.toInt = (z.toNatClampNeg : Int) := by
      intro z hz
      have hz0 : (0 : Int) ≤ z.toInt := by
        have := Int32.not_lt.mp hz
        simpa using Int32.le_iff_toInt_le.mp this
      show z.toInt = ((z.toInt.toNat : Nat) : Int)
      omega
    have h9 : nativeFrameWords "java/lang/System" "arraycopy" 5 + 11 ≤ 40 := by decide
    have h8 := hrm.2.2.2
    intro T hT X
    have hc0 : H[gB g + a0]? = some (vp_cell (gA g 0) (m0, .inl f)) := A.1.cell ha0 hm0
    have hc1 : H[gB g + a1]? = some (vp_cell (gA g 0) (m1, .inl h)) := A.1.cell ha1 hm1
    obtain ⟨-, kk0, hk0, cm0, hkk0⟩ := (C.2.2.1.2 0 _ rfl).1 m0 (fun j => .int (f j))
    obtain ⟨vm', X', step⟩ := X.arraycopy C.1.1 C.2.1 (hts _ hlink) (hts _ hnat) (hts _ hstat) (hts _ hini) (src := gB g + a0) (dst := gB g + a1) (cs := vp_cell (gA g 0) (m0, .inl f)) (cd := vp_cell (gA g 0) (m1, .inl h)) (srcPos := sp) (destPos := dp) (n := n) (by rw [hT]; exact hc0) (by rw [hT]; exact hc1)
      (fun _ h => by cases h) (fun _ h => by cases h) (fun h => by cases h) (fun h => by cases h) hk0 hk0 hkk0 hkk0 (by simp [refKind]) c1 c2 c3
      (by rw [nn sp c1, nn n c3]; show ¬ _ > ((arrV (gA g 0) m0 (fun j => .int (f j))).slots.size : Int); rw [arrV_size]; omega)
      (by rw [nn dp c2, nn n c3]; show ¬ _ > ((arrV (gA g 0) m1 (fun j => .int (h j))).slots.size : Int); rw [arrV_size]; omega)
      (fun vm₁ _ i hi => by
        have e : (vp_cell (gA g 0) (m0, .inl f)).slots.getD (sp.toNatClampNeg + i) .null = .int (f (sp.toNatClampNeg + i)) := by
          show (arrV (gA g 0) m0 (fun j => .int (f j))).slots.getD _ _ = _
          rw [Array.getD_eq_getD_getElem?, arrV_read _ _ (by omega)]
          rfl
        refine ⟨?_, ?_⟩
        · rw [e]
          rfl
        · rw [e]
          exact trivial)
      (g := F0 m pc ls (.int n :: .int dp :: rf g a1 :: .int sp :: rf g a0 :: st)) rfl (by rw [C.1.2.2.1]; exact A.2.2.2.2.1) (rest := st) rfl (by rw [C.1.2.1]; exact hd) (by have := hrm.2.2.1; omega) (by show 2 * 0 + _ + (nativeFrameWords "java/lang/System" "arraycopy" 5 + 11) ≤ _; omega)
    have e1 : copied (vp_cell (gA g 0) (m0, .inl f)) (vp_cell (gA g 0) (m1, .inl h)) sp dp n = vp_cell (gA g 0) (m1, .inl (va_cpy f h sp.toNatClampNeg dp.toNatClampNeg n.toNatClampNeg)) := va_copied (fun z => .int z) (gA g 0) (gA g 0) f h c4
    rw [e1] at X' step
    have hl : gB g + a1 < H.size := (Array.getElem?_eq_some_iff.mp hc1).1
    have hheap : ((T.setVm vm').setCell (gB g + a1) (vp_cell (gA g 0) (m1, .inl (va_cpy f h sp.toNatClampNeg dp.toNatClampNeg n.toNatClampNeg)))).heap = H.setIfInBounds (gB g + a1) (vp_cell (gA g 0) (m1, .inl (va_cpy f h sp.toNatClampNeg dp.toNatClampNeg n.toNatClampNeg))) := by rw [← hT]; rfl
    have oq : ∀ q : Nat, q ≠ gB g + a1 → (H.setIfInBounds (gB g + a1) (vp_cell (gA g 0) (m1, .inl (va_cpy f h sp.toNatClampNeg dp.toNatClampNeg n.toNatClampNeg))))[q]? = H[q]? := fun q hq => by simp [Array.getElem?_setIfInBounds, Ne.symm hq]
    have hset : (H.setIfInBounds (gB g + a1) (vp_cell (gA g 0) (m1, .inl (va_cpy f h sp.toNatClampNeg dp.toNatClampNeg n.toNatClampNeg))))[gB g + a1]? = some (vp_cell (gA g 0) (m1, .inl (va_cpy f h sp.toNatClampNeg dp.toNatClampNeg n.toNatClampNeg))) := by simp [Array.getElem?_setIfInBounds, hl]
    obtain ⟨t, b1, b2⟩ := kk n0 k0 p l e R s m args below meth co C _ _ _ cells slots ls r σ' ⟨HR.set (σ := σ) (a := a1) (x := .inl (0, m1, .inl (va_cpy f h sp.toNatClampNeg dp.toNatClampNeg n.toNatClampNeg))) A.1 hset (by simp) oq, fun q hq => by
        rcases List.mem_append.mp hq with h | h
        · exact A.2.1 q h
        · obtain ⟨z, -, hz⟩ := List.mem_map.mp h
          rw [← hz]
          exact Nat.le_add_right _ _, A.2.2.1, A.2.2.2.1, A.2.2.2.2⟩ h2 _ hheap X'
    exact ⟨t, step t b1, b2⟩
  · obtain ⟨_, _, _, _, -, -, -, e1, -⟩ := cp_spec h1
    cases e1
-- the ends
theorem v_ireturn {v : Int32} (hr : M.2.2.2.1 = some .int) (hd : decode M.2.1 pc = .ok (.ireturn, 1)) : V g M d rtI pc lv [.int v] (pu v) := by
  intro n0 k0 p l e R s m args below meth co C σ H locs cells slots ls r σ' A hP
  cases hP
  refine W.mono ?_ (W.iret (Qc := fun _ _ o t => o = .returned (some (.int v)) ∧ t.heap = H) (free := fun q => gB g ≤ q) C.1.1 C.1.2.1 (C.1.2.2.2.1.trans hr) (fun t ht _ => ⟨rfl, ht⟩) A.2.1 hd C.1.2.2.2.2.1)
  rintro t ⟨o, h1, h2, ⟨rfl, h3⟩, L, h4, h5⟩
  exact ⟨h1, h2, h4.2.1, by rw [h3]; exact A.1, L, cells, slots, h4.2.2, h5, A.2.2.1, A.2.2.2.1⟩
theorem v_zret {v : Int32} {ty : FieldType} (hr : M.2.2.2.1 = some ty) (hn : narrow ty (.int v) = .int v) (hd : decode M.2.1 pc = .ok (.ireturn, 1)) : V g M d rtI pc lv [.int v] (pu v) := by
  intro n0 k0 p l e R s m args below meth co C σ H locs cells slots ls r σ' A hP
  cases hP
  refine W.mono ?_ (W.zret (Qc := fun _ _ o t => o = .returned (some (.int v)) ∧ t.heap = H) (free := fun q => gB g ≤ q) C.1.1 C.1.2.1 (C.1.2.2.2.1.trans hr) hn (fun t ht _ => ⟨rfl, ht⟩) A.2.1 hd C.1.2.2.2.2.1)
  rintro t ⟨o, h1, h2, ⟨rfl, h3⟩, L, h4, h5⟩
  exact ⟨h1, h2, h4.2.1, by rw [h3]; exact A.1, L, cells, slots, h4.2.2, h5, A.2.2.1, A.2.2.2.1⟩
theorem v_zretV {v : Int32} (hr : M.2.2.2.1 = some .boolean) (hd : decode M.2.1 pc = .ok (.ireturn, 1)) : V g M d rtI pc lv [.int v] (rz v) := by
  unfold rz
  refine V.ite (fun h => ?_) (fun _ => V.vain)
  rcases h with rfl | rfl
  · exact v_zret hr rfl hd
  · exact v_zret hr rfl hd
theorem v_return (hr : M.2.2.2.1 = none) (hd : decode M.2.1 pc = .ok (.return_, 1)) : V g M d rtU pc lv [] (pu ()) := by
  intro n0 k0 p l e R s m args below meth co C σ H locs cells slots ls r σ' A hP
  cases hP
  refine W.mono ?_ (W.vret (Qc := fun _ _ o t => o = .returned none ∧ t.heap = H) (free := fun q => gB g ≤ q) C.1.1 C.1.2.1 (C.1.2.2.2.1.trans hr) (fun t ht _ => ⟨rfl, ht⟩) A.2.1 hd C.1.2.2.2.2.1)
  rintro t ⟨o, h1, h2, ⟨rfl, h3⟩, L, h4, h5⟩
  exact ⟨h1, h2, h4.2.1, by rw [h3]; exact A.1, L, cells, slots, h4.2.2, h5, A.2.2.1, A.2.2.2.1⟩
-- constants
/-- a row that asks for the tables too -/
theorem V.stepC {st' : List Value} (h : ∀ (p : Program) (l : Launch) (e : Env) (R : Room) (s : State) (m : MethodId) (args : Array Value) (below : List Frame) (meth : Method) (c : Code) (H : Heap) (locs : List Loc) (cells slots : Nat) (Q : State → Prop) (ls : Array Slot), p.tables.exec = Jvm.exec → c.code = M.2.1 → s.vm.findClass M.1 = some m.cls → (∀ w ∈ TG, w.before args s = true) → gOK g l s →
      W p l e R s m args below meth c H locs cells slots Q (F0 m pc' ls st') → W p l e R s m args below meth c H locs cells slots Q (F0 m pc ls st))
    (k : V g M d rt pc' lv st' P) : V g M d rt pc lv st P := by
  intro n0 k0 p l e R s m args below meth c C σ H locs cells slots ls r σ' A hP
  exact h p l e R s m args below meth c H locs cells slots _ ls C.1.1 C.1.2.1 C.2.1 (Wds.at C.2.2.2.1) C.2.2.2.2.2.2 (k n0 k0 p l e R s m args below meth c C σ H locs cells slots ls r σ' A hP)
theorem v_ldc {idx : Nat} {v : Int32} (hc : Cond.constant M.1 idx v ∈ TG) (hd : decode M.2.1 pc = .ok (.ldc idx, 2)) (hp : pc + 2 = pc') (k : V g M d rt pc' lv (.int v :: st) P) : V g M d rt pc lv st P := by
  subst hp
  exact V.stepC (fun _ _ _ _ _ _ _ _ _ _ _ _ _ _ _ _ hx hb ho ht _ k => lv_ldc hx hb ho (ht _ hc) hd k) k
theorem v_ldcw {idx : Nat} {v : Int32} (hc : Cond.constant M.1 idx v ∈ TG) (hd : decode M.2.1 pc = .ok (.ldc_w idx, 3)) (hp : pc + 3 = pc') (k : V g M d rt pc' lv (.int v :: st) P) : V g M d rt pc lv st P := by
  subst hp
  exact V.stepC (fun _ _ _ _ _ _ _ _ _ _ _ _ _ _ _ _ hx hb ho ht _ k => lv_ldcw hx hb ho (ht _ hc) hd k) k
theorem v_ldc2 {idx : Nat} {v : Int64} (hc : Cond.constantLong M.1 idx v ∈ TG) (hd : decode M.2.1 pc = .ok (.ldc2_w idx, 3)) (hp : pc + 3 = pc') (k : V g M d rt pc' lv (.long v :: st) P) : V g M d rt pc lv st P := by
  subst hp
  exact V.stepC (fun _ _ _ _ _ _ _ _ _ _ _ _ _ _ _ _ hx hb ho ht _ k => lv_ldc2 hx hb ho (ht _ hc) hd k) k
theorem v_ldcS {idx : Nat} (i : Nat) (hs : ∀ l s, gOK g l s → vk_R M.1 idx (txt i) (gK g i) s) (hd : decode M.2.1 pc = .ok (.ldc idx, 2)) (hp : pc + 2 = pc') (k : V g M d rt pc' lv (.ref (gK g i) :: st) P) : V g M d rt pc lv st P := by
  subst hp
  exact V.stepC (fun _ l _ _ s _ _ _ _ _ _ _ _ _ _ _ hx hb ho _ hg k => va_ldcS hx hb ho (hs l s hg) hd k) k
theorem v_lcmp {x y : Int64} (hd : decode M.2.1 pc = .ok (.lcmp, 1)) (hp : pc + 1 = pc') (k : V g M d rt pc' lv (.int (lg_cmp x y) :: st) P) : V g M d rt pc lv (.long y :: .long x :: st) P := by
  subst hp
  exact V.step (fun _ _ _ _ _ _ _ _ _ _ _ _ _ _ _ _ hx hb _ k => W.lcmp hx hb hd k) k
-- the script
def sL (g : GW) (i : Int32) : Mo Int32 := if inN i (gS g).2.1 = true then pu ((gS g).2.2 i.toNatClampNeg) else fl
theorem v_slen (hd : decode M.2.1 pc = .ok (.arraylength, 1)) (hp : pc + 1 = pc') (k : V g M d rt pc' lv (.int (Int32.ofNat (gS g).2.1) :: st) P) : V g M d rt pc lv (.ref (gS g).1 :: st) P := by
  subst hp
  intro n0 k0 p l e R s m args below meth c C σ H locs cells slots ls r σ' A hP
  have hS : va_S (gF g) (gH g) H locs := ⟨by rw [A.1.1, A.1.2.2.1]; exact Nat.le_add_right _ _, fun q h1 _ => A.1.2.2.2.1 q (by rw [← A.1.2.2.1]; exact h1), A.2.1⟩
  exact va_slen C.1.1 C.1.2.1 C.2.2.2.2.2.2.2.2.2.1.1 (by rw [A.1.2.2.1]; exact C.2.2.2.2.2.2.2.2.2.1.2) (Nat.not_le.mpr C.2.2.2.2.2.2.2.2.2.1.2) hS hd (k n0 k0 p l e R s m args below meth c C σ H locs cells slots ls r σ' A hP)
theorem v_sld {i : Int32} {K : Int32 → Mo α} (hd : decode M.2.1 pc = .ok (.iaload, 1)) (hp : pc + 1 = pc') (kk : ∀ x, V g M d rt pc' lv (.int x :: st) (K x)) : V g M d rt pc lv (.int i :: .ref (gS g).1 :: st) (bd (sL g i) K) := by
  subst hp
  by_cases hin : inN i (gS g).2.1 = true
  · unfold sL
    rw [if_pos hin]
    intro n0 k0 p l e R s m args below meth c C σ H locs cells slots ls r σ' A hP
    have hS : va_S (gF g) (gH g) H locs := ⟨by rw [A.1.1, A.1.2.2.1]; exact Nat.le_add_right _ _, fun q h1 _ => A.1.2.2.2.1 q (by rw [← A.1.2.2.1]; exact h1), A.2.1⟩
    exact va_sld C.1.1 C.1.2.1 C.2.2.2.2.2.2.2.2.2.1.1 (by rw [A.1.2.2.1]; exact C.2.2.2.2.2.2.2.2.2.1.2) (Nat.not_le.mpr C.2.2.2.2.2.2.2.2.2.1.2) hS (inN_in hin) hd (kk _ n0 k0 p l e R s m args below meth c C σ H locs cells slots ls r σ' A hP)
  · unfold sL
    rw [if_neg hin]
    exact V.vain
-- switches
def VA (g : GW) (M : MI) (d : Nat) (rt : α → Option Value) (pc : Nat) (lv : List (Nat × Value)) (st : List Value) : List Int → List (Mo α) → Prop
  | [], [] => True
  | o :: os, B :: bs => (∃ t : Nat, (pc : Int) + o = t ∧ V g M d rt t lv st B) ∧ VA g M d rt pc lv st os bs
  | _, _ => False
theorem VA.get : ∀ {os : List Int} {bs : List (Mo α)}, VA g M d rt pc lv st os bs → ∀ (i : Nat) (B : Mo α), bs[i]? = some B → ∃ (o : Int) (t : Nat), os[i]? = some o ∧ (pc : Int) + o = t ∧ V g M d rt t lv st B
  | [], [], _, i, B, h => by simp at h
  | o :: os, b :: bs, h, 0, B, hB => by
    obtain ⟨⟨t, h1, h2⟩, -⟩ := h
    simp at hB
    subst hB
    exact ⟨o, t, rfl, h1, h2⟩
  | o :: os, b :: bs, h, i + 1, B, hB => by
    obtain ⟨o', t, h1, h2⟩ := VA.get h.2 i B (by simpa using hB)
    exact ⟨o', t, by simpa using h1, h2⟩
  | [], b :: bs, h, _, _, _ => h.elim
  | o :: os, [], h, _, _, _ => h.elim
theorem v_table {dflt lo hi : Int} {offs : Array Int} {len td : Nat} {x : Int32} {bs : List (Mo α)} {D : Mo α} (hd : decode M.2.1 pc = .ok (.tableswitch dflt lo hi offs, len)) (hlen : hi - lo + 1 = (bs.length : Int)) (htd : (pc : Int) + dflt = (td : Int)) (hb : VA g M d rt pc lv st offs.toList bs) (kd : V g M d rt td lv st D) : V g M d rt pc lv (.int x :: st) (sw x lo bs D) := by
  unfold sw
  by_cases h1 : x.toInt < lo
  · rw [if_pos h1]
    exact V.step (fun _ _ _ _ _ _ _ _ _ _ _ _ _ _ _ _ hx hb _ k => lv_tableOut hx hb hd (Or.inl h1) htd k) kd
  · rw [if_neg h1]
    by_cases h2 : hi < x.toInt
    · rw [List.getElem?_eq_none (by omega)]
      exact V.step (fun _ _ _ _ _ _ _ _ _ _ _ _ _ _ _ _ hx hb _ k => lv_tableOut hx hb hd (Or.inr h2) htd k) kd
    · obtain ⟨B, hB⟩ : ∃ B, bs[(x.toInt - lo).toNat]? = some B := ⟨_, List.getElem?_eq_getElem (by omega)⟩
      obtain ⟨o, t, e1, e2, e3⟩ := hb.get _ B hB
      rw [hB]
      exact V.step (fun _ _ _ _ _ _ _ _ _ _ _ _ _ _ _ _ hx hb _ k => lv_tableIn hx hb hd h1 h2 (by rw [← Array.getElem?_toList]; exact e1) e2 k) e3
end VG3
