/-- a method of the class C, called with n arguments beside the receiver -/
def MV (y : MethodName) (M : MI) (C : String) (n : Nat) : Prop := MF y M ∧ M.2.2.2.2.2 = [] ∧ Cond.code y M.2.1 M.2.2.1 M.2.2.2.1 ∈ TG ∧ Cond.instanceMethod y ∈ TG ∧ Cond.selects C y y ∈ TG ∧ ∀ sig, parseMethodDescriptor y.desc = some sig → n = sig.parameters.length
def MS (y : MethodName) (M : MI) (n : Nat) : Prop := MF y M ∧ M.2.2.2.2.2 = [] ∧ Cond.code y M.2.1 M.2.2.1 M.2.2.2.1 ∈ TG ∧ Cond.static y ∈ TG ∧ Cond.initialized y.cls ∈ TG ∧ ∀ sig, parseMethodDescriptor y.desc = some sig → n = sig.parameters.length
def MN (y : MethodName) (M : MI) (n : Nat) : Prop := MF y M ∧ M.2.2.2.1 = none ∧ Cond.code y M.2.1 M.2.2.1 none ∈ TG ∧ Cond.instanceMethod y ∈ TG ∧ y.name = "<init>" ∧ ∀ sig, parseMethodDescriptor y.desc = some sig → n = sig.parameters.length
/-- a constructor does not throw -/
def ni {α : Type} (F : Mo α) : Mo α := fun σ => match F σ with
  | some (.inl x, σ') => some (.inl x, σ')
  | _ => none
theorem ni_spec {α : Type} {F : Mo α} {σ σ' : PS} {r : α ⊕ (Nat × Nat)} (h : ni F σ = some (r, σ')) : ∃ x, r = .inl x ∧ F σ = some (.inl x, σ') := by
  unfold ni at h
  split at h
  · cases h
    exact ⟨_, rfl, by assumption⟩
  · exact absurd h (by simp)
theorem noHand {c : Code} (h : xtab c = []) {pc : Nat} : ∀ x ∈ c.exceptionTable.toList, covers x pc = false := by
  intro x hx
  unfold xtab at h
  rw [List.map_eq_nil_iff] at h
  rw [h] at hx
  exact absurd hx (by simp)
section VC
variable {g : GW} {M M' : MI} {d d' : Nat} {α β : Type} {rt : α → Option Value} {rt' : β → Option Value} {pc pc' : Nat} {lv : List (Nat × Value)} {st : List Value}
/-- where the callee has thrown and nobody catches it here -/
theorem leaves {n0 k0 : Nat} {p : Program} {l : Launch} {e : Env} {R : Room} {s : State} {m : MethodId} {args : Array Value} {below : List Frame} {meth : Method} {co : Code} (C : Cx g M d n0 k0 p l e R s m args below meth co) (hh : M.2.2.2.2.2 = [])
    {T : State} {locs : List Loc} {cells slots : Nat} (X : Stand p l e R s m args below meth co T locs cells slots) {σ1 : PS} (hH : HR g σ1 T.heap) (hlo : ∀ q ∈ locs, gB g ≤ q.base) (h1 : cells + n0 = σ1.1) (h2 : slots + k0 = σ1.2.1) {ls : Array Slot} {x : Nat × Nat} :
    ∃ t, Steps p.tables e below ((T.setTop (F0 m pc ls st)).pushFrame (.throwing (gB g + x.1))) t ∧ Fn g rt n0 k0 s below (.inr x) σ1 t := by
  obtain ⟨st1, hrun, hend, hW, hsm⟩ := X.leaveThrown (gB g + x.1) (g := F0 m pc ls st) rfl rfl rfl (noHand (C.1.2.2.2.2.2.2.trans hh)) C.1.2.2.2.2.1
  exact ⟨_, st1, hrun, hend, hW, hH, locs, cells, slots, hsm, hlo, h1, h2⟩
theorem v_callV {y : MethodName} {idx ci a : Nat} {q : vw_C} {vs : List Value} {F : Mo β} {K : β → Mo α} (hV : V g M' d' rt' 0 (lv_args 0 (rf g a :: vs)) [] F) (hM : MV y M' q.1 vs.length) (hlink : Cond.methodLink M.1 idx y ∈ TG) (hc : PCl[ci]? = some q) (hsl : (lg_sl (rf g a :: vs)).length ≤ M'.2.2.1) (hdd : d' + 1 ≤ d) (hL : M'.2.2.1 ≤ 37) (hst : (st.map fun v => v.category).sum ≤ 16) (hh : M.2.2.2.2.2 = []) (hd : decode M.2.1 pc = .ok (.invokevirtual idx, 3)) (hp : pc + 3 = pc')
    (kk : ∀ x, V g M d rt pc' lv ((rt' x).toList ++ st) (K x)) : V g M d rt pc lv (vs.reverse ++ rf g a :: st) (bd (cv ci a F) K) := by
  intro n0 k0 p l e R s m args below meth co C σ H locs cells slots ls r σ' A hP
  subst hp
  have hts := Wds.at (args := args) C.2.2.2.1
  have run : ∀ (r1 : β ⊕ (Nat × Nat)) (σ1 : PS), cv ci a F σ = some (r1, σ1) → ∀ T : State, T.heap = H → Stand p l e R s m args below meth co T locs cells slots →
      (∃ (v : Option Value) (B : Pt), Stand p l e R s m args below meth co B.U B.locs B.cells B.slots ∧ PostC g n0 k0 rt' r1 σ1 B #[] v B ∧ ∀ tg, Steps p.tables e below (B.U.setTop (F0 m (pc + 3) ls (v.toList ++ st))) tg → Steps p.tables e below (T.setTop (F0 m pc ls (vs.reverse ++ rf g a :: st))) tg) ∨
      (∃ (z : Addr) (B : Pt), Stand p l e R s m args below meth co B.U B.locs B.cells B.slots ∧ PostX g n0 k0 r1 σ1 B #[] z B ∧ Steps p.tables e below (T.setTop (F0 m pc ls (vs.reverse ++ rf g a :: st))) ((B.U.setTop (F0 m pc ls st)).pushFrame (.throwing z))) := by
    intro r1 σ1 hF T hT X
    obtain ⟨fs, ho, hF⟩ := cv_spec hF
    obtain ⟨ha, hm⟩ := ob_spec ho
    obtain ⟨cell, e1, e2, e3⟩ := va_recv (D := g.1) (ws := [(gB g + a, toE g (σ.2.2 a))]) C.2.2.1 (va_P.one (A.1.2.1 a ha)) (ci := ci) (q0 := 0) hc (by rw [hm]; rfl)
    rcases vx_callV X C.1.1 (own := M.1) (C := q.1) (index := idx) (y := y) (bytes := M'.2.1) (maxL := M'.2.2.1) (ret := M'.2.2.2.1) C.2.1 (hts _ hlink) (hts _ hM.2.2.2.1) (hts _ hM.2.2.2.2.1) (hts _ hM.2.2.1) hM.1.1.2.2.2 (callee C hV hM.1 hsl hdd hL hF)
      (by rw [hT]; exact e1) e2 e3 (g := F0 m pc ls (vs.reverse ++ rf g a :: st)) rfl (A.2.2.2.2.1.trans C.1.2.2.1.symm) (argsL := vs) (rest := st) hM.2.2.2.2.2 rfl (by show 2 * 0 + _ ≤ 16; omega) (by rw [C.1.2.1]; exact hd)
      (fun vm₁ _ => ⟨rfl, by show HR g σ T.heap; rw [hT]; exact A.1, A.2.1, A.2.2.1, A.2.2.2.1⟩) with ⟨v, vm₁, B, -, XB, hpo, hgo⟩ | ⟨z, vm₁, B, -, XB, hpo, hgo⟩
    · exact Or.inl ⟨v, B, XB, hpo, hgo⟩
    · exact Or.inr ⟨z, B, XB, hpo, hgo⟩
  rcases bd_spec hP with ⟨x, σ1, h1, h2⟩ | ⟨x, h1, h2⟩
  · intro T hT X
    rcases run _ _ h1 T hT X with ⟨v, B, XB, ⟨⟨x', e1, e2⟩, b1, b2, b3, b4⟩, hgo⟩ | ⟨z, B, XB, ⟨⟨x', e1, -⟩, -⟩, -⟩
    · cases e1
      subst e2
      obtain ⟨t, a1, a2⟩ := kk x n0 k0 p l e R s m args below meth co C σ1 B.U.heap B.locs B.cells B.slots ls r σ' ⟨b1, b2, b3, b4, A.2.2.2.2⟩ h2 B.U rfl XB
      exact ⟨t, hgo t a1, a2⟩
    · cases e1
  · subst h2
    intro T hT X
    rcases run _ _ h1 T hT X with ⟨v, B, XB, ⟨⟨x', e1, -⟩, -⟩, -⟩ | ⟨z, B, XB, ⟨⟨x', e1, e2⟩, b1, b2, b3, b4⟩, hgo⟩
    · cases e1
    · cases e1
      subst e2
      obtain ⟨t, a1, a2⟩ := leaves (rt := rt) (pc := pc) (st := st) C hh XB b1 b2 b3 b4 (ls := ls) (x := x)
      exact ⟨t, hgo.trans a1, a2⟩
theorem v_callS {y : MethodName} {idx : Nat} {vs : List Value} {F : Mo β} {K : β → Mo α} (hV : V g M' d' rt' 0 (lv_args 0 vs) [] F) (hM : MS y M' vs.length) (hlink : Cond.methodLink M.1 idx y ∈ TG) (hsl : (lg_sl vs).length ≤ M'.2.2.1) (hdd : d' + 1 ≤ d) (hL : M'.2.2.1 ≤ 37) (hst : (st.map fun v => v.category).sum ≤ 16) (hh : M.2.2.2.2.2 = []) (hd : decode M.2.1 pc = .ok (.invokestatic idx, 3)) (hp : pc + 3 = pc')
    (kk : ∀ x, V g M d rt pc' lv ((rt' x).toList ++ st) (K x)) : V g M d rt pc lv (vs.reverse ++ st) (bd F K) := by
  intro n0 k0 p l e R s m args below meth co C σ H locs cells slots ls r σ' A hP
  subst hp
  have hts := Wds.at (args := args) C.2.2.2.1
  have run : ∀ (r1 : β ⊕ (Nat × Nat)) (σ1 : PS), F σ = some (r1, σ1) → ∀ T : State, T.heap = H → Stand p l e R s m args below meth co T locs cells slots →
      (∃ (v : Option Value) (B : Pt), Stand p l e R s m args below meth co B.U B.locs B.cells B.slots ∧ PostC g n0 k0 rt' r1 σ1 B #[] v B ∧ ∀ tg, Steps p.tables e below (B.U.setTop (F0 m (pc + 3) ls (v.toList ++ st))) tg → Steps p.tables e below (T.setTop (F0 m pc ls (vs.reverse ++ st))) tg) ∨
      (∃ (z : Addr) (B : Pt), Stand p l e R s m args below meth co B.U B.locs B.cells B.slots ∧ PostX g n0 k0 r1 σ1 B #[] z B ∧ Steps p.tables e below (T.setTop (F0 m pc ls (vs.reverse ++ st))) ((B.U.setTop (F0 m pc ls st)).pushFrame (.throwing z))) := by
    intro r1 σ1 hF T hT X
    rcases vx_callS X C.1.1 (own := M.1) (index := idx) (y := y) (bytes := M'.2.1) (maxL := M'.2.2.1) (ret := M'.2.2.2.1) C.2.1 (hts _ hlink) (hts _ hM.2.2.2.1) (hts _ hM.2.2.2.2.1) (hts _ hM.2.2.1) hM.1.1.2.2.2 (callee C hV hM.1 hsl hdd hL hF)
      (g := F0 m pc ls (vs.reverse ++ st)) rfl (A.2.2.2.2.1.trans C.1.2.2.1.symm) (argsL := vs) (rest := st) hM.2.2.2.2.2 rfl (by show 2 * 0 + _ ≤ 16; omega) (by rw [C.1.2.1]; exact hd)
      (fun vm₁ _ => ⟨rfl, by show HR g σ T.heap; rw [hT]; exact A.1, A.2.1, A.2.2.1, A.2.2.2.1⟩) with ⟨v, vm₁, B, -, XB, hpo, hgo⟩ | ⟨z, vm₁, B, -, XB, hpo, hgo⟩
    · exact Or.inl ⟨v, B, XB, hpo, hgo⟩
    · exact Or.inr ⟨z, B, XB, hpo, hgo⟩
  rcases bd_spec hP with ⟨x, σ1, h1, h2⟩ | ⟨x, h1, h2⟩
  · intro T hT X
    rcases run _ _ h1 T hT X with ⟨v, B, XB, ⟨⟨x', e1, e2⟩, b1, b2, b3, b4⟩, hgo⟩ | ⟨z, B, XB, ⟨⟨x', e1, -⟩, -⟩, -⟩
    · cases e1
      subst e2
      obtain ⟨t, a1, a2⟩ := kk x n0 k0 p l e R s m args below meth co C σ1 B.U.heap B.locs B.cells B.slots ls r σ' ⟨b1, b2, b3, b4, A.2.2.2.2⟩ h2 B.U rfl XB
      exact ⟨t, hgo t a1, a2⟩
    · cases e1
  · subst h2
    intro T hT X
    rcases run _ _ h1 T hT X with ⟨v, B, XB, ⟨⟨x', e1, -⟩, -⟩, -⟩ | ⟨z, B, XB, ⟨⟨x', e1, e2⟩, b1, b2, b3, b4⟩, hgo⟩
    · cases e1
    · cases e1
      subst e2
      obtain ⟨t, a1, a2⟩ := leaves (rt := rt) (pc := pc) (st := st) C hh XB b1 b2 b3 b4 (ls := ls) (x := x)
      exact ⟨t, hgo.trans a1, a2⟩
/-- a constructor -/
theorem v_callI {y : MethodName} {idx a : Nat} {vs : List Value} {F : Mo Unit} {K : Unit → Mo α} (hV : V g M' d' rtU 0 (lv_args 0 (rf g a :: vs)) [] F) (hM : MN y M' vs.length) (hlink : Cond.methodLink M.1 idx y ∈ TG) (hsl : (lg_sl (rf g a :: vs)).length ≤ M'.2.2.1) (hdd : d' + 1 ≤ d) (hL : M'.2.2.1 ≤ 37) (hst : (st.map fun v => v.category).sum ≤ 16) (hd : decode M.2.1 pc = .ok (.invokespecial idx, 3)) (hp : pc + 3 = pc')
    (kk : V g M d rt pc' lv st (K ())) : V g M d rt pc lv (vs.reverse ++ rf g a :: st) (bd (ni F) K) := by
  intro n0 k0 p l e R s m args below meth co C σ H locs cells slots ls r σ' A hP
  subst hp
  have hts := Wds.at (args := args) C.2.2.2.1
  rcases bd_spec hP with ⟨x, σ1, h1, h2⟩ | ⟨x, h1, h2⟩
  · obtain ⟨x', -, hF⟩ := ni_spec h1
    have hB : Back l R p e below s args y 3 16 (PreC g n0 k0 σ (rf g a :: vs)) (PostC g n0 k0 rtU (.inl x') σ1) := by
      intro m1 meth1 c1 A1 f1 ig mk a1 X1 hg hsize hdg hW hn hp
      rcases callee C hV hM.1 hsl hdd hL hF m1 meth1 c1 A1 f1 ig mk a1 X1 hg hsize hdg hW hn hp with h | ⟨z, B, -, ⟨⟨x9, e1, -⟩, -⟩, -⟩
      · exact h
      · cases e1
    intro T hT X
    obtain ⟨v, vm₁, B, -, XB, ⟨⟨x9, -, e2⟩, b1, b2, b3, b4⟩, hgo⟩ := callI X C.1.1 (own := M.1) (index := idx) (y := y) (bytes := M'.2.1) (maxL := M'.2.2.1) C.2.1 hM.2.2.2.2.1 (hts _ hlink) (hts _ hM.2.2.2.1) (hts _ hM.2.2.1) hM.1.1.2.2.2 hB
      (g := F0 m pc ls (vs.reverse ++ rf g a :: st)) rfl (A.2.2.2.2.1.trans C.1.2.2.1.symm) (a := gB g + a) (argsL := vs) (rest := st) hM.2.2.2.2.2 rfl (by show 2 * 0 + _ ≤ 16; omega) (by rw [C.1.2.1]; exact hd)
      (fun vm₁ _ => ⟨rfl, by show HR g σ T.heap; rw [hT]; exact A.1, A.2.1, A.2.2.1, A.2.2.2.1⟩)
    subst e2
    obtain ⟨t, a1, a2⟩ := kk n0 k0 p l e R s m args below meth co C σ1 B.U.heap B.locs B.cells B.slots ls r σ' ⟨b1, b2, b3, b4, A.2.2.2.2⟩ h2 B.U rfl XB
    exact ⟨t, hgo t a1, a2⟩
  · obtain ⟨x', e1, -⟩ := ni_spec h1
    cases e1
theorem v_objInit {idx a : Nat} {P : Mo α} (hlink : Cond.methodLink M.1 idx Lib.objectInit ∈ TG) (hinst : Cond.instanceMethod Lib.objectInit ∈ TG) (hcode : Cond.code Lib.objectInit ⟨#[0xb1]⟩ 1 none ∈ TG) (hdd : 1 ≤ d) (hst : (st.map fun v => v.category).sum ≤ 16) (hd : decode M.2.1 pc = .ok (.invokespecial idx, 3)) (hp : pc + 3 = pc') (kk : V g M d rt pc' lv st P) : V g M d rt pc lv (rf g a :: st) P := by
  intro n0 k0 p l e R s m args below meth co C σ H locs cells slots ls r σ' A hP
  subst hp
  have hts := Wds.at (args := args) C.2.2.2.1
  have hrm := C.2.2.2.2.1
  exact W.objInit C.1.1 C.1.2.1 C.2.1 (hts _ hlink) (hts _ hinst) (hts _ hcode) (g := F0 m pc ls (rf g a :: st)) rfl (A.2.2.2.2.1.trans C.1.2.2.1.symm) rfl hd (by omega) (by show 2 * 0 + _ + 12 ≤ _; omega) (kk n0 k0 p l e R s m args below meth co C σ H locs cells slots ls r σ' A hP)
end VC
