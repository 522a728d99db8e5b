def gS (g : GW) : Nat × Nat × (Nat → Int32) := g.2.2.2.2.1
def gK (g : GW) : Nat → Nat := fun i => g.2.2.2.2.2 (2 * i)
def gV (g : GW) : Nat → Nat := fun i => g.2.2.2.2.2 (2 * i + 1)
def gF (g : GW) : Nat → Prop := fun q => gB g ≤ q
def stI (t : String) : List Int32 := t.toList.map (fun c => Int32.ofNat c.toNat)
def txt (i : Nat) : String := match i with
  | 0 => "person shy like"
  | 1 => "face temper mood sitter own year taken hall least most"
  | 2 => "take mood burn year again"
  | 3 => "no such person, plate or hall"
  | _ => "no such argument"
def byL : List (List Int32) := [stI (txt 0), stI (txt 1), stI (txt 2), stI (txt 3), stI (txt 4)]
def leL : List Nat := [15, 54, 25, 29, 16]
/-- the tables hold the class of rows of ints -/
def AOg (U : State) : Prop := (Cond.arrayOver (.array .int)).before #[] U = true
theorem AOg.spec {s : State} (h : AOg s) : ∃ comp c k, s.vm.findClass (FieldType.array .int).toString = some comp ∧ (s.vm.classes.findIdx? fun x => match x.kind with | .array component _ => component == comp | _ => false) = some c ∧ s.vm.classes[c]? = some k ∧ k.kind = .array comp (.array .int) ∧ s.vm.findClass ("[" ++ (FieldType.array .int).toString) = some c := by
  unfold AOg Cond.before at h
  simp only [Cond.holds, Cond.value, beq_iff_eq] at h
  cases hc : s.vm.findClass (FieldType.array .int).toString with
  | none => simp [hc] at h
  | some comp =>
    simp only [hc, Option.bind_some, Option.bind_eq_some_iff, Option.map_eq_some_iff] at h
    obtain ⟨c, hi, k, hk, hb⟩ := h
    obtain ⟨hlt, hp, -⟩ := Array.findIdx?_eq_some_iff_getElem.mp hi
    have hkk : s.vm.classes[c] = k := (Array.getElem?_eq_some_iff.mp hk).2
    rw [hkk] at hp
    cases hkind : k.kind with
    | array component ty =>
      rw [hkind] at hb hp
      simp at hb hp
      exact ⟨comp, c, k, rfl, hi, hk, by rw [hkind, hp, hb.1], hb.2⟩
    | _ => rw [hkind] at hb; simp at hb
theorem AOg.moved {u U : State} (hvm : u.vm.Alike U.vm) (h : AOg u) : AOg U := by
  obtain ⟨comp, c, k, h1, h2, h3, h4, h5⟩ := AOg.spec h
  obtain ⟨k', hk', he⟩ := hvm.2.2 _ _ h3
  have hi : (U.vm.classes.findIdx? fun (x : Class) => match x.kind with | .array component _ => component == comp | _ => false) = some c := by
    have e1 := va_idx_bare U.vm comp
    have e2 := va_idx_bare u.vm comp
    first | rw [hvm.bare_eq] at e1 | rw [← hvm.bare_eq] at e1
    exact e1.symm.trans (e2.trans h2)
  have hkind : k'.kind = .array comp (.array .int) := by rw [he]; exact h4
  have f1 : U.vm.findClass (FieldType.array .int).toString = some comp := by rw [hvm.findClass]; exact h1
  have f2 : U.vm.findClass ("[" ++ (FieldType.array .int).toString) = some c := by rw [hvm.findClass]; exact h5
  unfold AOg Cond.before Cond.holds
  simp only [Cond.value]
  rw [f1, Option.bind_some]
  refine (congrArg (fun o : Option Nat => (o.bind (fun c => (U.vm.classes[c]?).map fun (k : Class) => match k.kind with | .array _ ty => decide (ty = FieldType.array .int) && decide (U.vm.findClass ("[" ++ (FieldType.array .int).toString) = some c) | _ => false) == some true)) hi).trans ?_
  simp [hk', hkind, f2]
/-- words that look at members and classes, no entry -/
def FAW : List Cond := [.declares (Bundle.initS "java/lang/RuntimeException"), .declares (Bundle.initS "java/lang/Exception"), .declares (Bundle.initS Bundle.tN), .castable RNSE RNSE, .castable RIAE RIAE]
def Fa (s : State) : Prop := ∀ w ∈ FAW, w.before #[] s = true
theorem FAW_face : ∀ w ∈ FAW, w.keepsFace = true := by decide
theorem Fa.warm {s U : State} (hW : s.WarmedH U.vm) (h : Fa s) : Fa U := by
  intro w hw
  have h1 : w.before #[] (s.setVm U.vm) = true := Cond.before_shiftedFace (State.Shifted.of_warmed hW) w (FAW_face w hw) (h w hw)
  simp only [FAW, List.mem_cons, List.not_mem_nil, or_false] at hw
  rcases hw with rfl | rfl | rfl | rfl | rfl <;> exact h1
/-- what is old, and stays -/
def gOK (g : GW) (l : Launch) (s : State) : Prop :=
  l.stackTraces = false ∧ vx_Zq Bundle.tN "UNASSIGNED_STACK" Bundle.steD (gF g) s (gH g) ∧ vx_Zq Bundle.tN "SUPPRESSED_SENTINEL" Bundle.listD (gF g) s (gH g) ∧
  (va_X (gS g).1 (gS g).2.1 (gS g).2.2 s (gH g) ∧ (gS g).1 < gB g) ∧
  (vk_R RX2 47 (txt 0) (gK g 0) s ∧ vk_R RX4 74 (txt 1) (gK g 1) s ∧ vk_R RX9 61 (txt 2) (gK g 2) s ∧ vk_R RX11 401 (txt 3) (gK g 3) s ∧ vk_R RX11 408 (txt 4) (gK g 4) s) ∧
  vk_S 5 leL byL (gK g) (gV g) (gF g) s (gH g) ∧ (va_Z "java/lang/String" "COMPACT_STRINGS" "Z" (.int 1) (gF g) s (gH g) ∧ va_Zq "jdk/internal/util/Preconditions" "SIOOBE_FORMATTER" "Ljava/util/function/BiFunction;" (gF g) s (gH g)) ∧ va_AO RX3 s ∧ (AOg s ∧ Fa s ∧ va_Nc RIAE RNSE s)
theorem gOK.warm {g : GW} {l : Launch} {s U : State} (hW : s.WarmedH U.vm) (h : gOK g l s) : gOK g l U := by
  obtain ⟨h1, h2, h3, ⟨h4, h5⟩, ⟨a0, a1, a2, a3, a4⟩, h6, h7, h8, h9⟩ := h
  exact ⟨h1, h2.moved hW.alike, h3.moved hW.alike, ⟨h4.moved hW.alike, h5⟩, ⟨vk_R.warm hW a0, vk_R.warm hW a1, vk_R.warm hW a2, vk_R.warm hW a3, vk_R.warm hW a4⟩, h6.moved hW.alike, ⟨h7.1.moved hW.alike, h7.2.moved hW.alike⟩, h8.moved hW.alike, ⟨h9.1.moved hW.alike, h9.2.1.warm hW, h9.2.2.moved hW.alike⟩⟩
/-- a method: its class, code, locals, what it returns, its name, its table of handlers -/
abbrev MI : Type := String × ByteArray × Nat × Option FieldType × String × List (Nat × Nat × Nat × Nat)
def xtab (c : Code) : List (Nat × Nat × Nat × Nat) := c.exceptionTable.toList.map (fun x => (x.startPc, x.endPc, x.handlerPc, x.catchType))
def Wds (s : State) : Prop := ∀ w ∈ lw_tbl, goodWord w = true → ∀ (a' : Array Value) (U : State), s.WarmedH U.vm → w.before a' U = true
/-- an invocation of the method M, d calls deep at most from there, n0 cells and k0 slots made before -/
def Cx (g : GW) (M : MI) (d n0 k0 : Nat) (p : Program) (l : Launch) (e : Env) (R : Room) (s : State) (m : MethodId) (args : Array Value) (below : List Frame) (meth : Method) (c : Code) : Prop :=
  (p.tables.exec = Jvm.exec ∧ c.code = M.2.1 ∧ c.maxLocals = M.2.2.1 ∧ meth.sig.returnType = M.2.2.2.1 ∧ meth.locks = false ∧ meth.name = M.2.2.2.2.1 ∧ xtab c = M.2.2.2.2.2) ∧
  s.vm.findClass M.1 = some m.cls ∧ va_K g.1 PCl (tyL g) s ∧ Wds s ∧
  (n0 + R.cells = CM ∧ k0 + R.slots = SM ∧ d ≤ R.frames ∧ 64 * d ≤ R.locals) ∧
  (s.heap.size = gB g + n0 ∧ (∀ q : Nat, q < gB g → s.heap[q]? = (gH g)[q]?) ∧ (gH g).size = gB g) ∧ gOK g l s
def oc {α : Type} (g : GW) (rt : α → Option Value) (r : α ⊕ (Nat × Nat)) : Outcome := match r with
  | .inl x => .returned (rt x)
  | .inr e => .threw (gB g + e.1)
/-- what a method has done at its end -/
def Fn {α : Type} (g : GW) (rt : α → Option Value) (n0 k0 : Nat) (s : State) (below : List Frame) (r : α ⊕ (Nat × Nat)) (σ' : PS) : State → Prop := fun t =>
  t.status = .running ∧ Ended t below (oc g rt r) ∧ s.WarmedH t.vm ∧ HR g σ' t.heap ∧
  ∃ (L : List Loc) (k n : Nat), s.sameButNew ({ t with vm := s.vm } : State) L k n ∧ (∀ q ∈ L, gB g ≤ q.base) ∧ k + n0 = σ'.1 ∧ n + k0 = σ'.2.1
/-- where the walk stands -/
def At0 (g : GW) (M : MI) (n0 k0 : Nat) (lv : List (Nat × Value)) (σ : PS) (H : Heap) (locs : List Loc) (cells slots : Nat) (ls : Array Slot) : Prop :=
  HR g σ H ∧ (∀ q ∈ locs, gB g ≤ q.base) ∧ cells + n0 = σ.1 ∧ slots + k0 = σ.2.1 ∧ lv_has ls M.2.2.1 lv
/-- THE JUDGEMENT: from pc, with these locals and this stack, the method does as the program P says -/
def V (g : GW) (M : MI) (d : Nat) {α : Type} (rt : α → Option Value) (pc : Nat) (lv : List (Nat × Value)) (st : List Value) (P : Mo α) : Prop :=
  ∀ (n0 k0 : Nat) (p : Program) (l : Launch) (e : Env) (R : Room) (s : State) (m : MethodId) (args : Array Value) (below : List Frame) (meth : Method) (c : Code), Cx g M d n0 k0 p l e R s m args below meth c →
    ∀ (σ : PS) (H : Heap) (locs : List Loc) (cells slots : Nat) (ls : Array Slot) (r : α ⊕ (Nat × Nat)) (σ' : PS), At0 g M n0 k0 lv σ H locs cells slots ls → P σ = some (r, σ') →
      W p l e R s m args below meth c H locs cells slots (Fn g rt n0 k0 s below r σ') (F0 m pc ls st)
def rtI (x : Int32) : Option Value := some (.int x)
def rtU (_ : Unit) : Option Value := none
section VL
variable {g : GW} {M : MI} {d : Nat} {α : Type} {rt : α → Option Value} {pc pc' : Nat} {lv : List (Nat × Value)} {st st' : List Value} {P : Mo α}
/-- a row that moves neither heap nor locals -/
theorem V.step (h : ∀ (p : Program) (l : Launch) (e : Env) (R : Room) (s : State) (m : MethodId) (args : Array Value) (below : List Frame) (meth : Method) (c : Code) (H : Heap) (locs : List Loc) (cells slots : Nat) (Q : State → Prop) (ls : Array Slot), p.tables.exec = Jvm.exec → c.code = M.2.1 → lv_has ls M.2.2.1 lv →
      W p l e R s m args below meth c H locs cells slots Q (F0 m pc' ls st') → W p l e R s m args below meth c H locs cells slots Q (F0 m pc ls st))
    (k : V g M d rt pc' lv st' P) : V g M d rt pc lv st P := by
  intro n0 k0 p l e R s m args below meth c C σ H locs cells slots ls r σ' A hP
  exact h p l e R s m args below meth c H locs cells slots _ ls C.1.1 C.1.2.1 A.2.2.2.2 (k n0 k0 p l e R s m args below meth c C σ H locs cells slots ls r σ' A hP)
/-- a row that names new locals -/
theorem V.stepL {lv' : List (Nat × Value)} (h : ∀ (p : Program) (l : Launch) (e : Env) (R : Room) (s : State) (m : MethodId) (args : Array Value) (below : List Frame) (meth : Method) (c : Code) (H : Heap) (locs : List Loc) (cells slots : Nat) (Q : State → Prop) (ls : Array Slot), p.tables.exec = Jvm.exec → c.code = M.2.1 → lv_has ls M.2.2.1 lv →
      (∀ ls' : Array Slot, lv_has ls' M.2.2.1 lv' → W p l e R s m args below meth c H locs cells slots Q (F0 m pc' ls' st')) → W p l e R s m args below meth c H locs cells slots Q (F0 m pc ls st))
    (k : V g M d rt pc' lv' st' P) : V g M d rt pc lv st P := by
  intro n0 k0 p l e R s m args below meth c C σ H locs cells slots ls r σ' A hP
  exact h p l e R s m args below meth c H locs cells slots _ ls C.1.1 C.1.2.1 A.2.2.2.2 (fun ls' h' => k n0 k0 p l e R s m args below meth c C σ H locs cells slots ls' r σ' ⟨A.1, A.2.1, A.2.2.1, A.2.2.2.1, h'⟩ hP)
/-- fewer locals are named -/
theorem V.sub {lv' : List (Nat × Value)} (ks : List Nat) (hl : lv_pick lv ks = lv') (k : V g M d rt pc lv' st P) : V g M d rt pc lv st P := by
  intro n0 k0 p l e R s m args below meth c C σ H locs cells slots ls r σ' A hP
  exact k n0 k0 p l e R s m args below meth c C σ H locs cells slots ls r σ' ⟨A.1, A.2.1, A.2.2.1, A.2.2.2.1, lv_sub A.2.2.2.2 ks hl⟩ hP
theorem V.vain : V g M d rt pc lv st (fl : Mo α) := by
  intro n0 k0 p l e R s m args below meth c C σ H locs cells slots ls r σ' A hP
  exact absurd (show (Option.none : Option ((α ⊕ (Nat × Nat)) × PS)) = some (r, σ') from hP) (fun h => nomatch h)
theorem V.ite {c : Prop} {dc : Decidable c} {A B : Mo α} (h1 : c → V g M d rt pc lv st A) (h2 : ¬ c → V g M d rt pc lv st B) : V g M d rt pc lv st (@ite _ c dc A B) := by
  by_cases h : c
  · rw [if_pos h]; exact h1 h
  · rw [if_neg h]; exact h2 h
end VL
