/-- a call whose throw is caught here: by the class of what was thrown -/
def tc {α β : Type} (m : Mo β) (K : β → Mo α) (Hn : Nat → Nat → Mo α) : Mo α := fun σ => match m σ with
  | none => none
  | some (.inl x, σ') => K x σ'
  | some (.inr e, σ') => (match ob e.2 e.1 σ' with
    | some _ => Hn e.2 e.1 σ'
    | none => none)
theorem tc_spec {α β : Type} {m : Mo β} {K : β → Mo α} {Hn : Nat → Nat → Mo α} {σ σ' : PS} {r : α ⊕ (Nat × Nat)} (h : tc m K Hn σ = some (r, σ')) : (∃ (x : β) (σ1 : PS), m σ = some (.inl x, σ1) ∧ K x σ1 = some (r, σ')) ∨ ∃ (e : Nat × Nat) (σ1 : PS) (fs : List Value), m σ = some (.inr e, σ1) ∧ ob e.2 e.1 σ1 = some fs ∧ Hn e.2 e.1 σ1 = some (r, σ') := by
  unfold tc at h
  split at h
  · exact absurd h (by simp)
  · exact Or.inl ⟨_, _, by assumption, h⟩
  · split at h
    · exact Or.inr ⟨_, _, _, by assumption, by assumption, h⟩
    · exact absurd h (by simp)
/-- the handlers of a method: NoSuchElementException, IllegalArgumentException -/
def HT (M : MI) (pc : Nat) (c h : Nat) : Prop := (c = 13 ∧ ∃ (s e i : Nat) (r : List (Nat × Nat × Nat × Nat)), M.2.2.2.2.2 = (s, e, h, i) :: r ∧ (s ≤ pc ∧ pc < e) ∧ i ≠ 0 ∧ Cond.classLink M.1 i RNSE ∈ TG) ∨
  (c = 14 ∧ ∃ (s e i : Nat) (r : List (Nat × Nat × Nat × Nat)), M.2.2.2.2.2 = (s, e, h, i) :: r ∧ (s ≤ pc ∧ pc < e) ∧ i ≠ 0 ∧ Cond.classLink M.1 i RIAE ∈ TG) ∨
  (c = 14 ∧ ∃ (s e i s2 e2 h2 i2 : Nat) (r : List (Nat × Nat × Nat × Nat)), M.2.2.2.2.2 = (s2, e2, h2, i2) :: (s, e, h, i) :: r ∧ (s ≤ pc ∧ pc < e) ∧ i ≠ 0 ∧ Cond.classLink M.1 i RIAE ∈ TG ∧ i2 ≠ 0 ∧ Cond.classLink M.1 i2 RNSE ∈ TG)
theorem xtab1 {c : Code} {s e h i : Nat} {r : List (Nat × Nat × Nat × Nat)} (hx : xtab c = (s, e, h, i) :: r) : ∃ (x : ExceptionTableEntry) (suf : List ExceptionTableEntry), c.exceptionTable.toList = x :: suf ∧ x.startPc = s ∧ x.endPc = e ∧ x.handlerPc = h ∧ x.catchType = i ∧ suf.map (fun x => (x.startPc, x.endPc, x.handlerPc, x.catchType)) = r := by
  unfold xtab at hx
  match hl : c.exceptionTable.toList, hx with
  | x :: suf, hx =>
    simp only [List.map_cons, List.cons.injEq, Prod.mk.injEq] at hx
    exact ⟨x, suf, rfl, hx.1.1, hx.1.2.1, hx.1.2.2.1, hx.1.2.2.2, hx.2⟩
  | [], hx => simp at hx
theorem cov {x : ExceptionTableEntry} {pc : Nat} (h : x.startPc ≤ pc ∧ pc < x.endPc) : covers x pc = true := by simp [covers, h.1, h.2]
section VCH
variable {g : GW} {M M' : MI} {d d' : Nat} {α β : Type} {rt : α → Option Value} {rt' : β → Option Value} {pc pc' : Nat} {lv : List (Nat × Value)} {st : List Value}
theorem caught {n0 k0 : Nat} {p : Program} {l : Launch} {e : Env} {R : Room} {s : State} {m : MethodId} {args : Array Value} {below : List Frame} {meth : Method} {co : Code} (C : Cx g M d n0 k0 p l e R s m args below meth co) {c h a : Nat} (hT : HT M pc c h) {σ : PS} {fs : List Value} (ho : ob c a σ = some fs) {H : Heap} {locs : List Loc} {cells slots : Nat} {ls : Array Slot} (A : At0 g M n0 k0 lv σ H locs cells slots ls) {Q : State → Prop}
    (kk : W p l e R s m args below meth co H locs cells slots Q (F0 m h ls [rf g a])) : vx_W p l e R s m args below meth co H locs cells slots Q (F0 m pc ls st) (gB g + a) := by
  obtain ⟨ha, hm⟩ := ob_spec ho
  have hts := Wds.at (args := args) C.2.2.2.1
  have hF := C.2.2.2.2.2.2.2.2.2.2.2.2.2.2.2.1.at args
  obtain ⟨q, q1, ce, q2, q3, q4, -⟩ := A.1.cell ha hm
  have hxt := C.1.2.2.2.2.2.2
  rcases hT with ⟨rfl, s1, e1, i1, r1, h1, h2, h3, h4⟩ | ⟨rfl, s1, e1, i1, r1, h1, h2, h3, h4⟩ | ⟨rfl, s1, e1, i1, s2, e2, hh2, i2, r1, h1, h2, h3, h4, h5, h6⟩
  · cases q1
    obtain ⟨x, suf, b1, b2, b3, b4, b5, -⟩ := xtab1 (hxt.trans h1)
    subst b2; subst b3; subst b4; subst b5
    exact vx_catch (E := RNSE) (name := RNSE) C.2.1 [] x suf b1 (fun z hz => nomatch hz) (cov h2) h3 (hts _ h4) (hF _ (by simp [FAW])) q2 q4 (by rw [q3]; exact (C.2.2.1.1 13 _ rfl).2.1) kk
  · cases q1
    obtain ⟨x, suf, b1, b2, b3, b4, b5, -⟩ := xtab1 (hxt.trans h1)
    subst b2; subst b3; subst b4; subst b5
    exact vx_catch (E := RIAE) (name := RIAE) C.2.1 [] x suf b1 (fun z hz => nomatch hz) (cov h2) h3 (hts _ h4) (hF _ (by simp [FAW])) q2 q4 (by rw [q3]; exact (C.2.2.1.1 14 _ rfl).2.1) kk
  · cases q1
    obtain ⟨x2, suf2, b1, b2, b3, b4, b5, b6⟩ := xtab1 (hxt.trans h1)
    match suf2, b6 with
    | x :: suf, b6 =>
      simp only [List.map_cons, List.cons.injEq, Prod.mk.injEq] at b6
      obtain ⟨⟨c2, c3, c4, c5⟩, -⟩ := b6
      subst c2; subst c3; subst c4; subst c5
      exact vx_catch (E := RIAE) (name := RIAE) C.2.1 [x2] x suf b1 (fun z hz => by
        rw [List.mem_singleton.mp hz]
        exact Or.inr ⟨by rw [b5]; exact h5, RNSE, by rw [b5]; exact hts _ h6, C.2.2.2.2.2.2.2.2.2.2.2.2.2.2.2.2⟩) (cov h2) h3 (hts _ h4) (hF _ (by simp [FAW])) q2 q4 (by rw [q3]; exact (C.2.2.1.1 14 _ rfl).2.1) kk
theorem v_callH {y : MethodName} {idx ci a : Nat} {q : vw_C} {vs : List Value} {F : Mo β} {K : β → Mo α} {Hn : Nat → Nat → Mo α} (hV : V g M' d' rt' 0 (lv_args 0 (rf g a :: vs)) [] F) (hM : MV y M' q.1 vs.length) (hlink : Cond.methodLink M.1 idx y ∈ TG) (hc : PCl[ci]? = some q) (hsl : (lg_sl (rf g a :: vs)).length ≤ M'.2.2.1) (hdd : d' + 1 ≤ d) (hL : M'.2.2.1 ≤ 37) (hst : (st.map fun v => v.category).sum ≤ 16) (hd : decode M.2.1 pc = .ok (.invokevirtual idx, 3)) (hp : pc + 3 = pc')
    (kk : ∀ x, V g M d rt pc' lv ((rt' x).toList ++ st) (K x)) (kh : ∀ c b : Nat, (∃ h, HT M pc c h ∧ V g M d rt h lv [rf g b] (Hn c b)) ∨ Hn c b = fl) : V g M d rt pc lv (vs.reverse ++ rf g a :: st) (tc (cv ci a F) K Hn) := by
  intro n0 k0 p l e R s m args below meth co C σ H locs cells slots ls r σ' A hP
  subst hp
  have hts := Wds.at (args := args) C.2.2.2.1
  have run : ∀ (r1 : β ⊕ (Nat × Nat)) (σ1 : PS), cv ci a F σ = some (r1, σ1) → ∀ T : State, T.heap = H → Stand p l e R s m args below meth co T locs cells slots →
      (∃ (v : Option Value) (B : Pt), Stand p l e R s m args below meth co B.U B.locs B.cells B.slots ∧ PostC g n0 k0 rt' r1 σ1 B #[] v B ∧ ∀ tg, Steps p.tables e below (B.U.setTop (F0 m (pc + 3) ls (v.toList ++ st))) tg → Steps p.tables e below (T.setTop (F0 m pc ls (vs.reverse ++ rf g a :: st))) tg) ∨
      (∃ (z : Addr) (B : Pt), Stand p l e R s m args below meth co B.U B.locs B.cells B.slots ∧ PostX g n0 k0 r1 σ1 B #[] z B ∧ Steps p.tables e below (T.setTop (F0 m pc ls (vs.reverse ++ rf g a :: st))) ((B.U.setTop (F0 m pc ls st)).pushFrame (.throwing z))) := by
    intro r1 σ1 hF T hT X
    obtain ⟨fs, ho, hF⟩ := cv_spec hF
    obtain ⟨ha, hm⟩ := ob_spec ho
    obtain ⟨cell, e1, e2, e3⟩ := va_recv (D := g.1) (ws := [(gB g + a, toE g (σ.2.2 a))]) C.2.2.1 (va_P.one (A.1.2.1 a ha)) (ci := ci) (q0 := 0) hc (by rw [hm]; rfl)
    rcases vx_callV X C.1.1 (own := M.1) (C := q.1) (index := idx) (y := y) (bytes := M'.2.1) (maxL := M'.2.2.1) (ret := M'.2.2.2.1) C.2.1 (hts _ hlink) (hts _ hM.2.2.2.1) (hts _ hM.2.2.2.2.1) (hts _ hM.2.2.1) hM.1.1.2.2.2 (callee C hV hM.1 hsl hdd hL hF)
      (by rw [hT]; exact e1) e2 e3 (g := F0 m pc ls (vs.reverse ++ rf g a :: st)) rfl (A.2.2.2.2.1.trans C.1.2.2.1.symm) (argsL := vs) (rest := st) hM.2.2.2.2.2 rfl (by show 2 * 0 + _ ≤ 16; omega) (by rw [C.1.2.1]; exact hd)
      (fun vm₁ _ => ⟨rfl, by show HR g σ T.heap; rw [hT]; exact A.1, A.2.1, A.2.2.1, A.2.2.2.1⟩) with ⟨v, vm₁, B, -, XB, hpo, hgo⟩ | ⟨z, vm₁, B, -, XB, hpo, hgo⟩
    · exact Or.inl ⟨v, B, XB, hpo, hgo⟩
    · exact Or.inr ⟨z, B, XB, hpo, hgo⟩
  rcases tc_spec hP with ⟨x, σ1, h1, h2⟩ | ⟨x, σ1, fs, h1, h2, h3⟩
  · intro T hT X
    rcases run _ _ h1 T hT X with ⟨v, B, XB, ⟨⟨x', e1, e2⟩, b1, b2, b3, b4⟩, hgo⟩ | ⟨z, B, XB, ⟨⟨x', e1, -⟩, -⟩, -⟩
    · cases e1
      subst e2
      obtain ⟨t, a1, a2⟩ := kk x n0 k0 p l e R s m args below meth co C σ1 B.U.heap B.locs B.cells B.slots ls r σ' ⟨b1, b2, b3, b4, A.2.2.2.2⟩ h2 B.U rfl XB
      exact ⟨t, hgo t a1, a2⟩
    · cases e1
  · intro T hT X
    rcases run _ _ h1 T hT X with ⟨v, B, XB, ⟨⟨x', e1, -⟩, -⟩, -⟩ | ⟨z, B, XB, ⟨⟨x', e1, e2⟩, b1, b2, b3, b4⟩, hgo⟩
    · cases e1
    · cases e1
      subst e2
      rcases kh x.2 x.1 with ⟨hpc, hT9, kv⟩ | h9
      · have A1 : At0 g M n0 k0 lv σ1 B.U.heap B.locs B.cells B.slots ls := ⟨b1, b2, b3, b4, A.2.2.2.2⟩
        obtain ⟨t, a1, a2⟩ := caught (pc := pc) (st := st) C hT9 h2 A1 (kv n0 k0 p l e R s m args below meth co C σ1 B.U.heap B.locs B.cells B.slots ls r σ' A1 h3) B.U rfl XB
        exact ⟨t, hgo.trans a1, a2⟩
      · rw [h9] at h3
        exact absurd (show (Option.none : Option ((α ⊕ (Nat × Nat)) × PS)) = some (r, σ') from h3) (fun h => nomatch h)
/-- a static method with handlers -/
def MX (y : MethodName) (M : MI) (n : Nat) : Prop := MF y M ∧ Cond.codeWith y M.2.1 M.2.2.1 M.2.2.2.1 M.2.2.2.2.2 ∈ TG ∧ Cond.static y ∈ TG ∧ Cond.initialized y.cls ∈ TG ∧ ∀ sig, parseMethodDescriptor y.desc = some sig → n = sig.parameters.length
theorem v_callX {y : MethodName} {idx : Nat} {vs : List Value} {F : Mo β} {K : β → Mo α} (hV : V g M' d' rt' 0 (lv_args 0 vs) [] F) (hM : MX y M' vs.length) (hlink : Cond.methodLink M.1 idx y ∈ TG) (hsl : (lg_sl vs).length ≤ M'.2.2.1) (hdd : d' + 1 ≤ d) (hL : M'.2.2.1 ≤ 37) (hst : (st.map fun v => v.category).sum ≤ 16) (hh : M.2.2.2.2.2 = []) (hd : decode M.2.1 pc = .ok (.invokestatic idx, 3)) (hp : pc + 3 = pc')
    (kk : ∀ x, V g M d rt pc' lv ((rt' x).toList ++ st) (K x)) : V g M d rt pc lv (vs.reverse ++ st) (bd F K) := by
  intro n0 k0 p l e R s m args below meth co C σ H locs cells slots ls r σ' A hP
  subst hp
  have hts := Wds.at (args := args) C.2.2.2.1
  have run : ∀ (r1 : β ⊕ (Nat × Nat)) (σ1 : PS), F σ = some (r1, σ1) → ∀ T : State, T.heap = H → Stand p l e R s m args below meth co T locs cells slots →
      (∃ (v : Option Value) (B : Pt), Stand p l e R s m args below meth co B.U B.locs B.cells B.slots ∧ PostC g n0 k0 rt' r1 σ1 B #[] v B ∧ ∀ tg, Steps p.tables e below (B.U.setTop (F0 m (pc + 3) ls (v.toList ++ st))) tg → Steps p.tables e below (T.setTop (F0 m pc ls (vs.reverse ++ st))) tg) ∨
      (∃ (z : Addr) (B : Pt), Stand p l e R s m args below meth co B.U B.locs B.cells B.slots ∧ PostX g n0 k0 r1 σ1 B #[] z B ∧ Steps p.tables e below (T.setTop (F0 m pc ls (vs.reverse ++ st))) ((B.U.setTop (F0 m pc ls st)).pushFrame (.throwing z))) := by
    intro r1 σ1 hF T hT X
    rcases vx_callSX X C.1.1 (own := M.1) (index := idx) (y := y) (bytes := M'.2.1) (maxL := M'.2.2.1) (ret := M'.2.2.2.1) (hh := M'.2.2.2.2.2) C.2.1 (hts _ hlink) (hts _ hM.2.2.1) (hts _ hM.2.2.2.1) (hts _ hM.2.1) hM.1.1.2.2.2 (callee C hV hM.1 hsl hdd hL hF)
      (g := F0 m pc ls (vs.reverse ++ st)) rfl (A.2.2.2.2.1.trans C.1.2.2.1.symm) (argsL := vs) (rest := st) hM.2.2.2.2 rfl (by show 2 * 0 + _ ≤ 16; omega) (by rw [C.1.2.1]; exact hd)
      (fun vm₁ _ => ⟨rfl, by show HR g σ T.heap; rw [hT]; exact A.1, A.2.1, A.2.2.1, A.2.2.2.1⟩) with ⟨v, vm₁, B, -, XB, hpo, hgo⟩ | ⟨z, vm₁, B, -, XB, hpo, hgo⟩
    · exact Or.inl ⟨v, B, XB, hpo, hgo⟩
    · exact Or.inr ⟨z, B, XB, hpo, hgo⟩
  rcases bd_spec hP with ⟨x, σ1, h1, h2⟩ | ⟨x, h1, h2⟩
  · intro T hT X
    rcases run _ _ h1 T hT X with ⟨v, B, XB, ⟨⟨x', e1, e2⟩, b1, b2, b3, b4⟩, hgo⟩ | ⟨z, B, XB, ⟨⟨x', e1, -⟩, -⟩, -⟩
    · cases e1
      subst e2
      obtain ⟨t, a1, a2⟩ := kk x n0 k0 p l e R s m args below meth co C σ1 B.U.heap B.locs B.cells B.slots ls r σ' ⟨b1, b2, b3, b4, A.2.2.2.2⟩ h2 B.U rfl XB
      exact ⟨t, hgo t a1, a2⟩
    · cases e1
  · subst h2
    intro T hT X
    rcases run _ _ h1 T hT X with ⟨v, B, XB, ⟨⟨x', e1, -⟩, -⟩, -⟩ | ⟨z, B, XB, ⟨⟨x', e1, e2⟩, b1, b2, b3, b4⟩, hgo⟩
    · cases e1
    · cases e1
      subst e2
      obtain ⟨t, a1, a2⟩ := leaves (rt := rt) (pc := pc) (st := st) C hh XB b1 b2 b3 b4 (ls := ls) (x := x)
      exact ⟨t, hgo.trans a1, a2⟩
end VCH
