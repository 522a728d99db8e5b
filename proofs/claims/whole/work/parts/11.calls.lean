/-- a method that can be called: its words -/
def MF (y : MethodName) (M : MI) : Prop := (plainFor y = true ∧ y.cls = M.1 ∧ y.name = M.2.2.2.2.1 ∧ y.cls ≠ "java/lang/invoke/MethodHandle" ∧ y.cls ≠ "java/lang/invoke/VarHandle") ∧ ((M.2.2.2.2.2 = [] ∧ Cond.code y M.2.1 M.2.2.1 M.2.2.2.1 ∈ TG) ∨ Cond.codeWith y M.2.1 M.2.2.1 M.2.2.2.1 M.2.2.2.2.2 ∈ TG) ∧ Cond.initialized M.1 ∈ TG
theorem MF.spec {y : MethodName} {M : MI} (h : MF y M) {U : State} (hw : ∀ w ∈ TG, w.before #[] U = true) {mk : MethodId} (hn : U.methodNamed? y = some mk) : ∃ meth c, U.vm.method? mk = some meth ∧ meth.code = some c ∧ c.code = M.2.1 ∧ c.maxLocals = M.2.2.1 ∧ meth.sig.returnType = M.2.2.2.1 ∧ meth.locks = false ∧ xtab c = M.2.2.2.2.2 ∧ parseMethodDescriptor y.desc = some meth.sig := by
  rcases h.2.1 with ⟨h0, h1⟩ | h1
  · obtain ⟨meth, c, a1, a2, a3, a4, a5, a6, a7, a8⟩ := Cond.code_spec hn (hw _ h1)
    refine ⟨meth, c, a1, a2, a3, a4, a5, a6, ?_, a8⟩
    rw [h0]
    unfold xtab
    have : c.exceptionTable = #[] := by simpa using a7
    rw [this]
    rfl
  · obtain ⟨m', meth, c, a0, a1, a2, a3, a4, a5, a6, a7, a8⟩ := Cond.codeWith_spec (hw _ h1)
    cases Option.some.inj (a0.symm.trans hn)
    exact ⟨meth, c, a1, a2, a3, a4, a6, a7, a5, a8⟩
theorem Wds.on {s U : State} (h : Wds s) (hW : s.WarmedH U.vm) : Wds U := fun w hw hg a' U' hW' => h w hw hg a' U' (State.WarmedH.trans hW hW')
def PreC (g : GW) (n0 k0 : Nat) (σ : PS) (vs : List Value) : Pt → Array Value → Prop := fun A a => a = vs.toArray ∧ HR g σ A.U.heap ∧ (∀ q ∈ A.locs, gB g ≤ q.base) ∧ A.cells + n0 = σ.1 ∧ A.slots + k0 = σ.2.1
def PostC {α : Type} (g : GW) (n0 k0 : Nat) (rt : α → Option Value) (r : α ⊕ (Nat × Nat)) (σ1 : PS) : Pt → Array Value → Option Value → Pt → Prop := fun _ _ v B => (∃ x, r = .inl x ∧ v = rt x) ∧ HR g σ1 B.U.heap ∧ (∀ q ∈ B.locs, gB g ≤ q.base) ∧ B.cells + n0 = σ1.1 ∧ B.slots + k0 = σ1.2.1
def PostX {α : Type} (g : GW) (n0 k0 : Nat) (r : α ⊕ (Nat × Nat)) (σ1 : PS) : Pt → Array Value → Addr → Pt → Prop := fun _ _ q B => (∃ x, r = .inr x ∧ q = gB g + x.1) ∧ HR g σ1 B.U.heap ∧ (∀ q ∈ B.locs, gB g ≤ q.base) ∧ B.cells + n0 = σ1.1 ∧ B.slots + k0 = σ1.2.1
/-- A CALLEE BY ITS JUDGEMENT -/
theorem callee {g : GW} {M M' : MI} {d d' n0 k0 : Nat} {p : Program} {l : Launch} {e : Env} {R : Room} {s : State} {m0 : MethodId} {args : Array Value} {below : List Frame} {meth0 : Method} {c0 : Code} (C : Cx g M d n0 k0 p l e R s m0 args below meth0 c0)
    {α : Type} {rt : α → Option Value} {F : Mo α} {vs : List Value} {y : MethodName} (hV : V g M' d' rt 0 (lv_args 0 vs) [] F) (hM : MF y M') (hsl : (lg_sl vs).length ≤ M'.2.2.1) (hdd : d' + 1 ≤ d) (hL : M'.2.2.1 ≤ 37) {σ σ1 : PS} {r : α ⊕ (Nat × Nat)} (hF : F σ = some (r, σ1)) :
    vx_Back l R p e below s args y 3 16 (PreC g n0 k0 σ vs) (PostC g n0 k0 rt r σ1) (PostX g n0 k0 r σ1) := by
  intro m meth c A f ig mk a X hg hsize hdg hW hn hp
  obtain ⟨rfl, hH, hlo, hc1, hc2⟩ := hp
  obtain ⟨U, Ls, cc, sl⟩ := A
  dsimp only [Pt.U, Pt.locs, Pt.cells, Pt.slots] at X hn hH hlo hc1 hc2 ⊢
  have hwU : Wds U := C.2.2.2.1.on X.warmed
  obtain ⟨methY, cY, a1, a2, a3, a4, a5, a6, a7, a8⟩ := hM.spec (Wds.at hwU) hn
  have hrm := C.2.2.2.2.1
  have hB := hH.2.2.2.2
  obtain ⟨Y, hent⟩ := X.into (R' := { frames := d', cells := R.cells - cc, slots := R.slots - sl, locals := 64 * d' }) hg hsize hdg (mk := mk) vs.toArray a1 a2 a6 (State.plainMethod.of_named hM.1.1 hn a1) (by show d' + 1 ≤ R.frames; omega) (by show _ + _ + (cY.maxLocals + 11) + 64 * d' ≤ R.locals; rw [a4]; omega) (by show cc + (R.cells - cc) ≤ R.cells; omega) (by show sl + (R.slots - sl) ≤ R.slots; omega)
  have hWs : s.WarmedH (U.calling f mk vs.toArray).vm := X.warmed
  have Cy : Cx g M' d' σ.1 σ.2.1 p l e { frames := d', cells := R.cells - cc, slots := R.slots - sl, locals := 64 * d' } (U.calling f mk vs.toArray) mk vs.toArray (.java f :: below) methY cY := by
    refine ⟨⟨C.1.1, a3, a4, a5, a6, ?_, a7⟩, ?_, va_K.moved (u := s) hWs.alike C.2.2.1, C.2.2.2.1.on hWs, ⟨?_, ?_, Nat.le_refl _, Nat.le_refl _⟩, ⟨?_, ?_, hH.2.2.1⟩, C.2.2.2.2.2.2.warm hWs⟩
    · rw [← hM.1.2.2.1]
      exact (name_of_methodNamed hn a1).1
    · rw [← hM.1.2.1]
      exact findClass_of_methodNamed hn
    · show σ.1 + (R.cells - cc) = CM
      omega
    · show σ.2.1 + (R.slots - sl) = SM
      omega
    · exact hH.1
    · exact hH.2.2.2.1
  have hl := lv_entry vs hsl
  obtain ⟨t, st1, h1, h2, h3, h4, L, k, n, h5, h6, h7, h8⟩ := hV σ.1 σ.2.1 p l e _ _ mk vs.toArray (.java f :: below) methY cY Cy σ U.heap [] 0 0 _ r σ1 ⟨hH, fun _ h => (nomatch h), by omega, by omega, hl⟩ hF ((U.setTop f).pushFrame (.java (entryFrame mk vs.toArray cY.maxLocals))) rfl Y
  have hst : Steps p.tables e below (doInvoke e (U.setTop f) [] mk vs.toArray).1 t := by
    rw [hent []]
    have e9 : entryFrame mk vs.toArray cY.maxLocals = F0 mk 0 ((lg_sl vs ++ List.replicate (M'.2.2.1 - (lg_sl vs).length) Slot.unset).toArray) [] := by rw [a4]; exact lg_entry_eq mk vs _
    rw [← e9] at st1
    obtain ⟨nn, w1, w2⟩ := st1
    exact ⟨nn, w1, fun k hk => Within.weaken (mid := [.java f]) (w2 k hk)⟩
  cases r with
  | inl x =>
    obtain ⟨T', X', hw', hs', e'⟩ := X.outOf hg hdg (mk := mk) (a := vs.toArray) (t := t) (v := rt x) (L := L) (k := k) (n := n) h2 h3 h5
    refine Or.inl ⟨rt x, ⟨T', Ls ++ L, cc + k, sl + n⟩, X', ⟨⟨x, rfl, rfl⟩, ?_, ?_, ?_, ?_⟩, ?_⟩
    · show HR g σ1 T'.heap
      have : T'.heap = t.heap := by rw [e']; rfl
      rw [this]
      exact h4
    · exact fun q hq => (List.mem_append.mp hq).elim (hlo q) (h6 q)
    · show cc + k + n0 = σ1.1
      omega
    · show sl + n + k0 = σ1.2.1
      omega
    · show Steps p.tables e below _ (T'.setTop _)
      rw [← e']
      exact hst
  | inr x =>
    obtain ⟨T', X', hw', hs', e'⟩ := X.outOfThrown hg (mk := mk) (a := vs.toArray) (t := t) (x := gB g + x.1) (L := L) (k := k) (n := n) h2 h3 h5
    refine Or.inr ⟨gB g + x.1, ⟨T', Ls ++ L, cc + k, sl + n⟩, X', ⟨⟨x, rfl, rfl⟩, ?_, ?_, ?_, ?_⟩, ?_⟩
    · show HR g σ1 T'.heap
      have : T'.heap = t.heap := by rw [e']; rfl
      rw [this]
      exact h4
    · exact fun q hq => (List.mem_append.mp hq).elim (hlo q) (h6 q)
    · show cc + k + n0 = σ1.1
      omega
    · show sl + n + k0 = σ1.2.1
      omega
    · show Steps p.tables e below _ ((T'.setTop f).pushFrame _)
      rw [← e']
      exact hst
