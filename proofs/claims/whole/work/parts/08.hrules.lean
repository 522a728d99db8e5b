section VG
variable {g : GW} {M : MI} {d : Nat} {α : Type} {rt : α → Option Value} {pc pc' : Nat} {lv : List (Nat × Value)} {st : List Value}
theorem v_getI {idx c k a : Nat} {K : Int32 → Mo α} (hf : FL M.1 idx c k) (hd : decode M.2.1 pc = .ok (.getfield idx, 3)) (hp : pc + 3 = pc') (kk : ∀ x, V g M d rt pc' lv (.int x :: st) (K x)) : V g M d rt pc lv (rf g a :: st) (bd (gI c k a) K) := by
  intro n0 k0 p l e R s m args below meth co C σ H locs cells slots ls r σ' A hP
  subst hp
  rcases bd_spec hP with ⟨x, σ1, h1, h2⟩ | ⟨x, h1, h2⟩
  · obtain ⟨y, fs, e1, e2, ho, hv⟩ := gI_spec h1
    cases e1
    subst e2
    refine hp_get hf C.1.1 C.1.2.1 C.2.2.2.1 C.2.1 C.2.2.1 A.1 ho hv hd ?_
    show W _ _ _ _ _ _ _ _ _ _ _ _ _ _ _ (F0 m (pc + 3) ls (.int x :: st))
    exact kk x n0 k0 p l e R s m args below meth co C σ1 H locs cells slots ls r σ' A h2
  · obtain ⟨y, fs, e1, -⟩ := gI_spec h1
    cases e1
theorem v_getJ {idx c k a : Nat} {K : Int64 → Mo α} (hf : FL M.1 idx c k) (hd : decode M.2.1 pc = .ok (.getfield idx, 3)) (hp : pc + 3 = pc') (kk : ∀ x, V g M d rt pc' lv (.long x :: st) (K x)) : V g M d rt pc lv (rf g a :: st) (bd (gJ c k a) K) := by
  intro n0 k0 p l e R s m args below meth co C σ H locs cells slots ls r σ' A hP
  subst hp
  rcases bd_spec hP with ⟨x, σ1, h1, h2⟩ | ⟨x, h1, h2⟩
  · obtain ⟨y, fs, e1, e2, ho, hv⟩ := gJ_spec h1
    cases e1
    subst e2
    refine hp_get hf C.1.1 C.1.2.1 C.2.2.2.1 C.2.1 C.2.2.1 A.1 ho hv hd ?_
    show W _ _ _ _ _ _ _ _ _ _ _ _ _ _ _ (F0 m (pc + 3) ls (.long x :: st))
    exact kk x n0 k0 p l e R s m args below meth co C σ1 H locs cells slots ls r σ' A h2
  · obtain ⟨y, fs, e1, -⟩ := gJ_spec h1
    cases e1
theorem v_getR {idx c k a : Nat} {K : Nat → Mo α} (hf : FL M.1 idx c k) (hd : decode M.2.1 pc = .ok (.getfield idx, 3)) (hp : pc + 3 = pc') (kk : ∀ x, V g M d rt pc' lv (rf g x :: st) (K x)) : V g M d rt pc lv (rf g a :: st) (bd (gR c k a) K) := by
  intro n0 k0 p l e R s m args below meth co C σ H locs cells slots ls r σ' A hP
  subst hp
  rcases bd_spec hP with ⟨x, σ1, h1, h2⟩ | ⟨x, h1, h2⟩
  · obtain ⟨y, fs, e1, e2, ho, hv⟩ := gR_spec h1
    cases e1
    subst e2
    refine hp_get hf C.1.1 C.1.2.1 C.2.2.2.1 C.2.1 C.2.2.1 A.1 ho hv hd ?_
    show W _ _ _ _ _ _ _ _ _ _ _ _ _ _ _ (F0 m (pc + 3) ls (rf g x :: st))
    exact kk x n0 k0 p l e R s m args below meth co C σ1 H locs cells slots ls r σ' A h2
  · obtain ⟨y, fs, e1, -⟩ := gR_spec h1
    cases e1
theorem v_getN {idx c k a : Nat} {K : Option Nat → Mo α} (hf : FL M.1 idx c k) (hd : decode M.2.1 pc = .ok (.getfield idx, 3)) (hp : pc + 3 = pc') (kk : ∀ x, V g M d rt pc' lv (rn g x :: st) (K x)) : V g M d rt pc lv (rf g a :: st) (bd (gN c k a) K) := by
  intro n0 k0 p l e R s m args below meth co C σ H locs cells slots ls r σ' A hP
  subst hp
  rcases bd_spec hP with ⟨x, σ1, h1, h2⟩ | ⟨x, h1, h2⟩
  · obtain ⟨y, fs, e1, e2, ho, hv⟩ := gN_spec h1
    cases e1
    subst e2
    refine hp_get hf C.1.1 C.1.2.1 C.2.2.2.1 C.2.1 C.2.2.1 A.1 ho hv hd ?_
    rw [rv_oV]
    exact kk x n0 k0 p l e R s m args below meth co C σ1 H locs cells slots ls r σ' A h2
  · obtain ⟨y, fs, e1, -⟩ := gN_spec h1
    cases e1
/-- a field is written, in the heap -/
theorem hp_put {own : String} {idx c k a : Nat} {ty : FieldType} {fin : Bool} (hf : FW own idx c k ty fin) {p : Program} {l : Launch} {e : Env} {R : Room} {s : State} {m : MethodId} {args : Array Value} {below : List Frame} {meth : Method} {co : Code} {H : Heap} {locs : List Loc} {cells slots : Nat} {Q : State → Prop} {cc : ByteArray} {ls : Array Slot}
    (hx : p.tables.exec = Jvm.exec) (hb : co.code = cc) (hw : Wds s) (hown : s.vm.findClass own = some m.cls) (hK : va_K g.1 PCl (tyL g) s) (hnm : fin = true → meth.name = "<init>") {σ : PS} (h : HR g σ H) {fs : List Value} (ho : ob c a σ = some fs) (hl : k < fs.length) {v v' : Value} (hv : rv g v = v') (hn : narrow ty v' = v') (hfit : fits ty v' = true) (hd : decode cc pc = .ok (.putfield idx, 3))
    (kk : ∀ (H1 : Heap) (i : Nat), HR g (σ.1, σ.2.1, upP σ.2.2 a (.inr (c, fs.set k v))) H1 → W p l e R s m args below meth co H1 (locs ++ [⟨gB g + a, i⟩]) cells slots Q (F0 m (pc + 3) ls st)) : W p l e R s m args below meth co H locs cells slots Q (F0 m pc ls (v' :: rf g a :: st)) := by
  obtain ⟨C, T, N, ty0, hc, hk, hin, hlink, hty, hnms, hpd, hfin, hdecl⟩ := hf
  obtain ⟨ha, hm⟩ := ob_spec ho
  have hts := Wds.at (args := args) hw
  have hap := va_apart (own := own) hts hin ty0 hty hnms hK hc
  have hc0 := h.cell ha hm
  obtain ⟨r, h1, cell, q1, q2, q3, q4⟩ := hc0
  have hr : r = (C, T, N) := Option.some.inj (h1.symm.trans hc)
  subst hr
  obtain ⟨hS, hfc, kC, hkC, hkind⟩ := hK.1 c _ hc
  obtain ⟨cf, kf, fi, f, hi, hsl⟩ := hS k hk
  have hlay := hts _ (hin _ (u_in_lay hk))
  have hst := (u_facts hfc hkC (u_lays hts hin hk) hi).1
  have hl9 : k < (fs.map (rv g)).length := by rw [List.length_map]; exact hl
  have hset : ∀ H1 : Heap, H1[gB g + a]? = some (cell.setSlot f.slot v') → H1.size = H.size → (∀ q, q ≠ gB g + a → H1[q]? = H[q]?) → HR g (σ.1, σ.2.1, upP σ.2.2 a (.inr (c, fs.set k v))) H1 := by
    intro H1 e1 e2 e3
    refine HR.set (σ := σ) h ?_ e2 e3
    rw [hsl] at e1
    refine ⟨_, hc, ?_⟩
    show t_OB (gB g + a) (g.1.1 c) N (g.1.2 c) H1 (vp_V ((fs.set k v).map (rv g)))
    rw [List.map_set, hv]
    exact t_OB.to (V := updV (vp_V (fs.map (rv g))) k v') ⟨_, e1, q2, q3, t_set q4 hap hk v'⟩ (fun j _ => vp_updV_set hl9 v' j)
  cases fin with
  | false =>
    unfold u_lay at hlay
    rw [if_neg (by rw [hfin]; decide)] at hlay
    have h6 := u_store hfc hkC hkind hlay hi hpd hn hfit
    exact W.putK hx hb (f := f) ⟨hown, Wds.at hw _ hlink, ⟨_, _, _, hi⟩, hst⟩ (by rw [q2]; exact h6) q1 q3 (by rw [hsl]; exact k2_hasslot (q4 k hk)) rfl rfl hd fun H' e1 e2 e3 => kk H' _ (hset H' e1 e2 e3)
  | true =>
    unfold u_lay at hlay
    rw [if_pos hfin] at hlay
    have hcf : m.cls = cf := by
      obtain ⟨_, _, c', _, _, _, -, -, hf', -, -, -, hown2, -⟩ := Cond.laysFinal_spec hlay
      have e1 : c' = cf := by have := hi.symm.trans hf'; simp at this; exact this.1.symm
      rw [hdecl rfl] at hown2
      rw [← e1]; exact Option.some.inj (hown.symm.trans hown2)
    have h6 := u_fits hfc hkC hkind (Or.inr hlay) hi hpd hn hfit
    exact W.putFinK hx hb hown (Wds.at hw _ hlink) hi hst hcf (hnm rfl) (by rw [q2]; exact h6) q1 q3 (by rw [hsl]; exact k2_hasslot (q4 k hk)) rfl rfl hd fun H' e1 e2 e3 => kk H' _ (hset H' e1 e2 e3)
theorem locs_add {g : GW} {locs : List Loc} {a i : Nat} (h : ∀ q ∈ locs, gB g ≤ q.base) : ∀ q ∈ locs ++ [(⟨gB g + a, i⟩ : Loc)], gB g ≤ q.base := by
  intro q hq
  rcases List.mem_append.mp hq with h1 | h1
  · exact h q h1
  · rw [List.mem_singleton.mp h1]
    exact Nat.le_add_right _ _
theorem v_put {idx c k a : Nat} {ty : FieldType} {fin : Bool} {v v' : Value} {K : Unit → Mo α} (hf : FW M.1 idx c k ty fin) (hv : rv g v = v') (hn : narrow ty v' = v') (hfit : fits ty v' = true) (hnm : fin = true → M.2.2.2.2.1 = "<init>") (hd : decode M.2.1 pc = .ok (.putfield idx, 3)) (hp : pc + 3 = pc') (kk : V g M d rt pc' lv st (K ())) : V g M d rt pc lv (v' :: rf g a :: st) (bd (pf c k a v) K) := by
  intro n0 k0 p l e R s m args below meth co C σ H locs cells slots ls r σ' A hP
  subst hp
  rcases bd_spec hP with ⟨x, σ1, h1, h2⟩ | ⟨x, h1, h2⟩
  · obtain ⟨fs, -, ho, hl, e2⟩ := pf_spec h1
    subst e2
    refine hp_put hf C.1.1 C.1.2.1 C.2.2.2.1 C.2.1 C.2.2.1 (fun h => C.1.2.2.2.2.2.1.trans (hnm h)) A.1 ho hl hv hn hfit hd fun H1 i hH => ?_
    exact kk n0 k0 p l e R s m args below meth co C _ H1 _ cells slots ls r σ' ⟨hH, locs_add A.2.1, A.2.2.1, A.2.2.2.1, A.2.2.2.2⟩ h2
  · obtain ⟨fs, e1, -⟩ := pf_spec h1
    cases e1
theorem v_iald {a : Nat} {i : Int32} {K : Int32 → Mo α} (hd : decode M.2.1 pc = .ok (.iaload, 1)) (hp : pc + 1 = pc') (kk : ∀ x, V g M d rt pc' lv (.int x :: st) (K x)) : V g M d rt pc lv (.int i :: rf g a :: st) (bd (al 0 a i) K) := by
  intro n0 k0 p l e R s m args below meth co C σ H locs cells slots ls r σ' A hP
  subst hp
  rcases bd_spec hP with ⟨x, σ1, h1, h2⟩ | ⟨x, h1, h2⟩
  · obtain ⟨n, f, ho, hin, e1, e2⟩ := al_spec h1
    cases e1
    subst e2
    obtain ⟨ha, hm⟩ := ar_spec ho
    exact va_iald (D := g.1) (ws := [(gB g + a, toE g (σ1.2.2 a))]) C.1.1 C.1.2.1 C.2.2.1 (va_P.one (A.1.2.1 a ha)) 0 0 (by rw [hm]; rfl) rfl (inN_in hin) hd (kk _ n0 k0 p l e R s m args below meth co C σ1 H locs cells slots ls r σ' A h2)
  · obtain ⟨n, f, -, -, e1, -⟩ := al_spec h1
    cases e1
theorem v_bald {a : Nat} {i : Int32} {K : Int32 → Mo α} (hd : decode M.2.1 pc = .ok (.baload, 1)) (hp : pc + 1 = pc') (kk : ∀ x, V g M d rt pc' lv (.int x :: st) (K x)) : V g M d rt pc lv (.int i :: rf g a :: st) (bd (al 1 a i) K) := by
  intro n0 k0 p l e R s m args below meth co C σ H locs cells slots ls r σ' A hP
  subst hp
  rcases bd_spec hP with ⟨x, σ1, h1, h2⟩ | ⟨x, h1, h2⟩
  · obtain ⟨n, f, ho, hin, e1, e2⟩ := al_spec h1
    cases e1
    subst e2
    obtain ⟨ha, hm⟩ := ar_spec ho
    exact va_bald (D := g.1) (ws := [(gB g + a, toE g (σ1.2.2 a))]) C.1.1 C.1.2.1 C.2.2.1 (va_P.one (A.1.2.1 a ha)) 0 1 (by rw [hm]; rfl) rfl (inN_in hin) hd (kk _ n0 k0 p l e R s m args below meth co C σ1 H locs cells slots ls r σ' A h2)
  · obtain ⟨n, f, -, -, e1, -⟩ := al_spec h1
    cases e1
theorem v_lald {a : Nat} {i : Int32} {K : Int64 → Mo α} (hd : decode M.2.1 pc = .ok (.laload, 1)) (hp : pc + 1 = pc') (kk : ∀ x, V g M d rt pc' lv (.long x :: st) (K x)) : V g M d rt pc lv (.int i :: rf g a :: st) (bd (ll a i) K) := by
  intro n0 k0 p l e R s m args below meth co C σ H locs cells slots ls r σ' A hP
  subst hp
  rcases bd_spec hP with ⟨x, σ1, h1, h2⟩ | ⟨x, h1, h2⟩
  · obtain ⟨n, f, ho, hin, e1, e2⟩ := ll_spec h1
    cases e1
    subst e2
    obtain ⟨ha, hm⟩ := arL_spec ho
    exact va_lald (D := g.1) (ws := [(gB g + a, toE g (σ1.2.2 a))]) C.1.1 C.1.2.1 C.2.2.1 (va_P.one (A.1.2.1 a ha)) 0 2 (by rw [hm]; rfl) rfl (inN_in hin) hd (kk _ n0 k0 p l e R s m args below meth co C σ1 H locs cells slots ls r σ' A h2)
  · obtain ⟨n, f, -, -, e1, -⟩ := ll_spec h1
    cases e1
theorem v_iast {a : Nat} {i : Int32} {x : Int32} {K : Unit → Mo α} (hd : decode M.2.1 pc = .ok (.iastore, 1)) (hp : pc + 1 = pc') (kk : V g M d rt pc' lv st (K ())) : V g M d rt pc lv (.int x :: .int i :: rf g a :: st) (bd (as_ a i x) K) := by
  intro n0 k0 p l e R s m args below meth co C σ H locs cells slots ls r σ' A hP
  subst hp
  rcases bd_spec hP with ⟨y, σ1, h1, h2⟩ | ⟨y, h1, h2⟩
  · obtain ⟨n, f, ho, hin, e1, e2⟩ := as_spec h1
    subst e2
    obtain ⟨ha, hm⟩ := ar_spec ho
    have hc := A.1.cell ha hm
    refine W.iast C.1.1 C.1.2.1 hc ((C.2.2.1.2 0 _ rfl).1 n (fun j => .int (f j))) (fun q => by cases q) (by show ¬ (i < 0 ∨ (arrV _ _ _).slots.size ≤ _); rw [arrV_size]; exact of_decide_eq_true hin) rfl rfl hd fun H1 e1 z oq => ?_
    refine kk n0 k0 p l e R s m args below meth co C _ H1 _ cells slots ls r σ' ⟨HR.set (σ := σ) A.1 ?_ z oq, locs_add A.2.1, A.2.2.1, A.2.2.2.1, A.2.2.2.2⟩ h2
    show H1[gB g + a]? = some (vp_cell _ _)
    rw [e1]
    rw [vp_cell_i, vp_cell_i, arrV_store]
    congr 2
    funext q
    by_cases hq : q = i.toNatClampNeg
    · subst hq
      simp [updV, upd]
    · simp [updV, upd, hq]
  · obtain ⟨n, f, -, -, e1, -⟩ := as_spec h1
    cases e1
theorem v_last {a : Nat} {i : Int32} {x : Int64} {K : Unit → Mo α} (hd : decode M.2.1 pc = .ok (.lastore, 1)) (hp : pc + 1 = pc') (kk : V g M d rt pc' lv st (K ())) : V g M d rt pc lv (.long x :: .int i :: rf g a :: st) (bd (ls_ a i x) K) := by
  intro n0 k0 p l e R s m args below meth co C σ H locs cells slots ls r σ' A hP
  subst hp
  rcases bd_spec hP with ⟨y, σ1, h1, h2⟩ | ⟨y, h1, h2⟩
  · obtain ⟨n, f, ho, hin, e1, e2⟩ := ls_spec h1
    subst e2
    obtain ⟨ha, hm⟩ := arL_spec ho
    have hc := A.1.cell ha hm
    refine W.last C.1.1 C.1.2.1 hc ((C.2.2.1.2 2 _ rfl).1 n (fun j => .long (f j))) (fun q => by cases q) (by show ¬ (i < 0 ∨ (arrV _ _ _).slots.size ≤ _); rw [arrV_size]; exact of_decide_eq_true hin) rfl rfl hd fun H1 e1 z oq => ?_
    refine kk n0 k0 p l e R s m args below meth co C _ H1 _ cells slots ls r σ' ⟨HR.set (σ := σ) A.1 ?_ z oq, locs_add A.2.1, A.2.2.1, A.2.2.2.1, A.2.2.2.2⟩ h2
    show H1[gB g + a]? = some (vp_cell _ _)
    rw [e1]
    rw [vp_cell_l, vp_cell_l, arrV_store]
    congr 2
    funext q
    by_cases hq : q = i.toNatClampNeg
    · subst hq
      simp [updV, vp_updL]
    · simp [updV, vp_updL, hq]
  · obtain ⟨n, f, -, -, e1, -⟩ := ls_spec h1
    cases e1
end VG
