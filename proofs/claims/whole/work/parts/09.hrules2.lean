def nM (n k : Int32) : Mo Nat := fun σ => if (¬ n < 0 ∧ ¬ k < 0 ∧ n.toNatClampNeg ≤ 10000 ∧ k.toNatClampNeg ≤ 10000) ∧ σ.1 + (1 + n.toNatClampNeg) ≤ CM ∧ σ.2.1 + (n.toNatClampNeg + n.toNatClampNeg * k.toNatClampNeg) ≤ SM then some (.inl σ.1, (σ.1 + 1 + n.toNatClampNeg, σ.2.1 + n.toNatClampNeg + n.toNatClampNeg * k.toNatClampNeg, fun j => if j = σ.1 then .inl (3, n.toNatClampNeg, .inr (.inr (fun i => if i < n.toNatClampNeg then some (σ.1 + 1 + i) else none))) else if σ.1 < j ∧ j < σ.1 + 1 + n.toNatClampNeg then .inl (0, k.toNatClampNeg, .inl (fun _ => 0)) else σ.2.2 j)) else none
/-- System.arraycopy of ints -/
def cp_ (a0 : Nat) (sp : Int32) (a1 : Nat) (dp n : Int32) : Mo Unit := fun σ => match ar 0 a0 σ, ar 0 a1 σ with
  | some (n0, f), some (n1, h) => if ¬ sp < 0 ∧ ¬ dp < 0 ∧ ¬ n < 0 ∧ sp.toNatClampNeg + n.toNatClampNeg ≤ n0 ∧ dp.toNatClampNeg + n.toNatClampNeg ≤ n1 then some (.inl (), (σ.1, σ.2.1, upP σ.2.2 a1 (.inl (0, n1, .inl (va_cpy f h sp.toNatClampNeg dp.toNatClampNeg n.toNatClampNeg))))) else none
  | _, _ => none
theorem if_some {α : Type} {c : Prop} {dc : Decidable c} {x y : α} (h : (@ite _ c dc (some x) none) = some y) : c ∧ y = x := by
  by_cases hc : c
  · rw [if_pos hc] at h
    exact ⟨hc, (Option.some.inj h).symm⟩
  · rw [if_neg hc] at h
    exact absurd h (by simp)
theorem cp_spec {a0 a1 : Nat} {sp dp n : Int32} {σ σ' : PS} {r : Unit ⊕ (Nat × Nat)} (h : cp_ a0 sp a1 dp n σ = some (r, σ')) : ∃ (n0 n1 : Nat) (f h : Nat → Int32), ar 0 a0 σ = some (n0, f) ∧ ar 0 a1 σ = some (n1, h) ∧ (¬ sp < 0 ∧ ¬ dp < 0 ∧ ¬ n < 0 ∧ sp.toNatClampNeg + n.toNatClampNeg ≤ n0 ∧ dp.toNatClampNeg + n.toNatClampNeg ≤ n1) ∧ r = .inl () ∧ σ' = (σ.1, σ.2.1, upP σ.2.2 a1 (.inl (0, n1, .inl (va_cpy f h sp.toNatClampNeg dp.toNatClampNeg n.toNatClampNeg)))) := by
  unfold cp_ at h
  split at h
  · obtain ⟨h1, h2⟩ := if_some h
    cases h2
    exact ⟨_, _, _, _, by assumption, by assumption, h1, rfl, rfl⟩
  · exact absurd h (by simp)
section VG2
variable {g : GW} {M : MI} {d : Nat} {α : Type} {rt : α → Option Value} {pc pc' : Nat} {lv : List (Nat × Value)} {st : List Value}
theorem v_bast {a : Nat} {i : Int32} {x : Int32} {K : Unit → Mo α} (hd : decode M.2.1 pc = .ok (.bastore, 1)) (hp : pc + 1 = pc') (kk : V g M d rt pc' lv st (K ())) : V g M d rt pc lv (.int x :: .int i :: rf g a :: st) (bd (bs_ a i x) K) := by
  intro n0 k0 p l e R s m args below meth co C σ H locs cells slots ls r σ' A hP
  subst hp
  rcases bd_spec hP with ⟨y, σ1, h1, h2⟩ | ⟨y, h1, h2⟩
  · obtain ⟨n, f, ho, hin, e1, e2⟩ := bs_spec h1
    subst e2
    obtain ⟨ha, hm⟩ := ar_spec ho
    have hc := A.1.cell ha hm
    refine W.bast C.1.1 C.1.2.1 hc ((C.2.2.1.2 1 _ rfl).1 n (fun j => .int (f j))) (fun q => by cases q) (by show ¬ (i < 0 ∨ (arrV _ _ _).slots.size ≤ _); rw [arrV_size]; exact of_decide_eq_true hin) rfl rfl hd fun H1 e1 z oq => ?_
    refine kk n0 k0 p l e R s m args below meth co C _ H1 _ cells slots ls r σ' ⟨HR.set (σ := σ) A.1 ?_ z oq, locs_add A.2.1, A.2.2.1, A.2.2.2.1, A.2.2.2.2⟩ h2
    show H1[gB g + a]? = some (vp_cell _ _)
    rw [e1]
    rw [vp_cell_i, vp_cell_i, arrV_store]
    congr 2
    funext q
    by_cases hq : q = i.toNatClampNeg
    · subst hq
      simp [updV, upd, vp_nar]
      rfl
    · simp [updV, upd, hq]
  · obtain ⟨n, f, -, -, e1, -⟩ := bs_spec h1
    cases e1
theorem va_rf_map (g : GW) (o : Option Nat) : va_rf (o.map (gB g + ·)) = rn g o := by cases o <;> rfl
theorem v_aaldR {a : Nat} {i : Int32} {K : Nat → Mo α} (hd : decode M.2.1 pc = .ok (.aaload, 1)) (hp : pc + 1 = pc') (kk : ∀ x, V g M d rt pc' lv (rf g x :: st) (K x)) : V g M d rt pc lv (.int i :: rf g a :: st) (bd (aR 3 a i) K) := by
  intro n0 k0 p l e R s m args below meth co C σ H locs cells slots ls r σ' A hP
  subst hp
  rcases bd_spec hP with ⟨x, σ1, h1, h2⟩ | ⟨x, h1, h2⟩
  · obtain ⟨n, f, y, ho, hin, hy, e1, e2⟩ := aR_spec h1
    cases e1
    subst e2
    obtain ⟨ha, hm⟩ := arR_spec ho
    have hc := A.1.cell ha hm
    have hlt : i.toNatClampNeg < n := Nat.not_le.mp fun q => inN_in hin (Or.inr q)
    refine W.aald (v := rf g x) (ty := .array .int) C.1.1 C.1.2.1 hc ((C.2.2.1.2 3 _ rfl).1 n (fun j => va_rf ((f j).map (gB g + ·)))) rfl (fun q => by cases q) (by show ¬ (i < 0 ∨ (arrV _ _ _).slots.size ≤ _); rw [arrV_size]; exact inN_in hin) (by show (arrV _ _ _).slots[_]? = _; rw [arrV_read _ _ hlt]; show some (va_rf ((f i.toNatClampNeg).map (gB g + ·))) = some (rf g x); rw [hy]; rfl) rfl rfl hd ?_
    exact kk x n0 k0 p l e R s m args below meth co C σ1 H locs cells slots ls r σ' A h2
  · obtain ⟨n, f, y, -, -, -, e1, -⟩ := aR_spec h1
    cases e1
theorem v_aaldN {a : Nat} {i : Int32} {K : Option Nat → Mo α} (hd : decode M.2.1 pc = .ok (.aaload, 1)) (hp : pc + 1 = pc') (kk : ∀ x, V g M d rt pc' lv (rn g x :: st) (K x)) : V g M d rt pc lv (.int i :: rf g a :: st) (bd (aN 4 a i) K) := by
  intro n0 k0 p l e R s m args below meth co C σ H locs cells slots ls r σ' A hP
  subst hp
  rcases bd_spec hP with ⟨x, σ1, h1, h2⟩ | ⟨x, h1, h2⟩
  · obtain ⟨n, f, ho, hin, e1, e2⟩ := aN_spec h1
    cases e1
    subst e2
    obtain ⟨ha, hm⟩ := arR_spec ho
    have hc := A.1.cell ha hm
    have hlt : i.toNatClampNeg < n := Nat.not_le.mp fun q => inN_in hin (Or.inr q)
    refine W.aald (v := rn g (f i.toNatClampNeg)) (ty := .object RX3) C.1.1 C.1.2.1 hc ((C.2.2.1.2 4 _ rfl).1 n (fun j => va_rf ((f j).map (gB g + ·)))) rfl (fun q => by cases q) (by show ¬ (i < 0 ∨ (arrV _ _ _).slots.size ≤ _); rw [arrV_size]; exact inN_in hin) (by show (arrV _ _ _).slots[_]? = _; rw [arrV_read _ _ hlt, va_rf_map]) rfl rfl hd ?_
    exact kk _ n0 k0 p l e R s m args below meth co C σ1 H locs cells slots ls r σ' A h2
  · obtain ⟨n, f, -, -, e1, -⟩ := aN_spec h1
    cases e1
theorem v_aast {a x : Nat} {i : Int32} {K : Unit → Mo α} (hd : decode M.2.1 pc = .ok (.aastore, 1)) (hp : pc + 1 = pc') (kk : V g M d rt pc' lv st (K ())) : V g M d rt pc lv (rf g x :: .int i :: rf g a :: st) (bd (aq_ 4 3 a i x) K) := by
  intro n0 k0 p l e R s m args below meth co C σ H locs cells slots ls r σ' A hP
  subst hp
  rcases bd_spec hP with ⟨y, σ1, h1, h2⟩ | ⟨y, h1, h2⟩
  · obtain ⟨n, f, fs, ho, hx, hin, e1, e2⟩ := aq_spec h1
    subst e2
    obtain ⟨ha, hm⟩ := arR_spec ho
    obtain ⟨hax, hmx⟩ := ob_spec hx
    have hc := A.1.cell ha hm
    have hcx := A.1.cell hax hmx
    obtain ⟨rr, q1, cell, q2, q3, q4, -⟩ := hcx
    cases q1
    have hlt : i.toNatClampNeg < n := Nat.not_le.mp fun q => inN_in hin (Or.inr q)
    obtain ⟨kA, comp, f1, f2, f3, f4⟩ := (C.2.2.1.2 4 _ rfl).2
    have hcls := (C.2.2.1.1 3 _ rfl).2
    have hcm : g.1.1 3 = comp := Option.some.inj (hcls.1.symm.trans f3)
    obtain ⟨kC, hkC, -⟩ := hcls.2
    refine W.aast C.1.1 C.1.2.1 hc (fun q h => by cases h) (fun h => by cases h) f1 f2 rfl (by rw [← hcm]; exact hkC) ⟨fun h => inN_in hin (Or.inl h), by show _ < (arrV _ _ _).slots.size; rw [arrV_size]; exact hlt⟩ q2 (fun q h => by rw [q4] at h; cases h) (by rw [q3]; exact hkC) (by rw [q3, ← hcm]; exact va_assign hcls) rfl rfl hd fun H1 e1 z oq => ?_
    refine kk n0 k0 p l e R s m args below meth co C _ H1 _ cells slots ls r σ' ⟨HR.set (σ := σ) A.1 ?_ z oq, locs_add A.2.1, A.2.2.1, A.2.2.2.1, A.2.2.2.2⟩ h2
    show H1[gB g + a]? = some (vp_cell _ _)
    rw [e1]
    rw [vp_cell_q, vp_cell_q, arrV_store]
    congr 2
    funext q
    by_cases hq : q = i.toNatClampNeg
    · subst hq
      simp [updV, va_up, va_rf]
    · simp [updV, va_up, hq]
  · obtain ⟨n, f, fs, -, -, -, e1, -⟩ := aq_spec h1
    cases e1
theorem toE_len (g : GW) (t n : Nat) (x : (Nat → Int32) ⊕ (Nat → Int64) ⊕ (Nat → Option Nat)) : ∃ z : vp_A, toE g (.inl (t, n, x)) = .inl (gA g t, z) ∧ z.1 = n := by
  match x with
  | .inl f => exact ⟨_, rfl, rfl⟩
  | .inr (.inl f) => exact ⟨_, rfl, rfl⟩
  | .inr (.inr f) => exact ⟨_, rfl, rfl⟩
theorem tyL_at (g : GW) {t : Nat} (h : t < 5) : ∃ ty : FieldType, (tyL g)[t]? = some (gA g t, ty) := by
  match t, h with
  | 0, _ => exact ⟨_, rfl⟩
  | 1, _ => exact ⟨_, rfl⟩
  | 2, _ => exact ⟨_, rfl⟩
  | 3, _ => exact ⟨_, rfl⟩
  | 4, _ => exact ⟨_, rfl⟩
theorem v_alen {a : Nat} {K : Int32 → Mo α} (hd : decode M.2.1 pc = .ok (.arraylength, 1)) (hp : pc + 1 = pc') (kk : ∀ x, V g M d rt pc' lv (.int x :: st) (K x)) : V g M d rt pc lv (rf g a :: st) (bd (aLen a) K) := by
  intro n0 k0 p l e R s m args below meth co C σ H locs cells slots ls r σ' A hP
  subst hp
  rcases bd_spec hP with ⟨x, σ1, h1, h2⟩ | ⟨x, h1, h2⟩
  · obtain ⟨t, n, y, ha, hm, ht, e1, e2⟩ := aLen_spec h1
    cases e1
    subst e2
    have hc := A.1.cell ha hm
    obtain ⟨z, hz, hn⟩ := toE_len g t n y
    rw [hz] at hc
    obtain ⟨ty, hty⟩ := tyL_at g ht
    exact va_alen (D := g.1) (ws := [(gB g + a, .inl (gA g t, z))]) C.1.1 C.1.2.1 C.2.2.1 (va_P.one hc) 0 t rfl hty (by rw [hn]) hd (kk _ n0 k0 p l e R s m args below meth co C σ1 H locs cells slots ls r σ' A h2)
  · obtain ⟨t, n, y, -, -, -, e1, -⟩ := aLen_spec h1
    cases e1
def noRef (fs : List Value) : Bool := fs.all (fun v => match v with
  | .ref _ => false
  | _ => true)
/-- new: a class of ours, its slots, how its fields are at first -/
def NW (own : String) (idx c N : Nat) (fs : List Value) : Prop := ∃ (C : String) (T : u_T) (ty0 : Nat → FieldType), PCl[c]? = some (C, T, N) ∧ (∀ w ∈ u_ws C T N, w ∈ TG) ∧ Cond.classLink own idx C ∈ TG ∧ Cond.instantiable C N ∈ TG ∧ Cond.initialized C ∈ TG ∧ (∀ j, j < N → parseFieldDescriptor (T j).2.2.1 = some (ty0 j)) ∧ (∀ j, j < N → defaultValue (ty0 j) = vp_V fs j) ∧ noRef fs = true
theorem rv_id {g : GW} {fs : List Value} (h : noRef fs = true) : fs.map (rv g) = fs := by
  have h1 : ∀ v ∈ fs, rv g v = v := fun v hv => by
    have h2 := List.all_eq_true.mp h v hv
    cases v with
    | ref a => exact absurd h2 (by simp)
    | _ => rfl
  rw [List.map_congr_left h1, List.map_id']
theorem v_newO {idx c N : Nat} {fs : List Value} {K : Nat → Mo α} (hf : NW M.1 idx c N fs) (hd : decode M.2.1 pc = .ok (.new idx, 3)) (hp : pc + 3 = pc') (kk : ∀ x, V g M d rt pc' lv (rf g x :: st) (K x)) : V g M d rt pc lv st (bd (nO c N fs) K) := by
  intro n0 k0 p l e R s m args below meth co C σ H locs cells slots ls r σ' A hP
  subst hp
  obtain ⟨CC, T, ty0, hc, hin, hcl, hins, hini, hty, hfs, hnr⟩ := hf
  rcases bd_spec hP with ⟨x, σ1, h1, h2⟩ | ⟨x, h1, h2⟩
  · unfold nO at h1
    obtain ⟨⟨r1, r2⟩, e1⟩ := if_some h1
    cases e1
    have hts := Wds.at (args := args) C.2.2.2.1
    have hKn := C.2.2.1.1 c _ hc
    have hrm := C.2.2.2.2.1
    refine W.newcK C.1.1 C.1.2.1 C.2.1 (hts _ hcl) (hts _ hins) (hts _ hini) rfl hd (by have := A.2.2.1; have := hrm.1; omega) (by have := A.2.2.2.1; have := hrm.2.1; omega) hKn.2.1 A.1.1 fun H1 kC hkC e1 z1 o1 => ?_
    refine kk σ.1 n0 k0 p l e R s m args below meth co C _ H1 locs (cells + 1) (slots + N) ls r σ' ⟨HR.push (n := σ.1) (k := σ.2.1) A.1 ?_ (by rw [z1, A.1.1]) (fun q hq => o1 q (by rw [← A.1.1]; exact hq)) ⟨r1, r2⟩, A.2.1, ?_, ?_, A.2.2.2.2⟩ h2
    · refine ⟨_, hc, ?_⟩
      show t_OB (gB g + σ.1) (g.1.1 c) N (g.1.2 c) H1 (vp_V (fs.map (rv g)))
      rw [rv_id hnr]
      exact (u_born ty0 hts hin hKn hkC e1 hty).to hfs
    · show cells + 1 + n0 = σ.1 + 1
      have := A.2.2.1
      omega
    · show slots + N + k0 = σ.2.1 + N
      have := A.2.2.2.1
      omega
  · unfold nO at h1
    obtain ⟨-, e1⟩ := if_some h1
    cases e1
theorem v_newI {n : Int32} {K : Nat → Mo α} (hw : Cond.arrayClass .int ∈ TG) (hd : decode M.2.1 pc = .ok (.newarray .int, 2)) (hp : pc + 2 = pc') (kk : ∀ x, V g M d rt pc' lv (rf g x :: st) (K x)) : V g M d rt pc lv (.int n :: st) (bd (nA 0 n) K) := by
  intro n0 k0 p l e R s m args below meth co C σ H locs cells slots ls r σ' A hP
  subst hp
  rcases bd_spec hP with ⟨x, σ1, h1, h2⟩ | ⟨x, h1, h2⟩
  · unfold nA at h1
    obtain ⟨⟨r0, r00, r1, r2⟩, e1⟩ := if_some h1
    cases e1
    have hts := Wds.at (args := args) C.2.2.2.1
    have hrm := C.2.2.2.2.1
    refine va_newaK (atype := .int) (g := F0 m pc ls (.int n :: st)) C.1.1 C.1.2.1 (hts _ hw) rfl hd rfl r0 rfl (by show n.toNatClampNeg * componentBytes .int ≤ _; simp only [componentBytes]; omega) (by have := A.2.2.1; have := hrm.1; omega) (by have := A.2.2.2.1; have := hrm.2.1; omega) A.1.1 fun H1 cA e1 z1 o1 hAr hfc => ?_
    have hcA : gA g 0 = cA := Option.some.inj ((C.2.2.1.2 0 _ rfl).2.symm.trans hfc)
    subst hcA
    refine kk σ.1 n0 k0 p l e R s m args below meth co C _ H1 locs (cells + 1) (slots + n.toNatClampNeg) ls r σ' ⟨HR.push (n := σ.1) (k := σ.2.1) A.1 ?_ (by rw [z1, A.1.1]) (fun q hq => o1 q (by rw [← A.1.1]; exact hq)) ⟨r1, r2⟩, A.2.1, ?_, ?_, A.2.2.2.2⟩ h2
    · show H1[gB g + σ.1]? = some (vp_cell _ _)
      rw [vp_cell_i]
      exact e1
    · show cells + 1 + n0 = σ.1 + 1
      have := A.2.2.1
      omega
    · show slots + n.toNatClampNeg + k0 = σ.2.1 + n.toNatClampNeg
      have := A.2.2.2.1
      omega
  · unfold nA at h1
    obtain ⟨-, e1⟩ := if_some h1
    cases e1
theorem v_newB {n : Int32} {K : Nat → Mo α} (hw : Cond.arrayClass .byte ∈ TG) (hd : decode M.2.1 pc = .ok (.newarray .byte, 2)) (hp : pc + 2 = pc') (kk : ∀ x, V g M d rt pc' lv (rf g x :: st) (K x)) : V g M d rt pc lv (.int n :: st) (bd (nA 1 n) K) := by
  intro n0 k0 p l e R s m args below meth co C σ H locs cells slots ls r σ' A hP
  subst hp
  rcases bd_spec hP with ⟨x, σ1, h1, h2⟩ | ⟨x, h1, h2⟩
  · unfold nA at h1
    obtain ⟨⟨r0, r00, r1, r2⟩, e1⟩ := if_some h1
    cases e1
    have hts := Wds.at (args := args) C.2.2.2.1
    have hrm := C.2.2.2.2.1
    refine va_newaK (atype := .byte) (g := F0 m pc ls (.int n :: st)) C.1.1 C.1.2.1 (hts _ hw) rfl hd rfl r0 rfl (by show n.toNatClampNeg * componentBytes .byte ≤ _; simp only [componentBytes]; omega) (by have := A.2.2.1; have := hrm.1; omega) (by have := A.2.2.2.1; have := hrm.2.1; omega) A.1.1 fun H1 cA e1 z1 o1 hAr hfc => ?_
    have hcA : gA g 1 = cA := Option.some.inj ((C.2.2.1.2 1 _ rfl).2.symm.trans hfc)
    subst hcA
    refine kk σ.1 n0 k0 p l e R s m args below meth co C _ H1 locs (cells + 1) (slots + n.toNatClampNeg) ls r σ' ⟨HR.push (n := σ.1) (k := σ.2.1) A.1 ?_ (by rw [z1, A.1.1]) (fun q hq => o1 q (by rw [← A.1.1]; exact hq)) ⟨r1, r2⟩, A.2.1, ?_, ?_, A.2.2.2.2⟩ h2
    · show H1[gB g + σ.1]? = some (vp_cell _ _)
      rw [vp_cell_i]
      exact e1
    · show cells + 1 + n0 = σ.1 + 1
      have := A.2.2.1
      omega
    · show slots + n.toNatClampNeg + k0 = σ.2.1 + n.toNatClampNeg
      have := A.2.2.2.1
      omega
  · unfold nA at h1
    obtain ⟨-, e1⟩ := if_some h1
    cases e1
theorem v_newJ {n : Int32} {K : Nat → Mo α} (hw : Cond.arrayClass .long ∈ TG) (hd : decode M.2.1 pc = .ok (.newarray .long, 2)) (hp : pc + 2 = pc') (kk : ∀ x, V g M d rt pc' lv (rf g x :: st) (K x)) : V g M d rt pc lv (.int n :: st) (bd (nL_ n) K) := by
  intro n0 k0 p l e R s m args below meth co C σ H locs cells slots ls r σ' A hP
  subst hp
  rcases bd_spec hP with ⟨x, σ1, h1, h2⟩ | ⟨x, h1, h2⟩
  · unfold nL_ at h1
    obtain ⟨⟨r0, r00, r1, r2⟩, e1⟩ := if_some h1
    cases e1
    have hts := Wds.at (args := args) C.2.2.2.1
    have hrm := C.2.2.2.2.1
    refine va_newaK (atype := .long) (g := F0 m pc ls (.int n :: st)) C.1.1 C.1.2.1 (hts _ hw) rfl hd rfl r0 rfl (by show n.toNatClampNeg * componentBytes .long ≤ _; simp only [componentBytes]; omega) (by have := A.2.2.1; have := hrm.1; omega) (by have := A.2.2.2.1; have := hrm.2.1; omega) A.1.1 fun H1 cA e1 z1 o1 hAr hfc => ?_
    have hcA : gA g 2 = cA := Option.some.inj ((C.2.2.1.2 2 _ rfl).2.symm.trans hfc)
    subst hcA
    refine kk σ.1 n0 k0 p l e R s m args below meth co C _ H1 locs (cells + 1) (slots + n.toNatClampNeg) ls r σ' ⟨HR.push (n := σ.1) (k := σ.2.1) A.1 ?_ (by rw [z1, A.1.1]) (fun q hq => o1 q (by rw [← A.1.1]; exact hq)) ⟨r1, r2⟩, A.2.1, ?_, ?_, A.2.2.2.2⟩ h2
    · show H1[gB g + σ.1]? = some (vp_cell _ _)
      rw [vp_cell_l]
      exact e1
    · show cells + 1 + n0 = σ.1 + 1
      have := A.2.2.1
      omega
    · show slots + n.toNatClampNeg + k0 = σ.2.1 + n.toNatClampNeg
      have := A.2.2.2.1
      omega
  · unfold nL_ at h1
    obtain ⟨-, e1⟩ := if_some h1
    cases e1
theorem v_newQ {idx : Nat} {n : Int32} {K : Nat → Mo α} (hcl : Cond.classLink M.1 idx RX3 ∈ TG) (hd : decode M.2.1 pc = .ok (.anewarray idx, 3)) (hp : pc + 3 = pc') (kk : ∀ x, V g M d rt pc' lv (rf g x :: st) (K x)) : V g M d rt pc lv (.int n :: st) (bd (nQ 4 n) K) := by
  intro n0 k0 p l e R s m args below meth co C σ H locs cells slots ls r σ' A hP
  subst hp
  rcases bd_spec hP with ⟨x, σ1, h1, h2⟩ | ⟨x, h1, h2⟩
  · unfold nQ at h1
    obtain ⟨⟨r0, r00, r1, r2⟩, e1⟩ := if_some h1
    cases e1
    have hts := Wds.at (args := args) C.2.2.2.1
    have hrm := C.2.2.2.2.1
    refine W.anew (g := F0 m pc ls (.int n :: st)) C.1.1 C.1.2.1 C.2.1 (hts _ hcl) (va_AO.use C.2.2.2.2.2.2.2.2.2.2.2.2.2.1) rfl hd rfl r0 (by omega) (by have := A.2.2.1; have := hrm.1; omega) (by have := A.2.2.2.1; have := hrm.2.1; omega) fun cA kA comp f1 f2 f3 f4 => ?_
    have hcA : gA g 4 = cA := by
      obtain ⟨_, _, -, -, -, h4⟩ := (C.2.2.1.2 4 _ rfl).2
      exact Option.some.inj (h4.symm.trans f1)
    subst hcA
    generalize hH1 : H.push ({ cls := gA g 4, slots := Array.replicate n.toNatClampNeg .null, vm := .none } : Cell) = H1
    have z1 : H1.size = H.size + 1 := by rw [← hH1, Array.size_push]
    have e1 : H1[H.size]? = some (arrV (gA g 4) n.toNatClampNeg (fun _ => .null)) := by rw [← hH1, Array.getElem?_push_size, ← arrV_new]
    have o1 : ∀ q : Nat, q < H.size → H1[q]? = H[q]? := fun q hq => by rw [← hH1, Array.getElem?_push, if_neg (Nat.ne_of_lt hq)]
    rw [A.1.1] at e1 ⊢
    refine kk σ.1 n0 k0 p l e R s m args below meth co C _ H1 locs (cells + 1) (slots + n.toNatClampNeg) ls r σ' ⟨HR.push (n := σ.1) (k := σ.2.1) A.1 ?_ z1 o1 ⟨r1, r2⟩, A.2.1, ?_, ?_, A.2.2.2.2⟩ h2
    · show H1[gB g + σ.1]? = some (vp_cell _ _)
      rw [vp_cell_q]
      exact e1
    · show cells + 1 + n0 = σ.1 + 1
      have := A.2.2.1
      omega
    · show slots + n.toNatClampNeg + k0 = σ.2.1 + n.toNatClampNeg
      have := A.2.2.2.1
      omega
  · unfold nQ at h1
    obtain ⟨-, e1⟩ := if_some h1
    cases e1
end VG2
