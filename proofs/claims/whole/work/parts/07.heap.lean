def TG : List Cond := lw_tbl.filter goodWord
theorem tg {w : Cond} (i : Nat) (h : lw_tbl[i]? = some w) (hg : goodWord w = true) : w ∈ TG := List.mem_filter.mpr ⟨List.mem_of_getElem? h, hg⟩
theorem tg0 {w : Cond} (i : Nat) (h : (k2_sels lw_privs)[i]? = some w) (hg : goodWord w = true) : w ∈ TG := List.mem_filter.mpr ⟨List.mem_append_left _ (List.mem_of_getElem? h), hg⟩
theorem tg1 {w : Cond} (i : Nat) (h : tables_1_1[i]? = some w) (hg : goodWord w = true) : w ∈ TG := List.mem_filter.mpr ⟨List.mem_append_right _ (List.mem_append_left _ (List.mem_of_getElem? h)), hg⟩
theorem tg2 {w : Cond} (i : Nat) (h : tables_1_2[i]? = some w) (hg : goodWord w = true) : w ∈ TG := List.mem_filter.mpr ⟨List.mem_append_right _ (List.mem_append_right _ (List.mem_append_left _ (List.mem_of_getElem? h))), hg⟩
theorem tg3 {w : Cond} (i : Nat) (h : tables_1_3[i]? = some w) (hg : goodWord w = true) : w ∈ TG := List.mem_filter.mpr ⟨List.mem_append_right _ (List.mem_append_right _ (List.mem_append_right _ (List.mem_append_left _ (List.mem_of_getElem? h)))), hg⟩
theorem tg4 {w : Cond} (i : Nat) (h : tables_1_4[i]? = some w) (hg : goodWord w = true) : w ∈ TG := List.mem_filter.mpr ⟨List.mem_append_right _ (List.mem_append_right _ (List.mem_append_right _ (List.mem_append_right _ (List.mem_append_left _ (List.mem_of_getElem? h))))), hg⟩
theorem tg5 {w : Cond} (i : Nat) (h : tables_1_5[i]? = some w) (hg : goodWord w = true) : w ∈ TG := List.mem_filter.mpr ⟨List.mem_append_right _ (List.mem_append_right _ (List.mem_append_right _ (List.mem_append_right _ (List.mem_append_right _ (List.mem_append_left _ (List.mem_of_getElem? h)))))), hg⟩
theorem tg6 {w : Cond} (i : Nat) (h : tables_1_6[i]? = some w) (hg : goodWord w = true) : w ∈ TG := List.mem_filter.mpr ⟨List.mem_append_right _ (List.mem_append_right _ (List.mem_append_right _ (List.mem_append_right _ (List.mem_append_right _ (List.mem_append_right _ (List.mem_append_left _ (List.mem_of_getElem? h))))))), hg⟩
theorem tg7 {w : Cond} (i : Nat) (h : tables_1_7[i]? = some w) (hg : goodWord w = true) : w ∈ TG := List.mem_filter.mpr ⟨List.mem_append_right _ (List.mem_append_right _ (List.mem_append_right _ (List.mem_append_right _ (List.mem_append_right _ (List.mem_append_right _ (List.mem_append_right _ (List.mem_append_left _ (List.mem_of_getElem? h)))))))), hg⟩
theorem tg8 {w : Cond} (i : Nat) (h : tables_1_8[i]? = some w) (hg : goodWord w = true) : w ∈ TG := List.mem_filter.mpr ⟨List.mem_append_right _ (List.mem_append_right _ (List.mem_append_right _ (List.mem_append_right _ (List.mem_append_right _ (List.mem_append_right _ (List.mem_append_right _ (List.mem_append_right _ (List.mem_append_left _ (List.mem_of_getElem? h))))))))), hg⟩
theorem tg9 {w : Cond} (i : Nat) (h : tables_1_9[i]? = some w) (hg : goodWord w = true) : w ∈ TG := List.mem_filter.mpr ⟨List.mem_append_right _ (List.mem_append_right _ (List.mem_append_right _ (List.mem_append_right _ (List.mem_append_right _ (List.mem_append_right _ (List.mem_append_right _ (List.mem_append_right _ (List.mem_append_right _ (List.mem_of_getElem? h))))))))), hg⟩
/-- the field k of the class c, as the entry idx of the class own names it -/
def FL (own : String) (idx c k : Nat) : Prop := ∃ (C : String) (T : u_T) (N : Nat), PCl[c]? = some (C, T, N) ∧ k < N ∧ (∀ w ∈ u_ws C T N, w ∈ TG) ∧ Cond.fieldLink own idx (T k).1 (T k).2.1 (T k).2.2.1 ∈ TG
/-- .. and what it takes to write it -/
def FW (own : String) (idx c k : Nat) (ty : FieldType) (fin : Bool) : Prop := ∃ (C : String) (T : u_T) (N : Nat) (ty0 : Nat → FieldType), PCl[c]? = some (C, T, N) ∧ k < N ∧ (∀ w ∈ u_ws C T N, w ∈ TG) ∧ Cond.fieldLink own idx (T k).1 (T k).2.1 (T k).2.2.1 ∈ TG ∧
  (∀ j, j < N → parseFieldDescriptor (T j).2.2.1 = some (ty0 j)) ∧ (∀ a, a < N → ∀ b, b < N → a ≠ b → (T a).2.1 ≠ (T b).2.1) ∧ parseFieldDescriptor (T k).2.2.1 = some ty ∧ (T k).2.2.2 = fin ∧ (fin = true → (T k).1 = own)
theorem Wds.at {s : State} {args : Array Value} (h : Wds s) : ∀ w ∈ TG, w.before args s = true := fun w hw => h w (List.mem_filter.mp hw).1 (List.mem_filter.mp hw).2 args s (State.WarmedH.refl s)
theorem ob_spec {c a : Nat} {σ : PS} {fs : List Value} (h : ob c a σ = some fs) : a < σ.1 ∧ σ.2.2 a = .inr (c, fs) := by
  unfold ob at h
  by_cases ha : a < σ.1
  · rw [if_pos ha] at h
    refine ⟨ha, ?_⟩
    match hm : σ.2.2 a, h with
    | .inr (c', fs'), h =>
      by_cases hc : c' = c
      · subst hc
        simp at h
        rw [h]
      · simp [hc] at h
  · rw [if_neg ha] at h
    exact absurd h (by simp)
theorem ar_spec {t a : Nat} {σ : PS} {x : Nat × (Nat → Int32)} (h : ar t a σ = some x) : a < σ.1 ∧ σ.2.2 a = .inl (t, x.1, .inl x.2) := by
  unfold ar at h
  by_cases ha : a < σ.1
  · rw [if_pos ha] at h
    refine ⟨ha, ?_⟩
    match hm : σ.2.2 a, h with
    | .inl (t', n, .inl f), h =>
      by_cases hc : t' = t
      · subst hc
        simp at h
        rw [← h]
      · simp [hc] at h
  · rw [if_neg ha] at h
    exact absurd h (by simp)
theorem arL_spec {a : Nat} {σ : PS} {x : Nat × (Nat → Int64)} (h : arL a σ = some x) : a < σ.1 ∧ σ.2.2 a = .inl (2, x.1, .inr (.inl x.2)) := by
  unfold arL at h
  by_cases ha : a < σ.1
  · rw [if_pos ha] at h
    refine ⟨ha, ?_⟩
    match hm : σ.2.2 a, h with
    | .inl (t', n, .inr (.inl f)), h =>
      by_cases hc : t' = 2
      · subst hc
        simp at h
        rw [← h]
      · simp [hc] at h
  · rw [if_neg ha] at h
    exact absurd h (by simp)
theorem arR_spec {t a : Nat} {σ : PS} {x : Nat × (Nat → Option Nat)} (h : arR t a σ = some x) : a < σ.1 ∧ σ.2.2 a = .inl (t, x.1, .inr (.inr x.2)) := by
  unfold arR at h
  by_cases ha : a < σ.1
  · rw [if_pos ha] at h
    refine ⟨ha, ?_⟩
    match hm : σ.2.2 a, h with
    | .inl (t', n, .inr (.inr f)), h =>
      by_cases hc : t' = t
      · subst hc
        simp at h
        rw [← h]
      · simp [hc] at h
  · rw [if_neg ha] at h
    exact absurd h (by simp)
theorem HR.cell {g : GW} {σ : PS} {H : Heap} {a : Nat} {x : PE} (h : HR g σ H) (ha : a < σ.1) (hm : σ.2.2 a = x) : va_at g.1 PCl (gB g + a, toE g x) H := by
  have := h.2.1 a ha
  rw [hm] at this
  exact this
theorem va_P.one {D : va_G} {cl : List vw_C} {q : Nat × va_E} {H : Heap} (h : va_at D cl q H) : va_P D cl [q] H := by
  intro k x hx
  have hz : k < 1 := (List.getElem?_eq_some_iff.mp hx).1
  rw [show k = 0 by omega] at hx
  cases hx
  exact h
section VH
variable {g : GW} {M : MI} {d : Nat} {α : Type} {rt : α → Option Value} {pc pc' : Nat} {lv : List (Nat × Value)} {st : List Value}
/-- the field k of the object at a holds v -/
theorem hp_get {own : String} {idx c k a : Nat} (hf : FL own idx c k) {p : Program} {l : Launch} {e : Env} {R : Room} {s : State} {m : MethodId} {args : Array Value} {below : List Frame} {meth : Method} {co : Code} {H : Heap} {locs : List Loc} {cells slots : Nat} {Q : State → Prop} {cc : ByteArray} {ls : Array Slot}
    (hx : p.tables.exec = Jvm.exec) (hb : co.code = cc) (hw : Wds s) (hown : s.vm.findClass own = some m.cls) (hK : va_K g.1 PCl (tyL g) s) {σ : PS} (h : HR g σ H) {fs : List Value} (ho : ob c a σ = some fs) {v : Value} (hv : fs[k]? = some v) (hd : decode cc pc = .ok (.getfield idx, 3))
    (kk : W p l e R s m args below meth co H locs cells slots Q (F0 m (pc + 3) ls (rv g v :: st))) : W p l e R s m args below meth co H locs cells slots Q (F0 m pc ls (rf g a :: st)) := by
  obtain ⟨C, T, N, hc, hk, hin, hlink⟩ := hf
  obtain ⟨ha, hm⟩ := ob_spec ho
  exact va_get (D := g.1) (ws := [(gB g + a, .inr (c, fs.map (rv g)))]) hx hb (Wds.at hw) hin hown hK (va_P.one (h.cell ha hm)) 0 rfl hc k hk (Wds.at hw _ hlink) (fun _ h => h) (by rw [List.getElem?_map, hv]; rfl) hd kk
end VH
theorem bd_spec {α β : Type} {m : Mo α} {f : α → Mo β} {σ σ' : PS} {r : β ⊕ (Nat × Nat)} (h : bd m f σ = some (r, σ')) : (∃ (x : α) (σ1 : PS), m σ = some (.inl x, σ1) ∧ f x σ1 = some (r, σ')) ∨ ∃ e : Nat × Nat, m σ = some (.inr e, σ') ∧ r = .inr e := by
  unfold bd at h
  split at h
  · exact absurd h (by simp)
  · exact Or.inl ⟨_, _, by assumption, h⟩
  · rename_i e σ1 hm
    cases h
    exact Or.inr ⟨e, hm, rfl⟩
theorem gI_spec {c k a : Nat} {σ σ' : PS} {r : Int32 ⊕ (Nat × Nat)} (h : gI c k a σ = some (r, σ')) : ∃ (x : Int32) (fs : List Value), r = .inl x ∧ σ' = σ ∧ ob c a σ = some fs ∧ fs[k]? = some (.int x) := by
  unfold gI at h
  split at h
  · split at h
    · cases h
      exact ⟨_, _, rfl, rfl, by assumption, by assumption⟩
    · exact absurd h (by simp)
  · exact absurd h (by simp)
theorem gJ_spec {c k a : Nat} {σ σ' : PS} {r : Int64 ⊕ (Nat × Nat)} (h : gJ c k a σ = some (r, σ')) : ∃ (x : Int64) (fs : List Value), r = .inl x ∧ σ' = σ ∧ ob c a σ = some fs ∧ fs[k]? = some (.long x) := by
  unfold gJ at h
  split at h
  · split at h
    · cases h
      exact ⟨_, _, rfl, rfl, by assumption, by assumption⟩
    · exact absurd h (by simp)
  · exact absurd h (by simp)
theorem gR_spec {c k a : Nat} {σ σ' : PS} {r : Nat ⊕ (Nat × Nat)} (h : gR c k a σ = some (r, σ')) : ∃ (x : Nat) (fs : List Value), r = .inl x ∧ σ' = σ ∧ ob c a σ = some fs ∧ fs[k]? = some (.ref x) := by
  unfold gR at h
  split at h
  · split at h
    · cases h
      exact ⟨_, _, rfl, rfl, by assumption, by assumption⟩
    · exact absurd h (by simp)
  · exact absurd h (by simp)
theorem gN_spec {c k a : Nat} {σ σ' : PS} {r : Option Nat ⊕ (Nat × Nat)} (h : gN c k a σ = some (r, σ')) : ∃ (x : Option Nat) (fs : List Value), r = .inl x ∧ σ' = σ ∧ ob c a σ = some fs ∧ fs[k]? = some (oV x) := by
  unfold gN at h
  split at h
  · split at h
    · cases h
      exact ⟨_, _, rfl, rfl, by assumption, by assumption⟩
    · cases h
      exact ⟨_, _, rfl, rfl, by assumption, by assumption⟩
    · exact absurd h (by simp)
  · exact absurd h (by simp)
theorem pf_spec {c k a : Nat} {v : Value} {σ σ' : PS} {r : Unit ⊕ (Nat × Nat)} (h : pf c k a v σ = some (r, σ')) : ∃ fs : List Value, r = .inl () ∧ ob c a σ = some fs ∧ k < fs.length ∧ σ' = (σ.1, σ.2.1, upP σ.2.2 a (.inr (c, fs.set k v))) := by
  unfold pf at h
  split at h
  · split at h
    · cases h
      exact ⟨_, rfl, by assumption, by assumption, rfl⟩
    · exact absurd h (by simp)
  · exact absurd h (by simp)
theorem al_spec {t a : Nat} {i : Int32} {σ σ' : PS} {r : Int32 ⊕ (Nat × Nat)} (h : al t a i σ = some (r, σ')) : ∃ (n : Nat) (f : Nat → Int32), ar t a σ = some (n, f) ∧ inN i n = true ∧ r = .inl (f i.toNatClampNeg) ∧ σ' = σ := by
  unfold al at h
  split at h
  · split at h
    · cases h
      exact ⟨_, _, by assumption, by assumption, rfl, rfl⟩
    · exact absurd h (by simp)
  · exact absurd h (by simp)
theorem as_spec {a : Nat} {i x : Int32} {σ σ' : PS} {r : Unit ⊕ (Nat × Nat)} (h : as_ a i x σ = some (r, σ')) : ∃ (n : Nat) (f : Nat → Int32), ar 0 a σ = some (n, f) ∧ inN i n = true ∧ r = .inl () ∧ σ' = (σ.1, σ.2.1, upP σ.2.2 a (.inl (0, n, .inl (upd f i.toNatClampNeg x)))) := by
  unfold as_ at h
  split at h
  · split at h
    · cases h
      exact ⟨_, _, by assumption, by assumption, rfl, rfl⟩
    · exact absurd h (by simp)
  · exact absurd h (by simp)
theorem bs_spec {a : Nat} {i x : Int32} {σ σ' : PS} {r : Unit ⊕ (Nat × Nat)} (h : bs_ a i x σ = some (r, σ')) : ∃ (n : Nat) (f : Nat → Int32), ar 1 a σ = some (n, f) ∧ inN i n = true ∧ r = .inl () ∧ σ' = (σ.1, σ.2.1, upP σ.2.2 a (.inl (1, n, .inl (upd f i.toNatClampNeg (vp_nar .byte x))))) := by
  unfold bs_ at h
  split at h
  · split at h
    · cases h
      exact ⟨_, _, by assumption, by assumption, rfl, rfl⟩
    · exact absurd h (by simp)
  · exact absurd h (by simp)
theorem ll_spec {a : Nat} {i : Int32} {σ σ' : PS} {r : Int64 ⊕ (Nat × Nat)} (h : ll a i σ = some (r, σ')) : ∃ (n : Nat) (f : Nat → Int64), arL a σ = some (n, f) ∧ inN i n = true ∧ r = .inl (f i.toNatClampNeg) ∧ σ' = σ := by
  unfold ll at h
  split at h
  · split at h
    · cases h
      exact ⟨_, _, by assumption, by assumption, rfl, rfl⟩
    · exact absurd h (by simp)
  · exact absurd h (by simp)
theorem ls_spec {a : Nat} {i : Int32} {x : Int64} {σ σ' : PS} {r : Unit ⊕ (Nat × Nat)} (h : ls_ a i x σ = some (r, σ')) : ∃ (n : Nat) (f : Nat → Int64), arL a σ = some (n, f) ∧ inN i n = true ∧ r = .inl () ∧ σ' = (σ.1, σ.2.1, upP σ.2.2 a (.inl (2, n, .inr (.inl (vp_updL f i.toNatClampNeg x))))) := by
  unfold ls_ at h
  split at h
  · split at h
    · cases h
      exact ⟨_, _, by assumption, by assumption, rfl, rfl⟩
    · exact absurd h (by simp)
  · exact absurd h (by simp)
theorem aR_spec {t a : Nat} {i : Int32} {σ σ' : PS} {r : Nat ⊕ (Nat × Nat)} (h : aR t a i σ = some (r, σ')) : ∃ (n : Nat) (f : Nat → Option Nat) (x : Nat), arR t a σ = some (n, f) ∧ inN i n = true ∧ f i.toNatClampNeg = some x ∧ r = .inl x ∧ σ' = σ := by
  unfold aR at h
  split at h
  · split at h
    · split at h
      · cases h
        exact ⟨_, _, _, by assumption, by assumption, by assumption, rfl, rfl⟩
      · exact absurd h (by simp)
    · exact absurd h (by simp)
  · exact absurd h (by simp)
theorem aN_spec {t a : Nat} {i : Int32} {σ σ' : PS} {r : Option Nat ⊕ (Nat × Nat)} (h : aN t a i σ = some (r, σ')) : ∃ (n : Nat) (f : Nat → Option Nat), arR t a σ = some (n, f) ∧ inN i n = true ∧ r = .inl (f i.toNatClampNeg) ∧ σ' = σ := by
  unfold aN at h
  split at h
  · split at h
    · cases h
      exact ⟨_, _, by assumption, by assumption, rfl, rfl⟩
    · exact absurd h (by simp)
  · exact absurd h (by simp)
theorem aq_spec {t c a x : Nat} {i : Int32} {σ σ' : PS} {r : Unit ⊕ (Nat × Nat)} (h : aq_ t c a i x σ = some (r, σ')) : ∃ (n : Nat) (f : Nat → Option Nat) (fs : List Value), arR t a σ = some (n, f) ∧ ob c x σ = some fs ∧ inN i n = true ∧ r = .inl () ∧ σ' = (σ.1, σ.2.1, upP σ.2.2 a (.inl (t, n, .inr (.inr (va_up f i.toNatClampNeg (some x)))))) := by
  unfold aq_ at h
  split at h
  · split at h
    · cases h
      exact ⟨_, _, _, by assumption, by assumption, by assumption, rfl, rfl⟩
    · exact absurd h (by simp)
  · exact absurd h (by simp)
theorem aLen_spec {a : Nat} {σ σ' : PS} {r : Int32 ⊕ (Nat × Nat)} (h : aLen a σ = some (r, σ')) : ∃ (t n : Nat) (x : (Nat → Int32) ⊕ (Nat → Int64) ⊕ (Nat → Option Nat)), a < σ.1 ∧ σ.2.2 a = .inl (t, n, x) ∧ t < 5 ∧ r = .inl (Int32.ofNat n) ∧ σ' = σ := by
  unfold aLen at h
  split at h
  · split at h
    · split at h
      · cases h
        exact ⟨_, _, _, by assumption, by assumption, by assumption, rfl, rfl⟩
      · exact absurd h (by simp)
    · exact absurd h (by simp)
  · exact absurd h (by simp)
theorem cv_spec {α : Type} {c a : Nat} {F : Mo α} {σ : PS} {x : (α ⊕ (Nat × Nat)) × PS} (h : cv c a F σ = some x) : ∃ fs : List Value, ob c a σ = some fs ∧ F σ = some x := by
  unfold cv at h
  split at h
  · exact ⟨_, by assumption, h⟩
  · exact absurd h (by simp)
theorem inN_in {i : Int32} {n : Nat} (h : inN i n = true) : vp_in i n := (of_decide_eq_true (p := ¬ (i < 0 ∨ n ≤ i.toNatClampNeg)) h)
