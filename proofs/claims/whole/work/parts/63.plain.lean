/-! Plainness stays: every cell holds ints, longs, references or null -/
def Plm (σ : PS) : Prop := ∀ a, plainE (σ.2.2 a) = true
def Pl {α : Type} (m : Mo α) : Prop := ∀ σ r σ', Plm σ → m σ = some (r, σ') → Plm σ'
theorem Plm.up {n q n' q' : Nat} {μ : Nat → PE} (h : Plm (n, q, μ)) {a : Nat} {x : PE} (hx : plainE x = true) : Plm (n', q', upP μ a x) := by
  intro j
  show plainE (upP μ a x j) = true
  by_cases e : j = a
  · subst e
    rw [upP_s]
    exact hx
  · rw [upP_n _ _ e]
    exact h j
theorem Pl_bd {α β : Type} {m : Mo α} {f : α → Mo β} (h1 : Pl m) (h2 : ∀ x, Pl (f x)) : Pl (bd m f) := by
  intro σ r σ' hs h
  rcases bd_spec h with ⟨x, σ1, e1, e2⟩ | ⟨x, e1, -⟩
  · exact h2 x σ1 r σ' (h1 σ _ σ1 hs e1) e2
  · exact h1 σ _ σ' hs e1
theorem Pl_pu {α : Type} (x : α) : Pl (pu x) := by
  intro σ r σ' hs h
  cases h
  exact hs
theorem Pl_fl {α : Type} : Pl (fl : Mo α) := by
  intro σ r σ' hs h
  exact absurd (show (Option.none : Option ((α ⊕ (Nat × Nat)) × PS)) = some (r, σ') from h) (fun h => nomatch h)
theorem Pl_ite {α : Type} {c : Prop} {dc : Decidable c} {A B : Mo α} (h1 : Pl A) (h2 : Pl B) : Pl (@ite _ c dc A B) := by
  by_cases h : c
  · rw [if_pos h]; exact h1
  · rw [if_neg h]; exact h2
theorem Pl_ni {α : Type} {F : Mo α} (h : Pl F) : Pl (ni F) := by
  intro σ r σ' hs e
  obtain ⟨x, -, e2⟩ := ni_spec e
  exact h σ _ σ' hs e2
theorem Pl_cv {α : Type} {c a : Nat} {F : Mo α} (h : Pl F) : Pl (cv c a F) := by
  intro σ r σ' hs e
  obtain ⟨fs, -, e2⟩ := cv_spec e
  exact h σ _ σ' hs e2
theorem Pl_gI {c k a : Nat} : Pl (gI c k a) := by
  intro σ r σ' hs e
  obtain ⟨x, fs, -, e2, -⟩ := gI_spec e
  rw [e2]; exact hs
theorem Pl_gR {c k a : Nat} : Pl (gR c k a) := by
  intro σ r σ' hs e
  obtain ⟨x, fs, -, e2, -⟩ := gR_spec e
  rw [e2]; exact hs
theorem Pl_al {t a : Nat} {i : Int32} : Pl (al t a i) := by
  intro σ r σ' hs e
  obtain ⟨n, f, -, -, -, e2⟩ := al_spec e
  rw [e2]; exact hs
theorem Pl_aR {t a : Nat} {i : Int32} : Pl (aR t a i) := by
  intro σ r σ' hs e
  obtain ⟨n, f, x, -, -, -, -, e2⟩ := aR_spec e
  rw [e2]; exact hs
theorem Pl_aLen {a : Nat} : Pl (aLen a) := by
  intro σ r σ' hs e
  obtain ⟨t, n, x, -, -, -, -, e2⟩ := aLen_spec e
  rw [e2]; exact hs
theorem Pl_as {a : Nat} {i v : Int32} : Pl (as_ a i v) := by
  intro σ r σ' hs e
  obtain ⟨n, f, -, -, -, e2⟩ := as_spec e
  rw [e2]; exact Plm.up (n := σ.1) (q := σ.2.1) hs rfl
theorem Pl_pf {c k a : Nat} {v : Value} (hv : plainV v = true) : Pl (pf c k a v) := by
  intro σ r σ' hs e
  obtain ⟨fs, -, ho, -, e2⟩ := pf_spec e
  rw [e2]
  refine Plm.up (n := σ.1) (q := σ.2.1) hs ?_
  have h1 := hs a
  rw [(ob_spec ho).2] at h1
  have h2 : fs.all plainV = true := h1
  show (fs.set k v).all plainV = true
  refine List.all_eq_true.mpr fun w hw => ?_
  rcases List.mem_or_eq_of_mem_set hw with h | h
  · exact List.all_eq_true.mp h2 w h
  · rw [h]; exact hv
theorem Pl_nO {c N : Nat} {fs : List Value} (h : fs.all plainV = true) : Pl (nO c N fs) := by
  intro σ r σ' hs e
  unfold nO at e
  obtain ⟨-, e2⟩ := if_some e
  cases e2
  exact Plm.up (n := σ.1) (q := σ.2.1) hs h
theorem Pl_nA {t : Nat} {k : Int32} : Pl (nA t k) := by
  intro σ r σ' hs e
  unfold nA at e
  obtain ⟨-, e2⟩ := if_some e
  cases e2
  exact Plm.up (n := σ.1) (q := σ.2.1) hs rfl
theorem Pl_nL {k : Int32} : Pl (nL_ k) := by
  intro σ r σ' hs e
  unfold nL_ at e
  obtain ⟨-, e2⟩ := if_some e
  cases e2
  exact Plm.up (n := σ.1) (q := σ.2.1) hs rfl
theorem Pl_nQ {t : Nat} {k : Int32} : Pl (nQ t k) := by
  intro σ r σ' hs e
  unfold nQ at e
  obtain ⟨-, e2⟩ := if_some e
  cases e2
  exact Plm.up (n := σ.1) (q := σ.2.1) hs rfl
theorem Pl_nM {n k : Int32} : Pl (nM n k) := by
  intro σ r σ' hs e
  unfold nM at e
  obtain ⟨-, e2⟩ := if_some e
  cases e2
  intro j
  show plainE (if j = σ.1 then _ else _) = true
  split
  · rfl
  · split
    · rfl
    · exact hs j
theorem Pl_clear : ∀ (n a : Nat) (x : Int32), Pl (f_X1_clear_b2 n a x)
  | 0, _, _ => Pl_fl
  | n + 1, a, x => Pl_ite (Pl_bd (Pl_pf rfl) fun _ => Pl_bd (Pl_pf rfl) fun _ => Pl_pu _) (Pl_bd Pl_gR fun _ => Pl_bd Pl_as fun _ => Pl_clear n a _)
theorem Pl_tells : ∀ (n a : Nat) (x : Int32), Pl (f_X12_tellsNothing_b16 n a x)
  | 0, _, _ => Pl_fl
  | n + 1, a, x => Pl_ite (Pl_pu _) (Pl_bd Pl_gR fun _ => Pl_bd Pl_as fun _ => Pl_tells n a _)
theorem Pl_lays10 {k2 : Nat → Nat → Int32 → Int32 → Mo Unit} (hk : ∀ a b x y, Pl (k2 a b x y)) : ∀ (n a b : Nat) (x y z : Int32), Pl (f_X12_lays_b10 k2 n a b x y z)
  | 0, _, _, _, _, _ => Pl_fl
  | n + 1, a, b, x, y, z => Pl_bd Pl_aR fun _ => Pl_bd Pl_aLen fun _ => Pl_ite (hk _ _ _ _) (Pl_bd Pl_aR fun _ => Pl_bd Pl_aR fun _ => Pl_bd Pl_al fun _ => Pl_bd Pl_as fun _ => Pl_lays10 hk n _ _ _ _ _)
theorem Pl_lays2 : ∀ (n a b : Nat) (x y : Int32), Pl (f_X12_lays_b2 n a b x y)
  | 0, _, _, _, _ => Pl_fl
  | n + 1, a, b, x, y => Pl_ite (Pl_pu _) (Pl_lays10 (Pl_lays2 n) _ _ _ _ _ _)
theorem Pl_anew70 : ∀ (n a : Nat) (x : Int32), Pl (f_X12_beginsAnew_b70 n a x)
  | 0, _, _ => Pl_fl
  | n + 1, a, x => Pl_ite (Pl_bd (Pl_pf rfl) fun _ => Pl_bd (Pl_pf rfl) fun _ => Pl_bd (Pl_pf rfl) fun _ => Pl_bd (Pl_pf rfl) fun _ => Pl_bd (Pl_pf rfl) fun _ => Pl_pu _) (Pl_bd Pl_gR fun _ => Pl_bd Pl_as fun _ => Pl_anew70 n a _)
theorem Pl_anew27 : ∀ (n a : Nat) (x : Int32), Pl (f_X12_beginsAnew_b27 n a x)
  | 0, _, _ => Pl_fl
  | n + 1, a, x => Pl_ite (Pl_bd Pl_gR fun _ => Pl_bd Pl_gR fun _ => Pl_bd Pl_gR fun _ => Pl_bd Pl_al fun _ => Pl_bd (Pl_lays2 _ _ _ _ _) fun _ => Pl_anew70 _ _ _) (Pl_bd Pl_gR fun _ => Pl_bd Pl_gR fun _ => Pl_bd Pl_al fun _ => Pl_bd Pl_as fun _ => Pl_anew27 n a _)
theorem Pl_anew2 : ∀ (n a : Nat) (x : Int32), Pl (f_X12_beginsAnew_b2 n a x)
  | 0, _, _ => Pl_fl
  | n + 1, a, x => Pl_ite (Pl_anew27 _ _ _) (Pl_bd Pl_gR fun _ => Pl_bd Pl_gR fun _ => Pl_bd Pl_al fun _ => Pl_bd Pl_as fun _ => Pl_anew2 n a _)
theorem Pl_put {a : Nat} {x : Int32} : Pl (f_X4_put a x) := by
  unfold f_X4_put
  repeat (first | exact Pl_gI | exact Pl_gR | exact Pl_as | exact Pl_aLen | exact Pl_pu _ | exact Pl_pf rfl | refine Pl_ite ?_ ?_ | refine Pl_bd ?_ fun _ => ?_)
set_option maxHeartbeats 1000000 in
theorem Pl_init : Pl initP := by
  unfold initP f_X11_init f_X12_init f_X8_init f_X2_init f_X4_init f_X9_init f_X1_init f_X6_init f_X7_init f_X0_init f_X10_init f_X5_init f_X4_setUsual f_X1_clear f_X12_tellsNothing f_X12_beginsAnew
  repeat (first | exact Pl_gR | exact Pl_nA | exact Pl_pf rfl | exact Pl_pu _ | exact Pl_put | exact Pl_as | exact Pl_nM | exact Pl_nQ | exact Pl_nL | exact Pl_nO rfl | exact Pl_clear _ _ _ | exact Pl_tells _ _ _ | exact Pl_anew2 _ _ _ | refine Pl_cv ?_ | refine Pl_ni ?_ | refine Pl_bd ?_ fun _ => ?_)
