/-! THE START: the two objects made, by the kernel -/
def initP : Mo (Nat × Nat × Nat) := bd (nO 11 18 [.null, .null, .null, .null, .null, .null, .null, .null, .null, .null, .null, .null, .null, .null, .int 0, .int 0, .int 0, .int 0]) fun r308 => bd (ni (f_X11_init r308)) fun _ => bd (nO 12 49 [.int 0, .int 0, .int 0, .int 0, .int 0, .int 0, .int 0, .int 0, .int 0, .null, .null, .null, .null, .null, .null, .null, .null, .int 0, .int 0, .null, .null, .null, .null, .null, .null, .null, .int 0, .null, .null, .null, .null, .int 0, .int 0, .int 0, .int 0, .int 0, .int 0, .int 0, .null, .int 0, .int 0, .null, .null, .null, .int 0, .null, .int 0, .int 0, .int 0]) fun r309 => bd (ni (f_X12_init r309)) fun _ => bd (nL_ 1) fun r310 => pu (r308, r309, r310)
def μ00 : Nat → PE := fun _ => .inr (0, [])
theorem bd_assoc {α β γ : Type} (m : Mo α) (f : α → Mo β) (h : β → Mo γ) : bd (bd m f) h = bd m (fun x => bd (f x) h) := by
  funext σ
  unfold bd
  rcases m σ with _ | ⟨x | e, σ'⟩ <;> rfl
theorem law_split (g : GW) : f_L_law_ g = bd initP (fun r => f_L_law__b23 g NF r.1 r.2.1 r.2.2 0) := by
  unfold f_L_law_ initP
  simp only [bd_assoc]
  rfl
def shK (v : Value) : Nat := match v with
  | .int _ => 0
  | .long _ => 1
  | _ => 2
def shE (x : PE) : Shp := match x with
  | .inl (t, n, .inl _) => .inl (t, n, 0)
  | .inl (t, n, .inr (.inl _)) => .inl (t, n, 1)
  | .inl (t, n, .inr (.inr _)) => .inl (t, n, 2)
  | .inr (c, fs) => .inr (c, fs.map shK)
def inE (x : PE) (k : Nat) : Int32 := match x with
  | .inl (_, _, .inl f) => f k
  | .inr (_, fs) => (match fs[k]? with
    | some (.int v) => v
    | _ => 0)
  | _ => 0
def loE (x : PE) (k : Nat) : Int64 := match x with
  | .inl (_, _, .inr (.inl f)) => f k
  | .inr (_, fs) => (match fs[k]? with
    | some (.long v) => v
    | _ => 0)
  | _ => 0
def reE (x : PE) (k : Nat) : Option Nat := match x with
  | .inl (_, _, .inr (.inr f)) => f k
  | .inr (_, fs) => (match fs[k]? with
    | some (.ref v) => some v
    | _ => none)
  | _ => none
def plainV (v : Value) : Bool := match v with
  | .int _ => true
  | .long _ => true
  | .null => true
  | .ref _ => true
  | _ => false
def plainE (x : PE) : Bool := match x with
  | .inl _ => true
  | .inr (_, fs) => fs.all plainV
theorem fV_id {fs : List Value} (h : fs.all plainV = true) {k : Nat} {v : Value} (hv : fs[k]? = some v) (I : Nat → Int32) (J : Nat → Int64) (R : Nat → Option Nat) (hI : ∀ x, v = .int x → I k = x) (hJ : ∀ x, v = .long x → J k = x) (hR : ∀ x, v = .ref x → R k = some x) (hN : v = .null → R k = none) : fV I J R k (shK v) = v := by
  have h1 := List.all_eq_true.mp h v (List.mem_of_getElem? hv)
  cases v with
  | int x => simp [shK, fV, hI x rfl]
  | long x => simp [shK, fV, hJ x rfl]
  | ref x => simp [shK, fV, hR x rfl, oV]
  | null => simp [shK, fV, hN rfl, oV]
  | _ => simp [plainV] at h1
/-- every plain memory is a typed one -/
theorem MM_of {μ : Nat → PE} (h : ∀ a, plainE (μ a) = true) : μ = MM (fun a => shE (μ a)) (fun a => inE (μ a)) (fun a => loE (μ a)) (fun a => reE (μ a)) := by
  funext a
  have ha := h a
  show μ a = mkE (shE (μ a)) (inE (μ a)) (loE (μ a)) (reE (μ a))
  match hm : μ a, ha with
  | .inl (t, n, .inl f), _ => rfl
  | .inl (t, n, .inr (.inl f)), _ => rfl
  | .inl (t, n, .inr (.inr f)), _ => rfl
  | .inr (c, fs), ha =>
    show Sum.inr (c, fs) = Sum.inr (c, _)
    refine congrArg (fun z => Sum.inr (c, z)) (List.ext_getElem? fun k => ?_)
    rw [List.getElem?_mapIdx, List.getElem?_map]
    cases hk : fs[k]? with
    | none => rfl
    | some v =>
      simp only [Option.map_some]
      rw [fV_id ha hk]
      · intro x e; subst e; simp [inE, hk]
      · intro x e; subst e; simp [loE, hk]
      · intro x e; subst e; simp [reE, hk]
      · intro e; subst e; simp [reE, hk]
theorem init_sz : (match initP (0, 0, μ00) with
  | some (.inl r, σ) => decide (r = (0, 49, 525)) && decide (σ.1 = 526)
  | _ => false) = true := by decide +kernel
