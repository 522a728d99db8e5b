/-! THE PURE MACHINE. A state of memory is (how many cells, how many slots, the cells by number); a program is a function of it. -/
abbrev PE : Type := (Nat × Nat × ((Nat → Int32) ⊕ (Nat → Int64) ⊕ (Nat → Option Nat))) ⊕ (Nat × List Value)
abbrev PS : Type := Nat × Nat × (Nat → PE)
abbrev Mo (α : Type) : Type := PS → Option ((α ⊕ (Nat × Nat)) × PS)
/-- the world: class numbers, array classes, the first address, the heap at the start, the script, the texts' addresses -/
abbrev GW : Type := va_G × (Nat → ClassId) × Nat × Heap × (Nat × Nat × (Nat → Int32)) × (Nat → Nat)
def gB (g : GW) : Nat := g.2.2.1
def gH (g : GW) : Heap := g.2.2.2.1
def gA (g : GW) : Nat → ClassId := g.2.1
def rf (g : GW) (a : Nat) : Value := .ref (gB g + a)
def rv (g : GW) (v : Value) : Value := match v with
  | .ref a => .ref (gB g + a)
  | w => w
def rn (g : GW) (o : Option Nat) : Value := match o with
  | none => .null
  | some a => .ref (gB g + a)
def oV (o : Option Nat) : Value := match o with
  | none => .null
  | some a => .ref a
theorem rv_oV (g : GW) (o : Option Nat) : rv g (oV o) = rn g o := by cases o <;> rfl
def T0 : u_T := fun _ => ("", "", "", false)
def RNSE : String := "java/util/NoSuchElementException"
def RIAE : String := "java/lang/IllegalArgumentException"
def PCl : List vw_C := [(RX0, TX0, 6), (RX1, TX1, 6), (RX2, TX2, 6), (RX3, TX3, 3), (RX4, TX4, 3), (RX5, TX5, 6), (RX6, TX6, 3), (RX7, TX7, 6), (RX8, TX8, 7), (RX9, TX9, 8), (RX10, TX10, 5), (RX11, TX11, 18), (RX12, TX12, 49), (RNSE, T0, 0), (RIAE, T0, 0)]
def tyL (g : GW) : List (ClassId × FieldType) := [(gA g 0, .int), (gA g 1, .byte), (gA g 2, .long), (gA g 3, .array .int), (gA g 4, .object RX3)]
def toE (g : GW) (x : PE) : va_E := match x with
  | .inl (t, n, .inl f) => .inl (gA g t, n, .inl f)
  | .inl (t, n, .inr (.inl f)) => .inl (gA g t, n, .inr (.inl f))
  | .inl (t, n, .inr (.inr f)) => .inl (gA g t, n, .inr (.inr (.inr (.inr (fun i => (f i).map (gB g + ·))))))
  | .inr (c, fs) => .inr (c, fs.map (rv g))
def CM : Nat := 601024
def SM : Nat := 7293034
/-- the heap holds the pure memory, the old cells are as they were -/
def HR (g : GW) (σ : PS) (H : Heap) : Prop := H.size = gB g + σ.1 ∧ (∀ i, i < σ.1 → va_at g.1 PCl (gB g + i, toE g (σ.2.2 i)) H) ∧ (gH g).size = gB g ∧ (∀ q : Nat, q < gB g → H[q]? = (gH g)[q]?) ∧ σ.1 ≤ CM ∧ σ.2.1 ≤ SM
def upP (f : Nat → PE) (k : Nat) (x : PE) : Nat → PE := fun j => if j = k then x else f j
theorem upP_s (f : Nat → PE) (k : Nat) (x : PE) : upP f k x k = x := if_pos rfl
theorem upP_n (f : Nat → PE) {k j : Nat} (x : PE) (h : j ≠ k) : upP f k x j = f j := if_neg h
/-- a cell changes -/
theorem HR.set {g : GW} {σ : PS} {H H1 : Heap} {a : Nat} {x : PE} (h : HR g σ H) (he : va_at g.1 PCl (gB g + a, toE g x) H1) (hz : H1.size = H.size) (ho : ∀ q : Nat, q ≠ gB g + a → H1[q]? = H[q]?) : HR g (σ.1, σ.2.1, upP σ.2.2 a x) H1 := by
  obtain ⟨h1, h2, h3, h4, h5⟩ := h
  refine ⟨hz.trans h1, fun i hi => ?_, h3, fun q hq => (ho q (by omega)).trans (h4 q hq), h5⟩
  by_cases e : i = a
  · subst e
    show va_at g.1 PCl (gB g + i, toE g (upP σ.2.2 i x i)) H1
    rw [upP_s]
    exact he
  · show va_at g.1 PCl (gB g + i, toE g (upP σ.2.2 a x i)) H1
    rw [upP_n σ.2.2 x e]
    exact (h2 i hi).kept (ho (gB g + i) (by omega))
/-- a cell more -/
theorem HR.push {g : GW} {n k k' : Nat} {μ : Nat → PE} {H H1 : Heap} {x : PE} (h : HR g (n, k, μ) H) (he : va_at g.1 PCl (gB g + n, toE g x) H1) (hz : H1.size = H.size + 1) (ho : ∀ q : Nat, q < H.size → H1[q]? = H[q]?) (hB : n + 1 ≤ CM ∧ k' ≤ SM) : HR g (n + 1, k', upP μ n x) H1 := by
  obtain ⟨h1, h2, h3, h4, h5⟩ := h
  have h1' : H.size = gB g + n := h1
  refine ⟨by rw [hz, h1']; rfl, fun i hi => ?_, h3, fun q hq => (ho q (by omega)).trans (h4 q hq), hB⟩
  by_cases e : i = n
  · subst e
    show va_at g.1 PCl (gB g + i, toE g (upP μ i x i)) H1
    rw [upP_s]
    exact he
  · have hi' : i < n + 1 := hi
    show va_at g.1 PCl (gB g + i, toE g (upP μ n x i)) H1
    rw [upP_n μ x e]
    exact (h2 i (show i < n by omega)).kept (ho (gB g + i) (by omega))
-- programs
def pu {α : Type} (x : α) : Mo α := fun σ => some (.inl x, σ)
def bd {α β : Type} (m : Mo α) (f : α → Mo β) : Mo β := fun σ => match m σ with
  | none => none
  | some (.inl x, σ') => f x σ'
  | some (.inr e, σ') => some (.inr e, σ')
def fl {α : Type} : Mo α := fun _ => none
/-- the object of class c at a -/
def ob (c a : Nat) (σ : PS) : Option (List Value) := if a < σ.1 then (match σ.2.2 a with
  | .inr (c', fs) => if c' = c then some fs else none
  | .inl _ => none) else none
def gI (c k a : Nat) : Mo Int32 := fun σ => match ob c a σ with
  | some fs => (match fs[k]? with
    | some (.int x) => some (.inl x, σ)
    | _ => none)
  | none => none
def gJ (c k a : Nat) : Mo Int64 := fun σ => match ob c a σ with
  | some fs => (match fs[k]? with
    | some (.long x) => some (.inl x, σ)
    | _ => none)
  | none => none
def gR (c k a : Nat) : Mo Nat := fun σ => match ob c a σ with
  | some fs => (match fs[k]? with
    | some (.ref x) => some (.inl x, σ)
    | _ => none)
  | none => none
def gN (c k a : Nat) : Mo (Option Nat) := fun σ => match ob c a σ with
  | some fs => (match fs[k]? with
    | some (.ref x) => some (.inl (some x), σ)
    | some .null => some (.inl none, σ)
    | _ => none)
  | none => none
/-- a field is written -/
def pf (c k a : Nat) (v : Value) : Mo Unit := fun σ => match ob c a σ with
  | some fs => if k < fs.length then some (.inl (), (σ.1, σ.2.1, upP σ.2.2 a (.inr (c, fs.set k v)))) else none
  | none => none
/-- an array of whole numbers of type t at a -/
def ar (t a : Nat) (σ : PS) : Option (Nat × (Nat → Int32)) := if a < σ.1 then (match σ.2.2 a with
  | .inl (t', n, .inl f) => if t' = t then some (n, f) else none
  | _ => none) else none
def arL (a : Nat) (σ : PS) : Option (Nat × (Nat → Int64)) := if a < σ.1 then (match σ.2.2 a with
  | .inl (t', n, .inr (.inl f)) => if t' = 2 then some (n, f) else none
  | _ => none) else none
def arR (t a : Nat) (σ : PS) : Option (Nat × (Nat → Option Nat)) := if a < σ.1 then (match σ.2.2 a with
  | .inl (t', n, .inr (.inr f)) => if t' = t then some (n, f) else none
  | _ => none) else none
def inN (i : Int32) (n : Nat) : Bool := decide (¬ (i < 0 ∨ n ≤ i.toNatClampNeg))
def al (t a : Nat) (i : Int32) : Mo Int32 := fun σ => match ar t a σ with
  | some (n, f) => if inN i n = true then some (.inl (f i.toNatClampNeg), σ) else none
  | none => none
def as_ (a : Nat) (i x : Int32) : Mo Unit := fun σ => match ar 0 a σ with
  | some (n, f) => if inN i n = true then some (.inl (), (σ.1, σ.2.1, upP σ.2.2 a (.inl (0, n, .inl (upd f i.toNatClampNeg x))))) else none
  | none => none
def bs_ (a : Nat) (i x : Int32) : Mo Unit := fun σ => match ar 1 a σ with
  | some (n, f) => if inN i n = true then some (.inl (), (σ.1, σ.2.1, upP σ.2.2 a (.inl (1, n, .inl (upd f i.toNatClampNeg (vp_nar .byte x)))))) else none
  | none => none
def ll (a : Nat) (i : Int32) : Mo Int64 := fun σ => match arL a σ with
  | some (n, f) => if inN i n = true then some (.inl (f i.toNatClampNeg), σ) else none
  | none => none
def ls_ (a : Nat) (i : Int32) (x : Int64) : Mo Unit := fun σ => match arL a σ with
  | some (n, f) => if inN i n = true then some (.inl (), (σ.1, σ.2.1, upP σ.2.2 a (.inl (2, n, .inr (.inl (vp_updL f i.toNatClampNeg x)))))) else none
  | none => none
/-- a row of a grid: it is there -/
def aR (t a : Nat) (i : Int32) : Mo Nat := fun σ => match arR t a σ with
  | some (n, f) => if inN i n = true then (match f i.toNatClampNeg with
    | some x => some (.inl x, σ)
    | none => none) else none
  | none => none
def aN (t a : Nat) (i : Int32) : Mo (Option Nat) := fun σ => match arR t a σ with
  | some (n, f) => if inN i n = true then some (.inl (f i.toNatClampNeg), σ) else none
  | none => none
/-- an object of class c goes into an array of such -/
def aq_ (t c a : Nat) (i : Int32) (x : Nat) : Mo Unit := fun σ => match arR t a σ, ob c x σ with
  | some (n, f), some _ => if inN i n = true then some (.inl (), (σ.1, σ.2.1, upP σ.2.2 a (.inl (t, n, .inr (.inr (va_up f i.toNatClampNeg (some x))))))) else none
  | _, _ => none
def aLen (a : Nat) : Mo Int32 := fun σ => if a < σ.1 then (match σ.2.2 a with
  | .inl (t, n, _) => if t < 5 then some (.inl (Int32.ofNat n), σ) else none
  | _ => none) else none
def nO (c N : Nat) (fs : List Value) : Mo Nat := fun σ => if σ.1 + 1 ≤ CM ∧ σ.2.1 + N ≤ SM then some (.inl σ.1, (σ.1 + 1, σ.2.1 + N, upP σ.2.2 σ.1 (.inr (c, fs)))) else none
def nA (t : Nat) (n : Int32) : Mo Nat := fun σ => if ¬ n < 0 ∧ n.toNatClampNeg ≤ 10000 ∧ σ.1 + 1 ≤ CM ∧ σ.2.1 + n.toNatClampNeg ≤ SM then some (.inl σ.1, (σ.1 + 1, σ.2.1 + n.toNatClampNeg, upP σ.2.2 σ.1 (.inl (t, n.toNatClampNeg, .inl (fun _ => 0))))) else none
def nL_ (n : Int32) : Mo Nat := fun σ => if ¬ n < 0 ∧ n.toNatClampNeg ≤ 10000 ∧ σ.1 + 1 ≤ CM ∧ σ.2.1 + n.toNatClampNeg ≤ SM then some (.inl σ.1, (σ.1 + 1, σ.2.1 + n.toNatClampNeg, upP σ.2.2 σ.1 (.inl (2, n.toNatClampNeg, .inr (.inl (fun _ => 0)))))) else none
def nQ (t : Nat) (n : Int32) : Mo Nat := fun σ => if ¬ n < 0 ∧ n.toNatClampNeg ≤ 10000 ∧ σ.1 + 1 ≤ CM ∧ σ.2.1 + n.toNatClampNeg ≤ SM then some (.inl σ.1, (σ.1 + 1, σ.2.1 + n.toNatClampNeg, upP σ.2.2 σ.1 (.inl (t, n.toNatClampNeg, .inr (.inr (fun _ => none)))))) else none
/-- the receiver is of class c -/
def cv {α : Type} (c a : Nat) (F : Mo α) : Mo α := fun σ => match ob c a σ with
  | some _ => F σ
  | none => none
def dv (x y : Int32) : Mo Int32 := if y = 0 then fl else pu (x / y)
def rm_ (x y : Int32) : Mo Int32 := if y = 0 then fl else pu (x - x / y * y)
/-- thrown: a fresh object of class c -/
def th {α : Type} (c : Nat) : Mo α := fun σ => if σ.1 + 1 ≤ CM ∧ σ.2.1 + 6 ≤ SM then some (.inr (σ.1, c), (σ.1 + 1, σ.2.1 + 6, upP σ.2.2 σ.1 (.inr (c, [])))) else none
def sw {α : Type} (x : Int32) (lo : Int) (bs : List (Mo α)) (d : Mo α) : Mo α := if x.toInt < lo then d else (bs[(x.toInt - lo).toNat]?).getD d
