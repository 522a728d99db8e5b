/-! PURE PART: a typed memory. Shapes sh (arrays: type, length, kind; objects: class, kinds of the fields; kinds: 0 int, 1 long, 2 reference), whole numbers I, longs J, references R. -/
abbrev Shp : Type := (Nat × Nat × Nat) ⊕ (Nat × List Nat)
def fV (I : Nat → Int32) (J : Nat → Int64) (R : Nat → Option Nat) (k kd : Nat) : Value := match kd with
  | 0 => .int (I k)
  | 1 => .long (J k)
  | _ => oV (R k)
def mkE (s : Shp) (I : Nat → Int32) (J : Nat → Int64) (R : Nat → Option Nat) : PE := match s with
  | .inl (t, n, 0) => .inl (t, n, .inl I)
  | .inl (t, n, 1) => .inl (t, n, .inr (.inl J))
  | .inl (t, n, _ + 2) => .inl (t, n, .inr (.inr R))
  | .inr (c, ks) => .inr (c, ks.mapIdx (fun k kd => fV I J R k kd))
def MM (sh : Nat → Shp) (I : Nat → Nat → Int32) (J : Nat → Nat → Int64) (R : Nat → Nat → Option Nat) : Nat → PE := fun a => mkE (sh a) (I a) (J a) (R a)
def up1 {α : Type} (F : Nat → α) (a : Nat) (v : α) : Nat → α := fun a' => if a' = a then v else F a'
def up2 {α : Type} (F : Nat → Nat → α) (a k : Nat) (v : α) : Nat → Nat → α := fun a' k' => if a' = a ∧ k' = k then v else F a' k'
theorem up1_s {α : Type} {F : Nat → α} {a : Nat} {v : α} : up1 F a v a = v := if_pos rfl
theorem up1_n {α : Type} {F : Nat → α} {a a' : Nat} {v : α} (h : a' ≠ a) : up1 F a v a' = F a' := if_neg h
theorem up2_s {α : Type} {F : Nat → Nat → α} {a k : Nat} {v : α} : up2 F a k v a k = v := if_pos ⟨rfl, rfl⟩
theorem up2_a {α : Type} {F : Nat → Nat → α} {a k a' k' : Nat} {v : α} (h : a' ≠ a) : up2 F a k v a' k' = F a' k' := if_neg fun q => h q.1
theorem up2_k {α : Type} {F : Nat → Nat → α} {a k a' k' : Nat} {v : α} (h : k' ≠ k) : up2 F a k v a' k' = F a' k' := if_neg fun q => h q.2
theorem up2_ra {α : Type} {F : Nat → Nat → α} {a k a' : Nat} {v : α} (h : a' ≠ a) : up2 F a k v a' = F a' := funext fun _ => up2_a h
theorem up2_rs {α : Type} {F : Nat → Nat → α} {a k : Nat} {v : α} : up2 F a k v a = up1 (F a) k v := by
  funext k'
  by_cases h : k' = k
  · subst h
    rw [up2_s, up1_s]
  · rw [up2_k h, up1_n h]
section MEM
variable {n q : Nat} {sh : Nat → Shp} {I : Nat → Nat → Int32} {J : Nat → Nat → Int64} {R : Nat → Nat → Option Nat}
theorem m_ob {a c : Nat} {ks : List Nat} (ha : a < n) (hs : sh a = .inr (c, ks)) : ob c a (n, q, MM sh I J R) = some (ks.mapIdx (fun k kd => fV (I a) (J a) (R a) k kd)) := by
  unfold ob
  rw [if_pos ha]
  show (match mkE (sh a) (I a) (J a) (R a) with
    | .inr (c', fs) => if c' = c then some fs else none
    | .inl _ => none) = _
  rw [hs]
  simp [mkE]
theorem m_ar {a t m : Nat} (ha : a < n) (hs : sh a = .inl (t, m, 0)) : ar t a (n, q, MM sh I J R) = some (m, I a) := by
  unfold ar
  rw [if_pos ha]
  show (match mkE (sh a) (I a) (J a) (R a) with
    | .inl (t', n, .inl f) => if t' = t then some (n, f) else none
    | _ => none) = _
  rw [hs]
  simp [mkE]
theorem m_arL {a m : Nat} (ha : a < n) (hs : sh a = .inl (2, m, 1)) : arL a (n, q, MM sh I J R) = some (m, J a) := by
  unfold arL
  rw [if_pos ha]
  show (match mkE (sh a) (I a) (J a) (R a) with
    | .inl (t', n, .inr (.inl f)) => if t' = 2 then some (n, f) else none
    | _ => none) = _
  rw [hs]
  simp [mkE]
theorem m_arR {a t m : Nat} (ha : a < n) (hs : sh a = .inl (t, m, 2)) : arR t a (n, q, MM sh I J R) = some (m, R a) := by
  unfold arR
  rw [if_pos ha]
  show (match mkE (sh a) (I a) (J a) (R a) with
    | .inl (t', n, .inr (.inr f)) => if t' = t then some (n, f) else none
    | _ => none) = _
  rw [hs]
  simp [mkE]
theorem m_gI {a c k : Nat} {ks : List Nat} (ha : a < n) (hs : sh a = .inr (c, ks)) (hk : ks[k]? = some 0) : gI c k a (n, q, MM sh I J R) = some (.inl (I a k), (n, q, MM sh I J R)) := by
  simp [gI, m_ob ha hs, List.getElem?_mapIdx, hk, fV]
theorem m_gJ {a c k : Nat} {ks : List Nat} (ha : a < n) (hs : sh a = .inr (c, ks)) (hk : ks[k]? = some 1) : gJ c k a (n, q, MM sh I J R) = some (.inl (J a k), (n, q, MM sh I J R)) := by
  simp [gJ, m_ob ha hs, List.getElem?_mapIdx, hk, fV]
theorem m_gR {a c k x : Nat} {ks : List Nat} (ha : a < n) (hs : sh a = .inr (c, ks)) (hk : ks[k]? = some 2) (hr : R a k = some x) : gR c k a (n, q, MM sh I J R) = some (.inl x, (n, q, MM sh I J R)) := by
  simp [gR, m_ob ha hs, List.getElem?_mapIdx, hk, fV, hr, oV]
theorem m_gN {a c k : Nat} {ks : List Nat} (ha : a < n) (hs : sh a = .inr (c, ks)) (hk : ks[k]? = some 2) : gN c k a (n, q, MM sh I J R) = some (.inl (R a k), (n, q, MM sh I J R)) := by
  cases hr : R a k <;> simp [gN, m_ob ha hs, List.getElem?_mapIdx, hk, fV, hr, oV]
theorem MM_ext {μ : Nat → PE} {sh' : Nat → Shp} {I' : Nat → Nat → Int32} {J' : Nat → Nat → Int64} {R' : Nat → Nat → Option Nat} {a : Nat} {x : PE} (h1 : x = mkE (sh' a) (I' a) (J' a) (R' a)) (h2 : ∀ j, j ≠ a → μ j = mkE (sh' j) (I' j) (J' j) (R' j)) : upP μ a x = MM sh' I' J' R' := by
  funext j
  by_cases hj : j = a
  · subst hj
    rw [upP_s, h1]
    rfl
  · rw [upP_n _ _ hj, h2 j hj]
    rfl
theorem m_pfI {a c k : Nat} {ks : List Nat} {v : Int32} (ha : a < n) (hs : sh a = .inr (c, ks)) (hk : ks[k]? = some 0) : pf c k a (.int v) (n, q, MM sh I J R) = some (.inl (), (n, q, MM sh (up2 I a k v) J R)) := by
  have hl : k < ks.length := (List.getElem?_eq_some_iff.mp hk).1
  unfold pf
  rw [m_ob ha hs]
  simp only [List.length_mapIdx, hl, if_true]
  refine congrArg (fun z => some (Sum.inl (), (n, q, z))) (MM_ext ?_ (fun j hj => by rw [up2_ra hj]; rfl))
  rw [hs]
  show Sum.inr (c, _) = Sum.inr (c, _)
  refine congrArg (fun z => Sum.inr (c, z)) (List.ext_getElem? fun i => ?_)
  rw [List.getElem?_set, List.getElem?_mapIdx, List.getElem?_mapIdx, List.length_mapIdx]
  by_cases hi : k = i
  · subst hi
    rw [if_pos rfl, if_pos hl, hk]
    simp [fV, up2_s]
  · rw [if_neg hi]
    cases hks : ks[i]? with
    | none => rfl
    | some kd =>
      simp only [Option.map_some]
      congr 1
      unfold fV
      rw [up2_k (Ne.symm hi)]
theorem m_pfJ {a c k : Nat} {ks : List Nat} {v : Int64} (ha : a < n) (hs : sh a = .inr (c, ks)) (hk : ks[k]? = some 1) : pf c k a (.long v) (n, q, MM sh I J R) = some (.inl (), (n, q, MM sh I (up2 J a k v) R)) := by
  have hl : k < ks.length := (List.getElem?_eq_some_iff.mp hk).1
  unfold pf
  rw [m_ob ha hs]
  simp only [List.length_mapIdx, hl, if_true]
  refine congrArg (fun z => some (Sum.inl (), (n, q, z))) (MM_ext ?_ (fun j hj => by rw [up2_ra hj]; rfl))
  rw [hs]
  show Sum.inr (c, _) = Sum.inr (c, _)
  refine congrArg (fun z => Sum.inr (c, z)) (List.ext_getElem? fun i => ?_)
  rw [List.getElem?_set, List.getElem?_mapIdx, List.getElem?_mapIdx, List.length_mapIdx]
  by_cases hi : k = i
  · subst hi
    rw [if_pos rfl, if_pos hl, hk]
    simp [fV, up2_s]
  · rw [if_neg hi]
    cases hks : ks[i]? with
    | none => rfl
    | some kd =>
      simp only [Option.map_some]
      congr 1
      unfold fV
      rw [up2_k (Ne.symm hi)]
theorem m_pfR {a c k : Nat} {ks : List Nat} {v : Option Nat} (ha : a < n) (hs : sh a = .inr (c, ks)) (hk : ks[k]? = some 2) : pf c k a (oV v) (n, q, MM sh I J R) = some (.inl (), (n, q, MM sh I J (up2 R a k v))) := by
  have hl : k < ks.length := (List.getElem?_eq_some_iff.mp hk).1
  unfold pf
  rw [m_ob ha hs]
  simp only [List.length_mapIdx, hl, if_true]
  refine congrArg (fun z => some (Sum.inl (), (n, q, z))) (MM_ext ?_ (fun j hj => by rw [up2_ra hj]; rfl))
  rw [hs]
  show Sum.inr (c, _) = Sum.inr (c, _)
  refine congrArg (fun z => Sum.inr (c, z)) (List.ext_getElem? fun i => ?_)
  rw [List.getElem?_set, List.getElem?_mapIdx, List.getElem?_mapIdx, List.length_mapIdx]
  by_cases hi : k = i
  · subst hi
    rw [if_pos rfl, if_pos hl, hk]
    simp [fV, up2_s]
  · rw [if_neg hi]
    cases hks : ks[i]? with
    | none => rfl
    | some kd =>
      simp only [Option.map_some]
      congr 1
      unfold fV
      rw [up2_k (Ne.symm hi)]
theorem m_pfr {a c k x : Nat} {ks : List Nat} (ha : a < n) (hs : sh a = .inr (c, ks)) (hk : ks[k]? = some 2) : pf c k a (.ref x) (n, q, MM sh I J R) = some (.inl (), (n, q, MM sh I J (up2 R a k (some x)))) := m_pfR (v := some x) ha hs hk
theorem m_al {a t m : Nat} {i : Int32} (ha : a < n) (hs : sh a = .inl (t, m, 0)) (hi : inN i m = true) : al t a i (n, q, MM sh I J R) = some (.inl (I a i.toNatClampNeg), (n, q, MM sh I J R)) := by
  simp [al, m_ar ha hs, hi]
theorem m_ll {a m : Nat} {i : Int32} (ha : a < n) (hs : sh a = .inl (2, m, 1)) (hi : inN i m = true) : ll a i (n, q, MM sh I J R) = some (.inl (J a i.toNatClampNeg), (n, q, MM sh I J R)) := by
  simp [ll, m_arL ha hs, hi]
theorem m_as {a m : Nat} {i v : Int32} (ha : a < n) (hs : sh a = .inl (0, m, 0)) (hi : inN i m = true) : as_ a i v (n, q, MM sh I J R) = some (.inl (), (n, q, MM sh (up2 I a i.toNatClampNeg v) J R)) := by
  unfold as_
  rw [m_ar ha hs]
  simp only [hi, if_true]
  refine congrArg (fun z => some (Sum.inl (), (n, q, z))) (MM_ext ?_ (fun j hj => by rw [up2_ra hj]; rfl))
  rw [hs, up2_rs]
  rfl
theorem m_bs {a m : Nat} {i v : Int32} (ha : a < n) (hs : sh a = .inl (1, m, 0)) (hi : inN i m = true) : bs_ a i v (n, q, MM sh I J R) = some (.inl (), (n, q, MM sh (up2 I a i.toNatClampNeg (vp_nar .byte v)) J R)) := by
  unfold bs_
  rw [m_ar ha hs]
  simp only [hi, if_true]
  refine congrArg (fun z => some (Sum.inl (), (n, q, z))) (MM_ext ?_ (fun j hj => by rw [up2_ra hj]; rfl))
  rw [hs, up2_rs]
  rfl
theorem m_ls {a m : Nat} {i : Int32} {v : Int64} (ha : a < n) (hs : sh a = .inl (2, m, 1)) (hi : inN i m = true) : ls_ a i v (n, q, MM sh I J R) = some (.inl (), (n, q, MM sh I (up2 J a i.toNatClampNeg v) R)) := by
  unfold ls_
  rw [m_arL ha hs]
  simp only [hi, if_true]
  refine congrArg (fun z => some (Sum.inl (), (n, q, z))) (MM_ext ?_ (fun j hj => by rw [up2_ra hj]; rfl))
  rw [hs, up2_rs]
  rfl
theorem m_aR {a t m x : Nat} {i : Int32} (ha : a < n) (hs : sh a = .inl (t, m, 2)) (hi : inN i m = true) (hr : R a i.toNatClampNeg = some x) : aR t a i (n, q, MM sh I J R) = some (.inl x, (n, q, MM sh I J R)) := by
  simp [aR, m_arR ha hs, hi, hr]
theorem m_aN {a t m : Nat} {i : Int32} (ha : a < n) (hs : sh a = .inl (t, m, 2)) (hi : inN i m = true) : aN t a i (n, q, MM sh I J R) = some (.inl (R a i.toNatClampNeg), (n, q, MM sh I J R)) := by
  simp [aN, m_arR ha hs, hi]
theorem m_aq {a t m c x : Nat} {ks : List Nat} {i : Int32} (ha : a < n) (hs : sh a = .inl (t, m, 2)) (hi : inN i m = true) (hx : x < n) (hsx : sh x = .inr (c, ks)) : aq_ t c a i x (n, q, MM sh I J R) = some (.inl (), (n, q, MM sh I J (up2 R a i.toNatClampNeg (some x)))) := by
  unfold aq_
  rw [m_arR ha hs, m_ob hx hsx]
  simp only [hi, if_true]
  refine congrArg (fun z => some (Sum.inl (), (n, q, z))) (MM_ext ?_ (fun j hj => by rw [up2_ra hj]; rfl))
  rw [hs, up2_rs]
  rfl
theorem m_len {a t m kd : Nat} (ha : a < n) (hs : sh a = .inl (t, m, kd)) (ht : t < 5) : aLen a (n, q, MM sh I J R) = some (.inl (Int32.ofNat m), (n, q, MM sh I J R)) := by
  unfold aLen
  rw [if_pos ha]
  have e : (n, q, MM sh I J R).2.2 a = mkE (sh a) (I a) (J a) (R a) := rfl
  rw [e, hs]
  match kd with
  | 0 => simp [mkE, ht]
  | 1 => simp [mkE, ht]
  | k + 2 => simp [mkE, ht]
theorem m_cp {a0 a1 m0 m1 : Nat} {sp dp k : Int32} (h0 : a0 < n) (h1 : a1 < n) (s0 : sh a0 = .inl (0, m0, 0)) (s1 : sh a1 = .inl (0, m1, 0)) (hc : ¬ sp < 0 ∧ ¬ dp < 0 ∧ ¬ k < 0 ∧ sp.toNatClampNeg + k.toNatClampNeg ≤ m0 ∧ dp.toNatClampNeg + k.toNatClampNeg ≤ m1) : cp_ a0 sp a1 dp k (n, q, MM sh I J R) = some (.inl (), (n, q, MM sh (up1 I a1 (va_cpy (I a0) (I a1) sp.toNatClampNeg dp.toNatClampNeg k.toNatClampNeg)) J R)) := by
  unfold cp_
  rw [m_ar h0 s0, m_ar h1 s1]
  simp only [hc, if_true, not_false_eq_true, and_self]
  refine congrArg (fun z => some (Sum.inl (), (n, q, z))) (MM_ext ?_ (fun j hj => by rw [up1_n hj]; rfl))
  rw [s1, up1_s]
  rfl
theorem m_cv {α : Type} {a c : Nat} {ks : List Nat} {F : Mo α} (ha : a < n) (hs : sh a = .inr (c, ks)) : cv c a F (n, q, MM sh I J R) = F (n, q, MM sh I J R) := by
  simp [cv, m_ob ha hs]
theorem m_nO {c N : Nat} {ks : List Nat} {fs : List Value} (hf : fs = ks.mapIdx (fun k kd => fV (fun _ => 0) (fun _ => 0) (fun _ => none) k kd)) (hr : n + 1 ≤ CM ∧ q + N ≤ SM) : nO c N fs (n, q, MM sh I J R) = some (.inl n, (n + 1, q + N, MM (up1 sh n (.inr (c, ks))) (up1 I n (fun _ => 0)) (up1 J n (fun _ => 0)) (up1 R n (fun _ => none)))) := by
  unfold nO
  rw [if_pos hr]
  refine congrArg (fun z => some (Sum.inl n, (n + 1, q + N, z))) (MM_ext ?_ (fun j hj => by rw [up1_n hj, up1_n hj, up1_n hj, up1_n hj]; rfl))
  rw [up1_s, up1_s, up1_s, up1_s, hf]
  rfl
theorem m_nA {t : Nat} {k : Int32} (hr : ¬ k < 0 ∧ k.toNatClampNeg ≤ 10000 ∧ n + 1 ≤ CM ∧ q + k.toNatClampNeg ≤ SM) : nA t k (n, q, MM sh I J R) = some (.inl n, (n + 1, q + k.toNatClampNeg, MM (up1 sh n (.inl (t, k.toNatClampNeg, 0))) (up1 I n (fun _ => 0)) J R)) := by
  unfold nA
  rw [if_pos hr]
  refine congrArg (fun z => some (Sum.inl n, (n + 1, q + k.toNatClampNeg, z))) (MM_ext ?_ (fun j hj => by rw [up1_n hj, up1_n hj]; rfl))
  rw [up1_s, up1_s]
  rfl
end MEM
