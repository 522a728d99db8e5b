/-! PURE PART: both sides hold the same -/
abbrev Wo : Type := Nat × (Nat → Nat) × (Nat → Nat)
abbrev Dt : Type := (Fo × At × Lw × Wo) × (Nat × (Nat → Nat)) × (List At × List (At × List At)) × (Int32 × Int32 × Int32 × Int32)
def dF (D : Dt) : Fo := D.1.1
def dA (D : Dt) : At := D.1.2.1
def dL (D : Dt) : Lw := D.1.2.2.1
def dW (D : Dt) : Wo := D.1.2.2.2
def dT (D : Dt) : Nat := D.2.1.1
def dB (D : Dt) : Nat → Nat := D.2.1.2
def dH (D : Dt) : List At := D.2.2.1.1
def dM (D : Dt) : List (At × List At) := D.2.2.1.2
def dP (D : Dt) : Int32 := D.2.2.2.1
def dN (D : Dt) : Int32 := D.2.2.2.2.1
def dE (D : Dt) : Int32 := D.2.2.2.2.2.1
def dG (D : Dt) : Int32 := D.2.2.2.2.2.2
def sx (b : Nat) : Int32 := if b < 128 then nn b else nn b - 256
def saidW (W : Wo) (p : Nat) : Int32 := lp (fun k x => if W.2.1 k = p then nn (W.2.2 k) else x) W.1 0 (-1)
def agrW (F : Fo) (W : Wo) (f : Nat) : Prop := ∀ k, k < W.1 → 6 - bc32 (nn (fa F (W.2.1 k)) ^^^ nn f) = nn (W.2.2 k)
def fitJ (x : Int64) (F : Fo) (W : Wo) : Prop := ∀ f, f < 64 → (((x >>> (Int32.toInt64 (nn f) &&& 63)) &&& 1 = 1) ↔ agrW F W f)
def HiC (w : Wd) (I : Is) : Option Nat → List At → Prop
  | p, [] => p = none
  | p, A :: l => ∃ a e, p = some a ∧ 526 ≤ a ∧ a < w.1 ∧ w.2.2.1 a = .inr (3, [2, 2, 0]) ∧ w.2.2.2 a 0 = some e ∧ 526 ≤ e ∧ StS w e ∧ StR I e A ∧ I a 2 = nn (l.length + 1) ∧ HiC w I (w.2.2.2 a 1) l
def ImC (w : Wd) (I : Is) : List (At × List At) → Prop
  | [] => True
  | q :: l => HiC w I (w.2.2.2 48 l.length) (q.1 :: q.2) ∧ ImC w I l
def HiM (I : Is) (r : Nat → Nat × Nat) : List At → Prop
  | [] => True
  | A :: l => RwR I (r l.length).1 (r l.length).2 A ∧ HiM I r l
def ImM (I : Is) : List (At × List At) → Prop
  | [] => True
  | q :: l => I (517 + l.length) 0 = nn q.2.length ∧ RwR I (517 + l.length) 1 q.1 ∧ HiM I (fun i => (517 + l.length, 229 + 228 * i)) q.2 ∧ ImM I l
def WoC (I : Is) (J : Js) (F : Fo) (W : Wo) : Prop := I 24 4 = nn W.1 ∧ (∀ p, p < 8 → I 25 p = saidW W p) ∧ fitJ (J 24 5) F W
def WoM (I : Is) (W : Wo) : Prop := I 49 31 = nn W.1 ∧ ∀ k, k < W.1 → I (397 + k) 0 = nn (W.2.1 k) ∧ I (397 + k) 1 = nn (W.2.2 k)
/-- the class's cells -/
def RC0 (w : Wd) (I : Is) (J : Js) (D : Dt) : Prop := FoC I (dF D) ∧ StR I 43 (dA D) ∧ LwC I (dL D) ∧ WoC I J (dF D) (dW D) ∧ (I 1 1 = nn (dT D) ∧ ∀ k, k < dT D → I 2 k = sx (dB D k)) ∧ HiC w I (w.2.2.2 0 13) (dH D) ∧ (I 0 14 = nn (dM D).length ∧ ImC w I (dM D)) ∧ I 1 6 = dP D ∧ I 0 15 = dN D
def RC (w : Wd) (I : Is) (J : Js) (D : Dt) : Prop := RC0 w I J D ∧ I 0 16 = dE D ∧ I 0 17 = dG D
/-- the model's cells -/
def RM0 (I : Is) (D : Dt) : Prop := FoM I (dF D) ∧ RwR I 497 0 (dA D) ∧ LwM I (dL D) ∧ WoM I (dW D) ∧ (I 49 1 = nn (dT D) ∧ ∀ k, k < dT D → I 50 k = nn (dB D k)) ∧ (I 49 32 = nn (dH D).length ∧ HiM I (fun i => (500 + i, 0)) (dH D)) ∧ (I 49 34 = nn (dM D).length ∧ ImM I (dM D)) ∧ I 49 3 = dP D ∧ I 49 33 = dN D
def RM (I : Is) (D : Dt) : Prop := RM0 I D ∧ I 51 0 = dE D ∧ I 51 1 = dG D
def AtB (d : Nat) (A : At) : Prop := ∀ p, p < 8 → tk A p ≤ 200 * d ∧ sa A p ≤ 200 * d
def HiW (F : Fo) : List At → Prop
  | [] => True
  | A :: l => AtW F A ∧ yr A ≤ 200 ∧ AtB l.length A ∧ HiW F l
def WoW (F : Fo) (W : Wo) : Prop := W.1 ≤ sz F ∧ (∀ k, k < W.1 → W.2.1 k < sz F ∧ W.2.2 k ≤ 6) ∧ ∀ j k, j < W.1 → k < W.1 → W.2.1 j = W.2.1 k → j = k
def WD (D : Dt) : Prop := FoW (dF D) ∧ HiW (dF D) (dA D :: dH D) ∧ (dH D).length ≤ 16 ∧ LwW (dL D) ∧ WoW (dF D) (dW D) ∧ (dT D ≤ 600 ∧ ∀ k, k < dT D → dB D k < 256) ∧ (dM D).length ≤ 3 ∧ ∀ q ∈ dM D, HiW (dF D) (q.1 :: q.2) ∧ q.2.length ≤ 16
def KC : List Nat := [15, 27, 29, 30, 31, 32, 33, 34, 35, 36, 37, 38, 39, 40, 41, 42]
def KM : List Nat := [49, 414, 415, 498, 520, 521, 522, 523, 524]
def KS : List Nat := [0, 1, 3, 17, 31, 32, 33, 34]
def AgM (I I' : Is) : Prop := Ag KM I I' ∧ ∀ k ∈ KS, I' 49 k = I 49 k
theorem AgM.refl (I : Is) : AgM I I := ⟨Ag.refl _ _, fun _ _ => rfl⟩
theorem AgM.trans {I I' I'' : Is} (h : AgM I I') (h' : AgM I' I'') : AgM I I'' := ⟨h.1.trans h'.1, fun k hk => (h'.2 k hk).trans (h.2 k hk)⟩
theorem AgM.of {K : List Nat} {I I' : Is} (h : Ag K I I') (h1 : ∀ a ∈ K, a ∈ KM) (h2 : 49 ∉ K) : AgM I I' := ⟨h.mono h1, fun k _ => h.at k h2⟩
theorem AgM.up {I I' : Is} {a k : Nat} {v : Int32} (h : AgM I I') (ha : a ∈ KM) (hk : a ≠ 49 ∨ k ∉ KS) : AgM I (up2 I' a k v) := ⟨h.1.up ha, fun j hj => by
  rw [← h.2 j hj]
  rcases hk with hk | hk
  · exact up2_a (Ne.symm hk)
  · exact up2_k (fun e => hk (e ▸ hj))⟩
section REL
variable {w w' : Wd} {I I' : Is} {J J' : Js} {D : Dt} {K : List Nat}
theorem HiC.ag (h : ∀ a, 526 ≤ a → I' a = I a) : ∀ {l : List At} {p : Option Nat}, HiC w I p l → HiC w I' p l
  | [], _, H => H
  | A :: l, p, ⟨a, e, h1, h2, h3, h4, h5, h6, h7, h8, h9, h10⟩ => by
    refine ⟨a, e, h1, h2, h3, h4, h5, h6, h7, ?_, ?_, h10.ag h⟩
    · unfold StR
      rw [h e h6, h (e + 1) (by omega), h (e + 2) (by omega), h (e + 3) (by omega), h (e + 4) (by omega)]
      exact h8
    · rw [h a h2]
      exact h9
theorem ImC.ag (h : ∀ a, 526 ≤ a → I' a = I a) : ∀ {l : List (At × List At)}, ImC w I l → ImC w I' l
  | [], _ => trivial
  | _ :: _, H => ⟨H.1.ag h, H.2.ag h⟩
/-- the world grows -/
def Ext (w w' : Wd) : Prop := w.1 ≤ w'.1 ∧ ∀ a, 526 ≤ a → a < w.1 → w'.2.2.1 a = w.2.2.1 a ∧ w'.2.2.2 a = w.2.2.2 a
theorem Ext.StS (X : Ext w w') {e : Nat} (he : 526 ≤ e) (H : StS w e) : StS w' e := by
  obtain ⟨h1, h2, ⟨h3, h4, h5, h6⟩, h7, h8, h9, h10⟩ := H
  have x := fun k (hk : k ≤ 4) => X.2 (e + k) (by omega) (by omega)
  have x0 := X.2 e he (by omega)
  refine ⟨Nat.le_trans h1 X.1, ?_, ⟨?_, ?_, ?_, ?_⟩, ?_, ?_, ?_, ?_⟩
  · rw [x0.1]; exact h2
  · rw [(x 1 (by omega)).1]; exact h3
  · rw [(x 2 (by omega)).1]; exact h4
  · rw [(x 3 (by omega)).1]; exact h5
  · rw [(x 4 (by omega)).1]; exact h6
  · rw [x0.2]; exact h7
  · rw [x0.2]; exact h8
  · rw [x0.2]; exact h9
  · rw [x0.2]; exact h10
theorem HiC.ext (X : Ext w w') : ∀ {l : List At} {p : Option Nat}, HiC w I p l → HiC w' I p l
  | [], _, H => H
  | A :: l, p, ⟨a, e, h1, h2, h3, h4, h5, h6, h7, h8, h9, h10⟩ => by
    obtain ⟨x1, x2⟩ := X.2 a h2 h3
    refine ⟨a, e, h1, h2, Nat.lt_of_lt_of_le h3 X.1, by rw [x1]; exact h4, by rw [x2]; exact h5, h6, X.StS h6 h7, h8, h9, ?_⟩
    rw [x2]
    exact h10.ext X
theorem ImC.ext (X : Ext w w') (h48 : ∀ k, w'.2.2.2 48 k = w.2.2.2 48 k) : ∀ {l : List (At × List At)}, ImC w I l → ImC w' I l
  | [], _ => trivial
  | _ :: _, H => ⟨by rw [h48]; exact H.1.ext X, H.2.ext X h48⟩
def sgC (a : Nat) : Bool := decide (a < 526) && !([1, 2, 3, 4, 5, 6, 7, 13, 14, 24, 25, 43, 44, 45, 46, 47].contains a)
theorem RC0.ag0 (H : RC0 w I J D) (d : ∀ a, sgC a = false → a ≠ 0 → I' a = I a) (h0 : I' 0 14 = I 0 14) (h0' : I' 0 15 = I 0 15) (hJ : J' 24 = J 24) (X : Ext w w') (hR : w'.2.2.2 0 13 = w.2.2.2 0 13) (hR' : ∀ k, w'.2.2.2 48 k = w.2.2.2 48 k) : RC0 w' I' J' D := by
  have d2 : ∀ a, 526 ≤ a → I' a = I a := fun a ha => d a (by simp [sgC]; omega) (by omega)
  obtain ⟨h1, h2, h3, h4, h5, h6, h7, h8, h9⟩ := H
  refine ⟨?_, ?_, ?_, ?_, ?_, ?_, ⟨?_, (h7.2.ag d2).ext X hR'⟩, ?_, ?_⟩
  · unfold FoC
    rw [d 3 rfl (by decide), d 4 rfl (by decide), d 5 rfl (by decide), d 6 rfl (by decide), d 7 rfl (by decide)]
    exact h1
  · unfold StR
    rw [d 43 rfl (by decide), d (43 + 1) rfl (by decide), d (43 + 2) rfl (by decide), d (43 + 3) rfl (by decide), d (43 + 4) rfl (by decide)]
    exact h2
  · unfold LwC
    rw [d 13 rfl (by decide), d 14 rfl (by decide)]
    exact h3
  · unfold WoC
    rw [d 24 rfl (by decide), d 25 rfl (by decide), hJ]
    exact h4
  · rw [d 1 rfl (by decide), d 2 rfl (by decide)]
    exact h5
  · rw [hR]
    exact (h6.ag d2).ext X
  · rw [h0]
    exact h7.1
  · rw [d 1 rfl (by decide)]
    exact h8
  · rw [h0']
    exact h9
theorem Ext.refl (w : Wd) : Ext w w := ⟨Nat.le_refl _, fun _ _ _ => ⟨rfl, rfl⟩⟩
theorem RC.ag (H : RC w I J D) (h : Ag K I I') (hk : ∀ a ∈ K, sgC a = true ∧ a ≠ 0) (hJ : J' 24 = J 24) : RC w I' J' D := by
  have d : ∀ a, sgC a = false → a ≠ 0 → I' a = I a := fun a ha _ => h a fun q => by rw [(hk a q).1] at ha; exact absurd ha (by decide)
  have e : I' 0 = I 0 := h 0 fun q => (hk 0 q).2 rfl
  refine ⟨H.1.ag0 d (by rw [e]) (by rw [e]) hJ (Ext.refl w) rfl (fun _ => rfl), ?_, ?_⟩
  · rw [e]; exact H.2.1
  · rw [e]; exact H.2.2
theorem HiM.ag {r : Nat → Nat × Nat} : ∀ {l : List At}, (∀ i, i < l.length → I' (r i).1 = I (r i).1) → HiM I r l → HiM I' r l
  | [], _, _ => trivial
  | A :: l, h, H => by
    refine ⟨?_, HiM.ag (fun i hi => h i (Nat.lt_succ_of_lt hi)) H.2⟩
    unfold RwR
    rw [h l.length (Nat.lt_succ_self _)]
    exact H.1
theorem ImM.ag : ∀ {l : List (At × List At)}, (∀ i, i < l.length → I' (517 + i) = I (517 + i)) → ImM I l → ImM I' l
  | [], _, _ => trivial
  | q :: l, h, H => by
    have e := h l.length (Nat.lt_succ_self _)
    refine ⟨by rw [e]; exact H.1, ?_, HiM.ag (fun i _ => e) H.2.2.1, ImM.ag (fun i hi => h i (Nat.lt_succ_of_lt hi)) H.2.2.2⟩
    unfold RwR
    rw [e]
    exact H.2.1
def sgM (a : Nat) : Bool := (a == 50 || a == 53 || a == 55) || ((decide (66 ≤ a) && decide (a ≤ 73)) || (decide (75 ≤ a) && decide (a ≤ 234))) || ((decide (397 ≤ a) && decide (a ≤ 404)) || a == 497 || (decide (500 ≤ a) && decide (a ≤ 515)) || (decide (517 ≤ a) && decide (a ≤ 519)))
theorem RM0.ag0 (H : RM0 I D) (W : WD D) (d : ∀ a, sgM a = true → I' a = I a) (h49 : ∀ k ∈ [1, 3, 17, 31, 32, 33, 34], I' 49 k = I 49 k) : RM0 I' D := by
  obtain ⟨w1, -, w3, w4, w5, -, w7, -⟩ := W
  obtain ⟨h1, h2, h3, h4, h5, h6, h7, h8, h9⟩ := H
  have z8 := w1.1
  have z150 := w4.1
  have zw := w5.1
  refine ⟨⟨?_, ?_, ?_⟩, ?_, ?_, ⟨?_, ?_⟩, ⟨?_, ?_⟩, ⟨?_, ?_⟩, ⟨?_, ?_⟩, ?_, ?_⟩
  · rw [d 53 rfl]; exact h1.1
  · rw [d 53 rfl]; exact h1.2.1
  · intro p hp
    rw [d 55 rfl, d (66 + p) (by simp [sgM]; omega)]
    exact h1.2.2 p hp
  · unfold RwR
    rw [d 497 rfl]
    exact h2
  · rcases h3 with ⟨a1, a2⟩ | ⟨a1, a2⟩
    · refine Or.inl ⟨by rw [h49 17 (by decide)]; exact a1, fun k hk => ?_⟩
      rw [d (75 + k) (by simp [sgM]; omega)]
      exact a2 k hk
    · exact Or.inr ⟨by rw [h49 17 (by decide)]; exact a1, a2⟩
  · rw [h49 31 (by decide)]; exact h4.1
  · intro k hk
    rw [d (397 + k) (by simp [sgM]; omega)]
    exact h4.2 k hk
  · rw [h49 1 (by decide)]; exact h5.1
  · rw [d 50 rfl]; exact h5.2
  · rw [h49 32 (by decide)]; exact h6.1
  · exact HiM.ag (fun i hi => d (500 + i) (by simp [sgM]; omega)) h6.2
  · rw [h49 34 (by decide)]; exact h7.1
  · exact ImM.ag (fun i hi => d (517 + i) (by simp [sgM]; omega)) h7.2
  · rw [h49 3 (by decide)]; exact h8
  · rw [h49 33 (by decide)]; exact h9
theorem RM.ag (H : RM I D) (W : WD D) (h : Ag K I I') (hk : ∀ a ∈ K, a ≠ 49 ∧ a ≠ 51 ∧ sgM a = false) : RM I' D := by
  have e : I' 51 = I 51 := h 51 fun q => (hk 51 q).2.1 rfl
  refine ⟨H.1.ag0 W (fun a ha => h a fun q => by rw [(hk a q).2.2] at ha; exact absurd ha (by decide)) (fun k _ => h.at k fun q => (hk 49 q).1 rfl), ?_, ?_⟩
  · rw [e]; exact H.2.1
  · rw [e]; exact H.2.2
theorem RM.agm (H : RM I D) (W : WD D) (h : AgM I I') : RM I' D := by
  have e : I' 51 = I 51 := h.1 51 (by decide)
  refine ⟨H.1.ag0 W (fun a ha => h.1 a fun q => ?_) (fun k hk => h.2 k ?_), ?_, ?_⟩
  · have : ∀ a ∈ KM, sgM a = false := by decide
    rw [this a q] at ha
    exact absurd ha (by decide)
  · have : ∀ k ∈ [1, 3, 17, 31, 32, 33, 34], k ∈ KS := by decide
    exact this k hk
  · rw [e]; exact H.2.1
  · rw [e]; exact H.2.2
theorem RM0.t0 {v : Int32} (H : RM0 I D) (W : WD D) : RM0 (up2 I 49 0 v) D :=
  H.ag0 W (fun a ha => up2_ra (fun e => by subst e; exact absurd ha (by decide))) (fun k hk => up2_k (fun e => by subst e; exact absurd hk (by decide)))
theorem RM.t0 {v : Int32} (H : RM I D) (W : WD D) : RM (up2 I 49 0 v) D := ⟨H.1.t0 W, by rw [up2_a (by decide)]; exact H.2.1, by rw [up2_a (by decide)]; exact H.2.2⟩
theorem KC_sg : ∀ a ∈ KC, (sgC a = true ∧ a ≠ 0) ∧ a ≠ 49 ∧ a ≠ 51 ∧ sgM a = false := by decide
theorem KM_sg : ∀ a ∈ KM, sgC a = true ∧ a ≠ 0 := by decide
-- a call throws
def tw (w : Wd) (c : Nat) : Wd := (w.1 + 1, w.2.1 + 6, up1 w.2.2.1 w.1 (.inr (c, [])), w.2.2.2)
def Rm (w : Wd) : Prop := w.1 + 8 ≤ CM ∧ w.2.1 + 120 ≤ SM
theorem th_st {α : Type} {c : Nat} (hr : Rm w) : (th c : Mo α) (st w I J) = some (.inr (w.1, c), st (tw w c) I J) := by
  unfold th st
  have q1 : w.1 + 1 ≤ CM := by have := hr.1; omega
  have q2 : w.2.1 + 6 ≤ SM := by have := hr.2; omega
  rw [if_pos ⟨q1, q2⟩]
  refine congrArg (fun z => some (Sum.inr (w.1, c), (w.1 + 1, w.2.1 + 6, z))) (MM_ext ?_ (fun j hj => ?_))
  · show Sum.inr (c, []) = mkE (up1 w.2.2.1 w.1 (.inr (c, [])) w.1) _ _ _
    rw [up1_s]
    rfl
  · show _ = mkE (up1 w.2.2.1 w.1 (.inr (c, [])) j) _ _ _
    rw [up1_n hj]
    rfl
theorem tw_Sw (S : Sw w) (c : Nat) : Sw (tw w c) := ⟨Nat.le_succ_of_le S.1, fun a ha => by
  show up1 w.2.2.1 w.1 _ a = _
  rw [up1_n (by have := S.1; omega)]
  exact S.2.1 a ha, S.2.2⟩
theorem tw_Ext (S : Sw w) (c : Nat) : Ext w (tw w c) := ⟨Nat.le_succ _, fun a _ ha => ⟨up1_n (by omega), rfl⟩⟩
theorem tw_ob {c : Nat} : ob c w.1 (st (tw w c) I J) = some [] := by
  refine (m_ob (n := w.1 + 1) (q := w.2.1 + 6) (sh := up1 w.2.2.1 w.1 (.inr (c, []))) (ks := []) (Nat.lt_succ_self _) up1_s).trans ?_
  rfl
-- numbers in a range
def inP (m : Nat) (x : Int32) : Prop := ∃ k, k < m ∧ x = nn k
theorem inP_iff {m : Nat} (hm : m < 2147483648) (x : Int32) : inP m x ↔ ¬ x < 0 ∧ x < nn m := by
  constructor
  · rintro ⟨k, hk, rfl⟩
    refine ⟨nn_nneg (by omega), ?_⟩
    rw [nn_lt (by omega) hm]
    exact hk
  · rintro ⟨h1, h2⟩
    obtain ⟨k, hk, rfl⟩ := nn_of h1
    rw [nn_lt hk hm] at h2
    exact ⟨k, h2, rfl⟩
theorem in_no {m : Nat} (hm : m < 2147483648) {x : Int32} (h : ¬ inP m x) : x < 0 ∨ nn m ≤ x := by
  rw [inP_iff hm] at h
  by_cases h0 : x < 0
  · exact Or.inl h0
  · exact Or.inr (Int32.not_lt.mp fun q => h ⟨h0, q⟩)
theorem nn_le_pred {m : Nat} (hm : m < 2147483648) (x : Int32) (h0 : ¬ x < 0) : (nn m - 1 < x) = (nn m ≤ x) := by
  obtain ⟨k, hk, rfl⟩ := nn_of h0
  rw [nn_le hm hk]
  rcases Nat.eq_zero_or_pos m with h | h
  · subst h
    rw [show nn 0 - 1 = -1 from rfl]
    have : (-1 : Int32) < nn k := by
      rw [Int32.lt_iff_toInt_lt, nn_int hk]
      have : (-1 : Int32).toInt = -1 := by decide
      omega
    simp [this]
  · rw [nn_pred h, nn_lt (by omega) hk]
    apply propext
    omega
theorem mi_ok {m : Nat} (hm : m < 2147483648) {k : Nat} (h : k < m) {σ : PS} : f_X12_in (nn k) 0 (nn m - 1) σ = some (.inl 1, σ) := by
  unfold f_X12_in
  have h0 : ¬ nn k < 0 := nn_nneg (by omega)
  have h1 : ¬ nn m - 1 < nn k := by rw [nn_le_pred hm _ h0, nn_le hm (by omega)]; omega
  rw [if_neg h0, if_neg h1]
  rfl
theorem mi_no {m : Nat} (hm : m < 2147483648) {x : Int32} (h : ¬ inP m x) {σ : PS} : f_X12_in x 0 (nn m - 1) σ = some (.inl 0, σ) := by
  unfold f_X12_in
  by_cases h0 : x < 0
  · rw [if_pos h0]; rfl
  · rw [if_neg h0]
    have h1 := (in_no hm h).resolve_left h0
    rw [← nn_le_pred hm _ h0] at h1
    rw [if_pos h1]
    rfl
theorem mb_ok {m : Nat} {b : Int32} (hb : b = nn m - 1) (hm : m < 2147483648) {k : Nat} (h : k < m) {σ : PS} : f_X12_in (nn k) 0 b σ = some (.inl 1, σ) := by rw [hb]; exact mi_ok hm h
theorem mb_no {m : Nat} {b : Int32} (hb : b = nn m - 1) (hm : m < 2147483648) {x : Int32} (h : ¬ inP m x) {σ : PS} : f_X12_in x 0 b σ = some (.inl 0, σ) := by rw [hb]; exact mi_no hm h
-- the class's own tests
theorem n_argT {σ : PS} : f_X11_needArgument 0 1 σ = some (.inl (), σ) := rfl
theorem n_eleT {σ : PS} : f_X11_needElement 0 1 σ = some (.inl (), σ) := rfl
theorem n_argF (S : Sw w) (hr : Rm w) : f_X11_needArgument 0 0 (st w I J) = some (.inr (w.1, 14), st (tw w 14) (up2 I 0 17 (I 0 17 + 1)) J) := by
  simp (disch := omega) only [bd_eq, pu_ap, if_true, if_false, not_true_eq_false, not_false_eq_true, eq_self, v_0 S, r_0_0 S, r_0_1 S, r_0_2 S, r_0_3 S, r_0_4 S, r_0_5 S, r_0_6 S, r_0_7 S, r_0_8 S, r_0_9 S, r_0_10 S, r_0_11 S, r_0_12 S, n_0_13 S, i_0_14 S, i_0_15 S, i_0_16 S, i_0_17 S, v_1 S, r_1_0 S, i_1_1 S, i_1_2 S, i_1_3 S, i_1_4 S, i_1_5 S, i_1_6 S, v_3 S, r_3_0 S, r_3_1 S, r_3_2 S, r_3_3 S, i_3_4 S, i_3_5 S, v_8 S, r_8_0 S, r_8_1 S, r_8_2 S, r_8_3 S, i_8_4 S, i_8_5 S, v_13 S, r_13_0 S, r_13_1 S, i_13_2 S, v_16 S, r_16_0 S, r_16_1 S, i_16_2 S, v_19 S, r_19_0 S, r_19_1 S, r_19_2 S, r_19_3 S, i_19_4 S, i_19_5 S, i_19_6 S, i_19_7 S, v_24 S, r_24_0 S, r_24_1 S, r_24_2 S, r_24_3 S, i_24_4 S, j_24_5 S, v_28 S, r_28_0 S, r_28_1 S, r_28_2 S, v_30 S, r_30_0 S, r_30_1 S, r_30_2 S, r_30_3 S, i_30_4 S, i_30_5 S, v_33 S, r_33_0 S, r_33_1 S, r_33_2 S, r_33_3 S, i_33_4 S, i_33_5 S, v_37 S, r_37_0 S, r_37_1 S, i_37_2 S, i_37_3 S, i_37_4 S, f_X11_needArgument, w_0_17 S, th_st hr]
theorem n_eleF (S : Sw w) (hr : Rm w) : f_X11_needElement 0 0 (st w I J) = some (.inr (w.1, 13), st (tw w 13) (up2 I 0 16 (I 0 16 + 1)) J) := by
  simp (disch := omega) only [bd_eq, pu_ap, if_true, if_false, not_true_eq_false, not_false_eq_true, eq_self, v_0 S, r_0_0 S, r_0_1 S, r_0_2 S, r_0_3 S, r_0_4 S, r_0_5 S, r_0_6 S, r_0_7 S, r_0_8 S, r_0_9 S, r_0_10 S, r_0_11 S, r_0_12 S, n_0_13 S, i_0_14 S, i_0_15 S, i_0_16 S, i_0_17 S, v_1 S, r_1_0 S, i_1_1 S, i_1_2 S, i_1_3 S, i_1_4 S, i_1_5 S, i_1_6 S, v_3 S, r_3_0 S, r_3_1 S, r_3_2 S, r_3_3 S, i_3_4 S, i_3_5 S, v_8 S, r_8_0 S, r_8_1 S, r_8_2 S, r_8_3 S, i_8_4 S, i_8_5 S, v_13 S, r_13_0 S, r_13_1 S, i_13_2 S, v_16 S, r_16_0 S, r_16_1 S, i_16_2 S, v_19 S, r_19_0 S, r_19_1 S, r_19_2 S, r_19_3 S, i_19_4 S, i_19_5 S, i_19_6 S, i_19_7 S, v_24 S, r_24_0 S, r_24_1 S, r_24_2 S, r_24_3 S, i_24_4 S, j_24_5 S, v_28 S, r_28_0 S, r_28_1 S, r_28_2 S, v_30 S, r_30_0 S, r_30_1 S, r_30_2 S, r_30_3 S, i_30_4 S, i_30_5 S, v_33 S, r_33_0 S, r_33_1 S, r_33_2 S, r_33_3 S, i_33_4 S, i_33_5 S, v_37 S, r_37_0 S, r_37_1 S, i_37_2 S, i_37_3 S, i_37_4 S, f_X11_needElement, w_0_16 S, th_st hr]
theorem cr_ok {m : Nat} {b : Int32} (S : Sw w) (hb : b = nn m - 1) (hm : m < 2147483648) {k : Nat} (h : k < m) : f_X11_needRange 0 (nn k) b (st w I J) = some (.inl (), st w I J) := by
  have h0 : ¬ nn k < 0 := nn_nneg (by omega)
  have h1 : ¬ b < nn k := by rw [hb, nn_le_pred hm _ h0, nn_le hm (by omega)]; omega
  simp (disch := omega) only [bd_eq, pu_ap, if_true, if_false, not_true_eq_false, not_false_eq_true, eq_self, v_0 S, r_0_0 S, r_0_1 S, r_0_2 S, r_0_3 S, r_0_4 S, r_0_5 S, r_0_6 S, r_0_7 S, r_0_8 S, r_0_9 S, r_0_10 S, r_0_11 S, r_0_12 S, n_0_13 S, i_0_14 S, i_0_15 S, i_0_16 S, i_0_17 S, v_1 S, r_1_0 S, i_1_1 S, i_1_2 S, i_1_3 S, i_1_4 S, i_1_5 S, i_1_6 S, v_3 S, r_3_0 S, r_3_1 S, r_3_2 S, r_3_3 S, i_3_4 S, i_3_5 S, v_8 S, r_8_0 S, r_8_1 S, r_8_2 S, r_8_3 S, i_8_4 S, i_8_5 S, v_13 S, r_13_0 S, r_13_1 S, i_13_2 S, v_16 S, r_16_0 S, r_16_1 S, i_16_2 S, v_19 S, r_19_0 S, r_19_1 S, r_19_2 S, r_19_3 S, i_19_4 S, i_19_5 S, i_19_6 S, i_19_7 S, v_24 S, r_24_0 S, r_24_1 S, r_24_2 S, r_24_3 S, i_24_4 S, j_24_5 S, v_28 S, r_28_0 S, r_28_1 S, r_28_2 S, v_30 S, r_30_0 S, r_30_1 S, r_30_2 S, r_30_3 S, i_30_4 S, i_30_5 S, v_33 S, r_33_0 S, r_33_1 S, r_33_2 S, r_33_3 S, i_33_4 S, i_33_5 S, v_37 S, r_37_0 S, r_37_1 S, i_37_2 S, i_37_3 S, i_37_4 S, f_X11_needRange, f_X11_needRange_b15, h0, h1, n_argT]
theorem cr_no {m : Nat} {b : Int32} (S : Sw w) (hr : Rm w) (hb : b = nn m - 1) (hm : m < 2147483648) {x : Int32} (h : ¬ inP m x) : f_X11_needRange 0 x b (st w I J) = some (.inr (w.1, 14), st (tw w 14) (up2 I 0 17 (I 0 17 + 1)) J) := by
  by_cases h0 : x < 0
  · simp (disch := omega) only [bd_eq, pu_ap, if_true, if_false, not_true_eq_false, not_false_eq_true, eq_self, v_0 S, r_0_0 S, r_0_1 S, r_0_2 S, r_0_3 S, r_0_4 S, r_0_5 S, r_0_6 S, r_0_7 S, r_0_8 S, r_0_9 S, r_0_10 S, r_0_11 S, r_0_12 S, n_0_13 S, i_0_14 S, i_0_15 S, i_0_16 S, i_0_17 S, v_1 S, r_1_0 S, i_1_1 S, i_1_2 S, i_1_3 S, i_1_4 S, i_1_5 S, i_1_6 S, v_3 S, r_3_0 S, r_3_1 S, r_3_2 S, r_3_3 S, i_3_4 S, i_3_5 S, v_8 S, r_8_0 S, r_8_1 S, r_8_2 S, r_8_3 S, i_8_4 S, i_8_5 S, v_13 S, r_13_0 S, r_13_1 S, i_13_2 S, v_16 S, r_16_0 S, r_16_1 S, i_16_2 S, v_19 S, r_19_0 S, r_19_1 S, r_19_2 S, r_19_3 S, i_19_4 S, i_19_5 S, i_19_6 S, i_19_7 S, v_24 S, r_24_0 S, r_24_1 S, r_24_2 S, r_24_3 S, i_24_4 S, j_24_5 S, v_28 S, r_28_0 S, r_28_1 S, r_28_2 S, v_30 S, r_30_0 S, r_30_1 S, r_30_2 S, r_30_3 S, i_30_4 S, i_30_5 S, v_33 S, r_33_0 S, r_33_1 S, r_33_2 S, r_33_3 S, i_33_4 S, i_33_5 S, v_37 S, r_37_0 S, r_37_1 S, i_37_2 S, i_37_3 S, i_37_4 S, f_X11_needRange, f_X11_needRange_b15, f_X11_needRange_b14, h0, n_argF S hr]
  · have h1 := (in_no hm h).resolve_left h0
    rw [← nn_le_pred hm _ h0, ← hb] at h1
    simp (disch := omega) only [bd_eq, pu_ap, if_true, if_false, not_true_eq_false, not_false_eq_true, eq_self, v_0 S, r_0_0 S, r_0_1 S, r_0_2 S, r_0_3 S, r_0_4 S, r_0_5 S, r_0_6 S, r_0_7 S, r_0_8 S, r_0_9 S, r_0_10 S, r_0_11 S, r_0_12 S, n_0_13 S, i_0_14 S, i_0_15 S, i_0_16 S, i_0_17 S, v_1 S, r_1_0 S, i_1_1 S, i_1_2 S, i_1_3 S, i_1_4 S, i_1_5 S, i_1_6 S, v_3 S, r_3_0 S, r_3_1 S, r_3_2 S, r_3_3 S, i_3_4 S, i_3_5 S, v_8 S, r_8_0 S, r_8_1 S, r_8_2 S, r_8_3 S, i_8_4 S, i_8_5 S, v_13 S, r_13_0 S, r_13_1 S, i_13_2 S, v_16 S, r_16_0 S, r_16_1 S, i_16_2 S, v_19 S, r_19_0 S, r_19_1 S, r_19_2 S, r_19_3 S, i_19_4 S, i_19_5 S, i_19_6 S, i_19_7 S, v_24 S, r_24_0 S, r_24_1 S, r_24_2 S, r_24_3 S, i_24_4 S, j_24_5 S, v_28 S, r_28_0 S, r_28_1 S, r_28_2 S, v_30 S, r_30_0 S, r_30_1 S, r_30_2 S, r_30_3 S, i_30_4 S, i_30_5 S, v_33 S, r_33_0 S, r_33_1 S, r_33_2 S, r_33_3 S, i_33_4 S, i_33_5 S, v_37 S, r_37_0 S, r_37_1 S, i_37_2 S, i_37_3 S, i_37_4 S, f_X11_needRange, f_X11_needRange_b15, f_X11_needRange_b14, h0, h1, n_argF S hr]
theorem cp_ok {F : Fo} (S : Sw w) (H : FoC I F) (h8 : sz F ≤ 8) {k : Nat} (h : k < sz F) : f_X11_needPerson 0 (nn k) (st w I J) = some (.inl (), st w I J) := by
  have h0 : ¬ nn k < 0 := nn_nneg (by omega)
  have h1 : ¬ sz F ≤ k := by omega
  simp (disch := omega) only [bd_eq, pu_ap, if_true, if_false, not_true_eq_false, not_false_eq_true, eq_self, v_0 S, r_0_0 S, r_0_1 S, r_0_2 S, r_0_3 S, r_0_4 S, r_0_5 S, r_0_6 S, r_0_7 S, r_0_8 S, r_0_9 S, r_0_10 S, r_0_11 S, r_0_12 S, n_0_13 S, i_0_14 S, i_0_15 S, i_0_16 S, i_0_17 S, v_1 S, r_1_0 S, i_1_1 S, i_1_2 S, i_1_3 S, i_1_4 S, i_1_5 S, i_1_6 S, v_3 S, r_3_0 S, r_3_1 S, r_3_2 S, r_3_3 S, i_3_4 S, i_3_5 S, v_8 S, r_8_0 S, r_8_1 S, r_8_2 S, r_8_3 S, i_8_4 S, i_8_5 S, v_13 S, r_13_0 S, r_13_1 S, i_13_2 S, v_16 S, r_16_0 S, r_16_1 S, i_16_2 S, v_19 S, r_19_0 S, r_19_1 S, r_19_2 S, r_19_3 S, i_19_4 S, i_19_5 S, i_19_6 S, i_19_7 S, v_24 S, r_24_0 S, r_24_1 S, r_24_2 S, r_24_3 S, i_24_4 S, j_24_5 S, v_28 S, r_28_0 S, r_28_1 S, r_28_2 S, v_30 S, r_30_0 S, r_30_1 S, r_30_2 S, r_30_3 S, i_30_4 S, i_30_5 S, v_33 S, r_33_0 S, r_33_1 S, r_33_2 S, r_33_3 S, i_33_4 S, i_33_5 S, v_37 S, r_37_0 S, r_37_1 S, i_37_2 S, i_37_3 S, i_37_4 S, f_X11_needPerson, f_X11_needPerson_b21, h0, fc_sz H, nn_le, h1, n_eleT]
theorem cp_no {F : Fo} (S : Sw w) (hr : Rm w) (H : FoC I F) (h8 : sz F ≤ 8) {x : Int32} (h : ¬ inP (sz F) x) : f_X11_needPerson 0 x (st w I J) = some (.inr (w.1, 13), st (tw w 13) (up2 I 0 16 (I 0 16 + 1)) J) := by
  by_cases h0 : x < 0
  · simp (disch := omega) only [bd_eq, pu_ap, if_true, if_false, not_true_eq_false, not_false_eq_true, eq_self, v_0 S, r_0_0 S, r_0_1 S, r_0_2 S, r_0_3 S, r_0_4 S, r_0_5 S, r_0_6 S, r_0_7 S, r_0_8 S, r_0_9 S, r_0_10 S, r_0_11 S, r_0_12 S, n_0_13 S, i_0_14 S, i_0_15 S, i_0_16 S, i_0_17 S, v_1 S, r_1_0 S, i_1_1 S, i_1_2 S, i_1_3 S, i_1_4 S, i_1_5 S, i_1_6 S, v_3 S, r_3_0 S, r_3_1 S, r_3_2 S, r_3_3 S, i_3_4 S, i_3_5 S, v_8 S, r_8_0 S, r_8_1 S, r_8_2 S, r_8_3 S, i_8_4 S, i_8_5 S, v_13 S, r_13_0 S, r_13_1 S, i_13_2 S, v_16 S, r_16_0 S, r_16_1 S, i_16_2 S, v_19 S, r_19_0 S, r_19_1 S, r_19_2 S, r_19_3 S, i_19_4 S, i_19_5 S, i_19_6 S, i_19_7 S, v_24 S, r_24_0 S, r_24_1 S, r_24_2 S, r_24_3 S, i_24_4 S, j_24_5 S, v_28 S, r_28_0 S, r_28_1 S, r_28_2 S, v_30 S, r_30_0 S, r_30_1 S, r_30_2 S, r_30_3 S, i_30_4 S, i_30_5 S, v_33 S, r_33_0 S, r_33_1 S, r_33_2 S, r_33_3 S, i_33_4 S, i_33_5 S, v_37 S, r_37_0 S, r_37_1 S, i_37_2 S, i_37_3 S, i_37_4 S, f_X11_needPerson, f_X11_needPerson_b21, f_X11_needPerson_b20, h0, n_eleF S hr]
  · have h1 := (in_no (by omega) h).resolve_left h0
    simp (disch := omega) only [bd_eq, pu_ap, if_true, if_false, not_true_eq_false, not_false_eq_true, eq_self, v_0 S, r_0_0 S, r_0_1 S, r_0_2 S, r_0_3 S, r_0_4 S, r_0_5 S, r_0_6 S, r_0_7 S, r_0_8 S, r_0_9 S, r_0_10 S, r_0_11 S, r_0_12 S, n_0_13 S, i_0_14 S, i_0_15 S, i_0_16 S, i_0_17 S, v_1 S, r_1_0 S, i_1_1 S, i_1_2 S, i_1_3 S, i_1_4 S, i_1_5 S, i_1_6 S, v_3 S, r_3_0 S, r_3_1 S, r_3_2 S, r_3_3 S, i_3_4 S, i_3_5 S, v_8 S, r_8_0 S, r_8_1 S, r_8_2 S, r_8_3 S, i_8_4 S, i_8_5 S, v_13 S, r_13_0 S, r_13_1 S, i_13_2 S, v_16 S, r_16_0 S, r_16_1 S, i_16_2 S, v_19 S, r_19_0 S, r_19_1 S, r_19_2 S, r_19_3 S, i_19_4 S, i_19_5 S, i_19_6 S, i_19_7 S, v_24 S, r_24_0 S, r_24_1 S, r_24_2 S, r_24_3 S, i_24_4 S, j_24_5 S, v_28 S, r_28_0 S, r_28_1 S, r_28_2 S, v_30 S, r_30_0 S, r_30_1 S, r_30_2 S, r_30_3 S, i_30_4 S, i_30_5 S, v_33 S, r_33_0 S, r_33_1 S, r_33_2 S, r_33_3 S, i_33_4 S, i_33_5 S, v_37 S, r_37_0 S, r_37_1 S, i_37_2 S, i_37_3 S, i_37_4 S, f_X11_needPerson, f_X11_needPerson_b21, f_X11_needPerson_b20, h0, fc_sz H, h1, n_eleF S hr]
theorem ch_ok (S : Sw w) {k : Nat} (h : k < 6) : f_X11_needHall 0 (nn k) (st w I J) = some (.inl (), st w I J) := by
  have h0 : ¬ nn k < 0 := nn_nneg (by omega)
  have h1 : ¬ (6 : Int32) ≤ nn k := by rw [show (6 : Int32) = nn 6 from rfl, nn_le (by omega) (by omega)]; omega
  simp (disch := omega) only [bd_eq, pu_ap, if_true, if_false, not_true_eq_false, not_false_eq_true, eq_self, v_0 S, r_0_0 S, r_0_1 S, r_0_2 S, r_0_3 S, r_0_4 S, r_0_5 S, r_0_6 S, r_0_7 S, r_0_8 S, r_0_9 S, r_0_10 S, r_0_11 S, r_0_12 S, n_0_13 S, i_0_14 S, i_0_15 S, i_0_16 S, i_0_17 S, v_1 S, r_1_0 S, i_1_1 S, i_1_2 S, i_1_3 S, i_1_4 S, i_1_5 S, i_1_6 S, v_3 S, r_3_0 S, r_3_1 S, r_3_2 S, r_3_3 S, i_3_4 S, i_3_5 S, v_8 S, r_8_0 S, r_8_1 S, r_8_2 S, r_8_3 S, i_8_4 S, i_8_5 S, v_13 S, r_13_0 S, r_13_1 S, i_13_2 S, v_16 S, r_16_0 S, r_16_1 S, i_16_2 S, v_19 S, r_19_0 S, r_19_1 S, r_19_2 S, r_19_3 S, i_19_4 S, i_19_5 S, i_19_6 S, i_19_7 S, v_24 S, r_24_0 S, r_24_1 S, r_24_2 S, r_24_3 S, i_24_4 S, j_24_5 S, v_28 S, r_28_0 S, r_28_1 S, r_28_2 S, v_30 S, r_30_0 S, r_30_1 S, r_30_2 S, r_30_3 S, i_30_4 S, i_30_5 S, v_33 S, r_33_0 S, r_33_1 S, r_33_2 S, r_33_3 S, i_33_4 S, i_33_5 S, v_37 S, r_37_0 S, r_37_1 S, i_37_2 S, i_37_3 S, i_37_4 S, f_X11_needHall, f_X11_needHall_b16, h0, h1, n_eleT]
theorem ch_no (S : Sw w) (hr : Rm w) {x : Int32} (h : ¬ inP 6 x) : f_X11_needHall 0 x (st w I J) = some (.inr (w.1, 13), st (tw w 13) (up2 I 0 16 (I 0 16 + 1)) J) := by
  by_cases h0 : x < 0
  · simp (disch := omega) only [bd_eq, pu_ap, if_true, if_false, not_true_eq_false, not_false_eq_true, eq_self, v_0 S, r_0_0 S, r_0_1 S, r_0_2 S, r_0_3 S, r_0_4 S, r_0_5 S, r_0_6 S, r_0_7 S, r_0_8 S, r_0_9 S, r_0_10 S, r_0_11 S, r_0_12 S, n_0_13 S, i_0_14 S, i_0_15 S, i_0_16 S, i_0_17 S, v_1 S, r_1_0 S, i_1_1 S, i_1_2 S, i_1_3 S, i_1_4 S, i_1_5 S, i_1_6 S, v_3 S, r_3_0 S, r_3_1 S, r_3_2 S, r_3_3 S, i_3_4 S, i_3_5 S, v_8 S, r_8_0 S, r_8_1 S, r_8_2 S, r_8_3 S, i_8_4 S, i_8_5 S, v_13 S, r_13_0 S, r_13_1 S, i_13_2 S, v_16 S, r_16_0 S, r_16_1 S, i_16_2 S, v_19 S, r_19_0 S, r_19_1 S, r_19_2 S, r_19_3 S, i_19_4 S, i_19_5 S, i_19_6 S, i_19_7 S, v_24 S, r_24_0 S, r_24_1 S, r_24_2 S, r_24_3 S, i_24_4 S, j_24_5 S, v_28 S, r_28_0 S, r_28_1 S, r_28_2 S, v_30 S, r_30_0 S, r_30_1 S, r_30_2 S, r_30_3 S, i_30_4 S, i_30_5 S, v_33 S, r_33_0 S, r_33_1 S, r_33_2 S, r_33_3 S, i_33_4 S, i_33_5 S, v_37 S, r_37_0 S, r_37_1 S, i_37_2 S, i_37_3 S, i_37_4 S, f_X11_needHall, f_X11_needHall_b16, f_X11_needHall_b15, h0, n_eleF S hr]
  · have h1 : (6 : Int32) ≤ x := (in_no (by omega) h).resolve_left h0
    simp (disch := omega) only [bd_eq, pu_ap, if_true, if_false, not_true_eq_false, not_false_eq_true, eq_self, v_0 S, r_0_0 S, r_0_1 S, r_0_2 S, r_0_3 S, r_0_4 S, r_0_5 S, r_0_6 S, r_0_7 S, r_0_8 S, r_0_9 S, r_0_10 S, r_0_11 S, r_0_12 S, n_0_13 S, i_0_14 S, i_0_15 S, i_0_16 S, i_0_17 S, v_1 S, r_1_0 S, i_1_1 S, i_1_2 S, i_1_3 S, i_1_4 S, i_1_5 S, i_1_6 S, v_3 S, r_3_0 S, r_3_1 S, r_3_2 S, r_3_3 S, i_3_4 S, i_3_5 S, v_8 S, r_8_0 S, r_8_1 S, r_8_2 S, r_8_3 S, i_8_4 S, i_8_5 S, v_13 S, r_13_0 S, r_13_1 S, i_13_2 S, v_16 S, r_16_0 S, r_16_1 S, i_16_2 S, v_19 S, r_19_0 S, r_19_1 S, r_19_2 S, r_19_3 S, i_19_4 S, i_19_5 S, i_19_6 S, i_19_7 S, v_24 S, r_24_0 S, r_24_1 S, r_24_2 S, r_24_3 S, i_24_4 S, j_24_5 S, v_28 S, r_28_0 S, r_28_1 S, r_28_2 S, v_30 S, r_30_0 S, r_30_1 S, r_30_2 S, r_30_3 S, i_30_4 S, i_30_5 S, v_33 S, r_33_0 S, r_33_1 S, r_33_2 S, r_33_3 S, i_33_4 S, i_33_5 S, v_37 S, r_37_0 S, r_37_1 S, i_37_2 S, i_37_3 S, i_37_4 S, f_X11_needHall, f_X11_needHall_b16, f_X11_needHall_b15, h0, h1, n_eleF S hr]
-- bits of persons
theorem pw_s : ∀ s, s ≤ 8 → (1 : Int32) <<< (nn s &&& 31) = nn (2 ^ s) ∧ nn (2 ^ s) - 1 = nn (2 ^ s - 1) ∧ 2 ^ s ≤ 256 := by decide +kernel
theorem and_not0 (x m : Int32) : (x &&& (m ^^^ (-1)) = 0) ↔ x &&& m = x := by
  constructor
  · intro h
    have e : x = (x &&& m) ||| (x &&& (m ^^^ (-1))) := by
      refine Int32.toBitVec_inj.1 ?_
      simp only [Int32.toBitVec_or, Int32.toBitVec_and, Int32.toBitVec_xor]
      rw [show (-1 : Int32).toBitVec = BitVec.allOnes 32 from rfl]
      ext i hi
      simp only [BitVec.getElem_or, BitVec.getElem_and, BitVec.getElem_xor, BitVec.getElem_allOnes]
      cases x.toBitVec[i] <;> cases m.toBitVec[i] <;> rfl
    rw [h, Int32.or_zero] at e
    exact e.symm
  · intro h
    rw [← h]
    refine Int32.toBitVec_inj.1 ?_
    simp only [Int32.toBitVec_and, Int32.toBitVec_xor]
    rw [show (-1 : Int32).toBitVec = BitVec.allOnes 32 from rfl, show (0 : Int32).toBitVec = 0#32 from rfl]
    ext i hi
    simp only [BitVec.getElem_and, BitVec.getElem_xor, BitVec.getElem_allOnes, BitVec.getElem_zero]
    cases x.toBitVec[i] <;> cases m.toBitVec[i] <;> rfl
theorem i32_nat (x : Int32) : ∃ n, n < 4294967296 ∧ x = nn n := by
  refine ⟨x.toBitVec.toNat, x.toBitVec.isLt, ?_⟩
  refine Int32.toBitVec_inj.1 ?_
  show x.toBitVec = (Int32.ofNat x.toBitVec.toNat).toBitVec
  rw [Int32.toBitVec_ofNat', BitVec.ofNat_toNat, BitVec.setWidth_eq]
theorem bits_in {s : Nat} (h8 : s ≤ 8) (x : Int32) : (x &&& (nn (2 ^ s - 1) ^^^ (-1)) = 0) ↔ inP (2 ^ s) x := by
  rw [and_not0]
  have hp : 2 ^ s ≤ 256 := (pw_s s h8).2.2
  have hq : 0 < 2 ^ s := Nat.two_pow_pos s
  have e : ∀ n, n < 4294967296 → nn n &&& nn (2 ^ s - 1) = nn (n % 2 ^ s) := fun n hn => by
    refine Int32.toBitVec_inj.1 ?_
    show (Int32.ofNat n &&& Int32.ofNat (2 ^ s - 1)).toBitVec = (Int32.ofNat (n % 2 ^ s)).toBitVec
    rw [Int32.toBitVec_and, Int32.toBitVec_ofNat', Int32.toBitVec_ofNat', Int32.toBitVec_ofNat']
    refine BitVec.eq_of_toNat_eq ?_
    rw [BitVec.toNat_and, BitVec.toNat_ofNat, BitVec.toNat_ofNat, BitVec.toNat_ofNat, Nat.mod_eq_of_lt (show n < 2 ^ 32 from hn), Nat.mod_eq_of_lt (show 2 ^ s - 1 < 2 ^ 32 by omega), Nat.and_two_pow_sub_one_eq_mod]
    exact (Nat.mod_eq_of_lt (Nat.lt_of_lt_of_le (Nat.mod_lt _ hq) (by omega))).symm
  constructor
  · intro h
    obtain ⟨n, hn, rfl⟩ := i32_nat x
    rw [e n hn] at h
    exact ⟨n % 2 ^ s, Nat.mod_lt _ hq, h.symm⟩
  · rintro ⟨k, hk, rfl⟩
    rw [e k (by omega), Nat.mod_eq_of_lt hk]
theorem c_every {F : Fo} (S : Sw w) (H : FoC I F) (h8 : sz F ≤ 8) : f_X2_everybody 3 (st w I J) = some (.inl (nn (2 ^ sz F - 1)), st w I J) := by
  simp (disch := omega) only [bd_eq, pu_ap, if_true, if_false, not_true_eq_false, not_false_eq_true, eq_self, v_0 S, r_0_0 S, r_0_1 S, r_0_2 S, r_0_3 S, r_0_4 S, r_0_5 S, r_0_6 S, r_0_7 S, r_0_8 S, r_0_9 S, r_0_10 S, r_0_11 S, r_0_12 S, n_0_13 S, i_0_14 S, i_0_15 S, i_0_16 S, i_0_17 S, v_1 S, r_1_0 S, i_1_1 S, i_1_2 S, i_1_3 S, i_1_4 S, i_1_5 S, i_1_6 S, v_3 S, r_3_0 S, r_3_1 S, r_3_2 S, r_3_3 S, i_3_4 S, i_3_5 S, v_8 S, r_8_0 S, r_8_1 S, r_8_2 S, r_8_3 S, i_8_4 S, i_8_5 S, v_13 S, r_13_0 S, r_13_1 S, i_13_2 S, v_16 S, r_16_0 S, r_16_1 S, i_16_2 S, v_19 S, r_19_0 S, r_19_1 S, r_19_2 S, r_19_3 S, i_19_4 S, i_19_5 S, i_19_6 S, i_19_7 S, v_24 S, r_24_0 S, r_24_1 S, r_24_2 S, r_24_3 S, i_24_4 S, j_24_5 S, v_28 S, r_28_0 S, r_28_1 S, r_28_2 S, v_30 S, r_30_0 S, r_30_1 S, r_30_2 S, r_30_3 S, i_30_4 S, i_30_5 S, v_33 S, r_33_0 S, r_33_1 S, r_33_2 S, r_33_3 S, i_33_4 S, i_33_5 S, v_37 S, r_37_0 S, r_37_1 S, i_37_2 S, i_37_3 S, i_37_4 S, f_X2_everybody, fc_sz H, (pw_s (sz F) h8).1, (pw_s (sz F) h8).2.1]
theorem cb_ok {F : Fo} (S : Sw w) (H : FoC I F) (h8 : sz F ≤ 8) {k : Nat} (h : k < 2 ^ sz F) : f_X11_needBits 0 (nn k) (st w I J) = some (.inl (), st w I J) := by
  have h1 := (bits_in h8 (nn k)).2 ⟨k, h, rfl⟩
  simp (disch := omega) only [bd_eq, pu_ap, if_true, if_false, not_true_eq_false, not_false_eq_true, eq_self, v_0 S, r_0_0 S, r_0_1 S, r_0_2 S, r_0_3 S, r_0_4 S, r_0_5 S, r_0_6 S, r_0_7 S, r_0_8 S, r_0_9 S, r_0_10 S, r_0_11 S, r_0_12 S, n_0_13 S, i_0_14 S, i_0_15 S, i_0_16 S, i_0_17 S, v_1 S, r_1_0 S, i_1_1 S, i_1_2 S, i_1_3 S, i_1_4 S, i_1_5 S, i_1_6 S, v_3 S, r_3_0 S, r_3_1 S, r_3_2 S, r_3_3 S, i_3_4 S, i_3_5 S, v_8 S, r_8_0 S, r_8_1 S, r_8_2 S, r_8_3 S, i_8_4 S, i_8_5 S, v_13 S, r_13_0 S, r_13_1 S, i_13_2 S, v_16 S, r_16_0 S, r_16_1 S, i_16_2 S, v_19 S, r_19_0 S, r_19_1 S, r_19_2 S, r_19_3 S, i_19_4 S, i_19_5 S, i_19_6 S, i_19_7 S, v_24 S, r_24_0 S, r_24_1 S, r_24_2 S, r_24_3 S, i_24_4 S, j_24_5 S, v_28 S, r_28_0 S, r_28_1 S, r_28_2 S, v_30 S, r_30_0 S, r_30_1 S, r_30_2 S, r_30_3 S, i_30_4 S, i_30_5 S, v_33 S, r_33_0 S, r_33_1 S, r_33_2 S, r_33_3 S, i_33_4 S, i_33_5 S, v_37 S, r_37_0 S, r_37_1 S, i_37_2 S, i_37_3 S, i_37_4 S, f_X11_needBits, f_X11_needBits_b20, c_every S H h8, h1, n_argT]
theorem cb_no {F : Fo} (S : Sw w) (hr : Rm w) (H : FoC I F) (h8 : sz F ≤ 8) {x : Int32} (h : ¬ inP (2 ^ sz F) x) : f_X11_needBits 0 x (st w I J) = some (.inr (w.1, 14), st (tw w 14) (up2 I 0 17 (I 0 17 + 1)) J) := by
  have h1 := fun q => h ((bits_in h8 x).1 q)
  simp (disch := omega) only [bd_eq, pu_ap, if_true, if_false, not_true_eq_false, not_false_eq_true, eq_self, v_0 S, r_0_0 S, r_0_1 S, r_0_2 S, r_0_3 S, r_0_4 S, r_0_5 S, r_0_6 S, r_0_7 S, r_0_8 S, r_0_9 S, r_0_10 S, r_0_11 S, r_0_12 S, n_0_13 S, i_0_14 S, i_0_15 S, i_0_16 S, i_0_17 S, v_1 S, r_1_0 S, i_1_1 S, i_1_2 S, i_1_3 S, i_1_4 S, i_1_5 S, i_1_6 S, v_3 S, r_3_0 S, r_3_1 S, r_3_2 S, r_3_3 S, i_3_4 S, i_3_5 S, v_8 S, r_8_0 S, r_8_1 S, r_8_2 S, r_8_3 S, i_8_4 S, i_8_5 S, v_13 S, r_13_0 S, r_13_1 S, i_13_2 S, v_16 S, r_16_0 S, r_16_1 S, i_16_2 S, v_19 S, r_19_0 S, r_19_1 S, r_19_2 S, r_19_3 S, i_19_4 S, i_19_5 S, i_19_6 S, i_19_7 S, v_24 S, r_24_0 S, r_24_1 S, r_24_2 S, r_24_3 S, i_24_4 S, j_24_5 S, v_28 S, r_28_0 S, r_28_1 S, r_28_2 S, v_30 S, r_30_0 S, r_30_1 S, r_30_2 S, r_30_3 S, i_30_4 S, i_30_5 S, v_33 S, r_33_0 S, r_33_1 S, r_33_2 S, r_33_3 S, i_33_4 S, i_33_5 S, v_37 S, r_37_0 S, r_37_1 S, i_37_2 S, i_37_3 S, i_37_4 S, f_X11_needBits, f_X11_needBits_b20, c_every S H h8, eq_false h1, n_argF S hr]
-- the model's tests
theorem mb_0 (S : Sw w) (x y : Int32) (h : I 49 0 = 0) : f_X12_bad 49 0 x y (st w I J) = some (.inl 0, st w I J) := by
  simp (disch := omega) only [bd_eq, pu_ap, if_true, if_false, not_true_eq_false, not_false_eq_true, eq_self, v_49 S, i_49_0 S, i_49_1 S, i_49_2 S, i_49_3 S, i_49_4 S, i_49_5 S, i_49_6 S, i_49_7 S, i_49_8 S, r_49_9 S, r_49_10 S, r_49_11 S, r_49_12 S, r_49_13 S, r_49_14 S, r_49_15 S, r_49_16 S, i_49_17 S, i_49_18 S, r_49_19 S, r_49_20 S, r_49_21 S, r_49_22 S, r_49_23 S, r_49_24 S, r_49_25 S, i_49_26 S, r_49_27 S, r_49_28 S, r_49_29 S, r_49_30 S, i_49_31 S, i_49_32 S, i_49_33 S, i_49_34 S, i_49_35 S, i_49_36 S, i_49_37 S, r_49_38 S, i_49_39 S, i_49_40 S, r_49_41 S, r_49_42 S, r_49_43 S, i_49_44 S, r_49_45 S, i_49_46 S, i_49_47 S, i_49_48 S, l_53_0 S, l_53_1 S, f_X12_bad, f_X12_bad_b26, h]
theorem mb_10 (S : Sw w) (x : Int32) (hx : x ≠ 0) (h : I 49 0 = 0) : f_X12_bad 49 1 x 0 (st w I J) = some (.inl 1, st w (up2 (up2 I 49 0 x) 51 0 (I 51 0 + 1)) J) := by
  simp (disch := omega) only [bd_eq, pu_ap, if_true, if_false, not_true_eq_false, not_false_eq_true, eq_self, v_49 S, i_49_0 S, i_49_1 S, i_49_2 S, i_49_3 S, i_49_4 S, i_49_5 S, i_49_6 S, i_49_7 S, i_49_8 S, r_49_9 S, r_49_10 S, r_49_11 S, r_49_12 S, r_49_13 S, r_49_14 S, r_49_15 S, r_49_16 S, i_49_17 S, i_49_18 S, r_49_19 S, r_49_20 S, r_49_21 S, r_49_22 S, r_49_23 S, r_49_24 S, r_49_25 S, i_49_26 S, r_49_27 S, r_49_28 S, r_49_29 S, r_49_30 S, i_49_31 S, i_49_32 S, i_49_33 S, i_49_34 S, i_49_35 S, i_49_36 S, i_49_37 S, r_49_38 S, i_49_39 S, i_49_40 S, r_49_41 S, r_49_42 S, r_49_43 S, i_49_44 S, r_49_45 S, i_49_46 S, i_49_47 S, i_49_48 S, l_53_0 S, l_53_1 S, f_X12_bad, f_X12_bad_b26, h, w_49_0 S, l_51_0 S, s_51_0 S, up2_a, up2_s, hx, show ((1 : Int32) = 0) = False from by decide]
theorem mb_11 (S : Sw w) (x : Int32) (hx : x ≠ 0) (h : I 49 0 = 0) : f_X12_bad 49 1 x 1 (st w I J) = some (.inl 1, st w (up2 (up2 I 49 0 x) 51 1 (I 51 1 + 1)) J) := by
  simp (disch := omega) only [bd_eq, pu_ap, if_true, if_false, not_true_eq_false, not_false_eq_true, eq_self, v_49 S, i_49_0 S, i_49_1 S, i_49_2 S, i_49_3 S, i_49_4 S, i_49_5 S, i_49_6 S, i_49_7 S, i_49_8 S, r_49_9 S, r_49_10 S, r_49_11 S, r_49_12 S, r_49_13 S, r_49_14 S, r_49_15 S, r_49_16 S, i_49_17 S, i_49_18 S, r_49_19 S, r_49_20 S, r_49_21 S, r_49_22 S, r_49_23 S, r_49_24 S, r_49_25 S, i_49_26 S, r_49_27 S, r_49_28 S, r_49_29 S, r_49_30 S, i_49_31 S, i_49_32 S, i_49_33 S, i_49_34 S, i_49_35 S, i_49_36 S, i_49_37 S, r_49_38 S, i_49_39 S, i_49_40 S, r_49_41 S, r_49_42 S, r_49_43 S, i_49_44 S, r_49_45 S, i_49_46 S, i_49_47 S, i_49_48 S, l_53_0 S, l_53_1 S, f_X12_bad, f_X12_bad_b26, h, w_49_0 S, l_51_1 S, s_51_1 S, up2_a, up2_s, hx, show ((1 : Int32) = 0) = False from by decide]
theorem mp_ok {F : Fo} (S : Sw w) (H : FoM I F) (h8 : sz F ≤ 8) {k : Nat} (h : k < sz F) : f_X12_isPerson 49 (nn k) (st w I J) = some (.inl 1, st w I J) := by
  simp (disch := omega) only [bd_eq, pu_ap, if_true, if_false, not_true_eq_false, not_false_eq_true, eq_self, v_49 S, i_49_0 S, i_49_1 S, i_49_2 S, i_49_3 S, i_49_4 S, i_49_5 S, i_49_6 S, i_49_7 S, i_49_8 S, r_49_9 S, r_49_10 S, r_49_11 S, r_49_12 S, r_49_13 S, r_49_14 S, r_49_15 S, r_49_16 S, i_49_17 S, i_49_18 S, r_49_19 S, r_49_20 S, r_49_21 S, r_49_22 S, r_49_23 S, r_49_24 S, r_49_25 S, i_49_26 S, r_49_27 S, r_49_28 S, r_49_29 S, r_49_30 S, i_49_31 S, i_49_32 S, i_49_33 S, i_49_34 S, i_49_35 S, i_49_36 S, i_49_37 S, r_49_38 S, i_49_39 S, i_49_40 S, r_49_41 S, r_49_42 S, r_49_43 S, i_49_44 S, r_49_45 S, i_49_46 S, i_49_47 S, i_49_48 S, l_53_0 S, l_53_1 S, f_X12_isPerson, fm_sz H, mi_ok (show sz F < 2147483648 by omega) h, rz1]
theorem mp_no {F : Fo} (S : Sw w) (H : FoM I F) (h8 : sz F ≤ 8) {x : Int32} (h : ¬ inP (sz F) x) : f_X12_isPerson 49 x (st w I J) = some (.inl 0, st w I J) := by
  simp (disch := omega) only [bd_eq, pu_ap, if_true, if_false, not_true_eq_false, not_false_eq_true, eq_self, v_49 S, i_49_0 S, i_49_1 S, i_49_2 S, i_49_3 S, i_49_4 S, i_49_5 S, i_49_6 S, i_49_7 S, i_49_8 S, r_49_9 S, r_49_10 S, r_49_11 S, r_49_12 S, r_49_13 S, r_49_14 S, r_49_15 S, r_49_16 S, i_49_17 S, i_49_18 S, r_49_19 S, r_49_20 S, r_49_21 S, r_49_22 S, r_49_23 S, r_49_24 S, r_49_25 S, i_49_26 S, r_49_27 S, r_49_28 S, r_49_29 S, r_49_30 S, i_49_31 S, i_49_32 S, i_49_33 S, i_49_34 S, i_49_35 S, i_49_36 S, i_49_37 S, r_49_38 S, i_49_39 S, i_49_40 S, r_49_41 S, r_49_42 S, r_49_43 S, i_49_44 S, r_49_45 S, i_49_46 S, i_49_47 S, i_49_48 S, l_53_0 S, l_53_1 S, f_X12_isPerson, fm_sz H, mi_no (show sz F < 2147483648 by omega) h, rz0]
theorem mh_ok {k : Nat} (h : k < 6) {σ : PS} : f_X12_isHall (nn k) σ = some (.inl 1, σ) := by
  simp (disch := omega) only [bd_eq, pu_ap, if_true, if_false, not_true_eq_false, not_false_eq_true, eq_self, f_X12_isHall, mb_ok (m := 6) (b := 5) rfl (by decide) h, rz1]
theorem mh_no {x : Int32} (h : ¬ inP 6 x) {σ : PS} : f_X12_isHall x σ = some (.inl 0, σ) := by
  simp (disch := omega) only [bd_eq, pu_ap, if_true, if_false, not_true_eq_false, not_false_eq_true, eq_self, f_X12_isHall, mb_no (m := 6) (b := 5) rfl (by decide) h, rz0]
theorem mf_ok {k : Nat} (h : k < 64) {σ : PS} : f_X12_isFace (nn k) σ = some (.inl 1, σ) := by
  simp (disch := omega) only [bd_eq, pu_ap, if_true, if_false, not_true_eq_false, not_false_eq_true, eq_self, f_X12_isFace, mb_ok (m := 64) (b := 63) rfl (by decide) h, rz1]
theorem mf_no {x : Int32} (h : ¬ inP 64 x) {σ : PS} : f_X12_isFace x σ = some (.inl 0, σ) := by
  simp (disch := omega) only [bd_eq, pu_ap, if_true, if_false, not_true_eq_false, not_false_eq_true, eq_self, f_X12_isFace, mb_no (m := 64) (b := 63) rfl (by decide) h, rz0]
theorem ms_ok {F : Fo} (S : Sw w) (H : FoM I F) (h8 : sz F ≤ 8) {k : Nat} (h : k < 2 ^ sz F) : f_X12_arePersons 49 (nn k) (st w I J) = some (.inl 1, st w I J) := by
  have hp := (pw_s (sz F) h8).2.2
  simp (disch := omega) only [bd_eq, pu_ap, if_true, if_false, not_true_eq_false, not_false_eq_true, eq_self, v_49 S, i_49_0 S, i_49_1 S, i_49_2 S, i_49_3 S, i_49_4 S, i_49_5 S, i_49_6 S, i_49_7 S, i_49_8 S, r_49_9 S, r_49_10 S, r_49_11 S, r_49_12 S, r_49_13 S, r_49_14 S, r_49_15 S, r_49_16 S, i_49_17 S, i_49_18 S, r_49_19 S, r_49_20 S, r_49_21 S, r_49_22 S, r_49_23 S, r_49_24 S, r_49_25 S, i_49_26 S, r_49_27 S, r_49_28 S, r_49_29 S, r_49_30 S, i_49_31 S, i_49_32 S, i_49_33 S, i_49_34 S, i_49_35 S, i_49_36 S, i_49_37 S, r_49_38 S, i_49_39 S, i_49_40 S, r_49_41 S, r_49_42 S, r_49_43 S, i_49_44 S, r_49_45 S, i_49_46 S, i_49_47 S, i_49_48 S, l_53_0 S, l_53_1 S, f_X12_arePersons, fm_sz H, (pw_s (sz F) h8).1, mi_ok (show 2 ^ sz F < 2147483648 by omega) h, rz1]
theorem ms_no {F : Fo} (S : Sw w) (H : FoM I F) (h8 : sz F ≤ 8) {x : Int32} (h : ¬ inP (2 ^ sz F) x) : f_X12_arePersons 49 x (st w I J) = some (.inl 0, st w I J) := by
  have hp := (pw_s (sz F) h8).2.2
  simp (disch := omega) only [bd_eq, pu_ap, if_true, if_false, not_true_eq_false, not_false_eq_true, eq_self, v_49 S, i_49_0 S, i_49_1 S, i_49_2 S, i_49_3 S, i_49_4 S, i_49_5 S, i_49_6 S, i_49_7 S, i_49_8 S, r_49_9 S, r_49_10 S, r_49_11 S, r_49_12 S, r_49_13 S, r_49_14 S, r_49_15 S, r_49_16 S, i_49_17 S, i_49_18 S, r_49_19 S, r_49_20 S, r_49_21 S, r_49_22 S, r_49_23 S, r_49_24 S, r_49_25 S, i_49_26 S, r_49_27 S, r_49_28 S, r_49_29 S, r_49_30 S, i_49_31 S, i_49_32 S, i_49_33 S, i_49_34 S, i_49_35 S, i_49_36 S, i_49_37 S, r_49_38 S, i_49_39 S, i_49_40 S, r_49_41 S, r_49_42 S, r_49_43 S, i_49_44 S, r_49_45 S, i_49_46 S, i_49_47 S, i_49_48 S, l_53_0 S, l_53_1 S, f_X12_arePersons, fm_sz H, (pw_s (sz F) h8).1, mi_no (show 2 ^ sz F < 2147483648 by omega) h, rz0]
end REL
