/-! PURE PART: faces, in both; the calls hold and faces -/
def fsB (A : At) (p i f : Nat) : Bool := lp (fun j b => b || (decide (pA A j = p) && decide (pF A j = f))) i 0 false
theorem fsB_s (A : At) (p i f : Nat) : fsB A p (i + 1) f = (fsB A p i f || (decide (pA A i = p) && decide (pF A i = f))) := by
  unfold fsB
  rw [lp_end, Nat.zero_add]
theorem fsB_n {A : At} {p i : Nat} (h : ¬ pA A i = p) (f : Nat) : fsB A p (i + 1) f = fsB A p i f := by
  rw [fsB_s]
  simp [h]
theorem fsB_y {A : At} {p i : Nat} (h : pA A i = p) (f : Nat) : fsB A p (i + 1) f = (fsB A p i f || decide (f = pF A i)) := by
  rw [fsB_s]
  simp [h, eq_comm]
/-- the least and the greatest of a set of faces, -1 if there is none -/
def isMn (g : Nat → Prop) (v : Int32) : Prop := (v = -1 ∧ ∀ f, f < 64 → ¬ g f) ∨ ∃ l, l < 64 ∧ v = nn l ∧ g l ∧ ∀ f, f < 64 → g f → l ≤ f
def isMx (g : Nat → Prop) (v : Int32) : Prop := (v = -1 ∧ ∀ f, f < 64 → ¬ g f) ∨ ∃ l, l < 64 ∧ v = nn l ∧ g l ∧ ∀ f, f < 64 → g f → f ≤ l
theorem isMn_u {g : Nat → Prop} {v v' : Int32} (h : isMn g v) (h' : isMn g v') : v = v' := by
  rcases h with ⟨h1, h2⟩ | ⟨l, l1, l2, l3, l4⟩ <;> rcases h' with ⟨k1, k2⟩ | ⟨m, m1, m2, m3, m4⟩
  · rw [h1, k1]
  · exact absurd m3 (h2 m m1)
  · exact absurd l3 (k2 l l1)
  · have a := l4 m m1 m3
    have b := m4 l l1 l3
    rw [l2, m2, show l = m by omega]
theorem isMx_u {g : Nat → Prop} {v v' : Int32} (h : isMx g v) (h' : isMx g v') : v = v' := by
  rcases h with ⟨h1, h2⟩ | ⟨l, l1, l2, l3, l4⟩ <;> rcases h' with ⟨k1, k2⟩ | ⟨m, m1, m2, m3, m4⟩
  · rw [h1, k1]
  · exact absurd m3 (h2 m m1)
  · exact absurd l3 (k2 l l1)
  · have a := l4 m m1 m3
    have b := m4 l l1 l3
    rw [l2, m2, show l = m by omega]
section FACES
variable {w : Wd} {I I' : Is} {J J' : Js} {F : Fo} {A : At} {D : Dt}
theorem c_faces (S : Sw w) (HA : StR I 43 A) (WA : AtW F A) (h8 : sz F ≤ 8) {p k : Nat} (hp : p < sz F) (hk : k < 3) : ∃ v, f_X11_faces_b22 NF 0 (nn p) (nn k) 0 (-1) (-1) 0 (st w I J) = some (.inl v, st w I J) ∧ (k = 0 → v = nn (cnt (fun f => fsB A p (hg A) f = true) 64)) ∧ (k = 1 → isMn (fun f => fsB A p (hg A) f = true) v) ∧ (k = 2 → isMx (fun f => fsB A p (hg A) f = true) v) := by
  have h40 := WA.1
  have T := StS_43 S
  have q0 : (nn k = (0 : Int32)) = (k = 0) := nn_eq (b := 0) (by omega) (by omega)
  have q1 : (nn k = (1 : Int32)) = (k = 1) := nn_eq (b := 1) (by omega) (by omega)
  refine loopQ (fun N i (z : Int64 × Int32 × Int32) => f_X11_faces_b22 N 0 (nn p) (nn k) z.1 z.2.1 z.2.2 (nn i) (st w I J)) (hg A) (fun i z => (∀ f, f < 64 → z.1.toBitVec.getLsbD f = fsB A p i f) ∧ isMn (fun f => fsB A p i f = true) z.2.1 ∧ isMx (fun f => fsB A p i f = true) z.2.2) (fun r => ∃ v, r = some (.inl v, st w I J) ∧ (k = 0 → v = nn (cnt (fun f => fsB A p (hg A) f = true) 64)) ∧ (k = 1 → isMn (fun f => fsB A p (hg A) f = true) v) ∧ (k = 2 → isMx (fun f => fsB A p (hg A) f = true) v)) ?_ ?_ (hg A) 0 (0, -1, -1) NF (by omega) (NF_gt (by omega)) ⟨fun f hf => by show (0 : Int64).toBitVec.getLsbD f = false; simp, Or.inl ⟨rfl, fun f _ h => Bool.noConfusion (show false = true from h)⟩, Or.inl ⟨rfl, fun f _ h => Bool.noConfusion (show false = true from h)⟩⟩
  · intro N i ⟨s, l, m⟩ hi ⟨hs, hl, hm⟩
    left
    have hs : ∀ f, f < 64 → s.toBitVec.getLsbD f = fsB A p i f := hs
    have hl : isMn (fun f => fsB A p i f = true) l := hl
    have hm : isMx (fun f => fsB A p i f = true) m := hm
    obtain ⟨b1, b2, b3, b4, b5⟩ := pl_b WA hi
    have hn : ¬ nn (hg A) ≤ nn i := by rw [nn_le (by omega) (by omega)]; omega
    have i4 := e_i4 (I := I) (J := J) T
    rw [sr_hg HA] at i4
    have et := (e_v T (F := f_X5_takerOf 43 (nn i))).trans (c_taker (J := J) T HA WA h8 hi)
    have ef := (e_v T (F := f_X5_faceOn 43 (nn i))).trans (c_faceOn (J := J) T HA WA h8 hi)
    have qp : (nn (pA A i) = nn p) = (pA A i = p) := nn_eq (by omega) (by omega)
    have e0 : f_X11_faces_b22 (N + 1) 0 (nn p) (nn k) s l m (nn i) (st w I J) = (if (nn (pA A i) = nn p : Prop) then (bd (gR 11 11 0) fun r5 => bd (cv 5 r5 (f_X5_faceOn r5 (nn i))) fun v6 => if (l = (-1) : Prop) then (f_X11_faces_b83 (f_X11_faces_b22 N) 0 (nn p) (nn k) (s ||| ((1 : Int64) <<< (Int32.toInt64 v6 &&& 63))) m (nn i) v6 v6) else f_X11_faces_b83 (f_X11_faces_b22 N) 0 (nn p) (nn k) (s ||| ((1 : Int64) <<< (Int32.toInt64 v6 &&& 63))) m (nn i) v6 (mn32 l v6)) else f_X11_faces_b94 (f_X11_faces_b22 N) 0 (nn p) (nn k) s l m (nn i)) (st w I J) := by
      rw [f_X11_faces_b22, bd_st (r_0_11 S), bd_st i4, if_neg hn, bd_st (r_0_11 S), bd_st et]
    by_cases hc : pA A i = p
    · have gy := fsB_y hc
      have hself : fsB A p (i + 1) (pF A i) = true := by rw [gy]; simp
      have hmono : ∀ f, fsB A p i f = true → fsB A p (i + 1) f = true := fun f h => by rw [gy, h]; rfl
      have hsplit : ∀ f, fsB A p (i + 1) f = true → fsB A p i f = true ∨ f = pF A i := fun f h => by
        rw [gy, Bool.or_eq_true, decide_eq_true_eq] at h
        exact h
      obtain ⟨l', hl'1, hl'2⟩ : ∃ l', (if (l = (-1) : Prop) then nn (pF A i) else mn32 l (nn (pF A i))) = l' ∧ isMn (fun f => fsB A p (i + 1) f = true) l' := by
        rcases hl with ⟨l1, l2⟩ | ⟨u, u1, u2, u3, u4⟩
        · refine ⟨nn (pF A i), by rw [if_pos l1], Or.inr ⟨pF A i, b4, rfl, hself, fun f hf h => ?_⟩⟩
          rcases hsplit f h with q | q
          · exact absurd q (l2 f hf)
          · omega
        · refine ⟨nn (min u (pF A i)), by rw [if_neg (by rw [u2]; exact nn_ne_neg (by omega)), u2, mn_nn (by omega) (by omega)], Or.inr ⟨min u (pF A i), by omega, rfl, ?_, fun f hf h => ?_⟩⟩
          · rcases Nat.le_total u (pF A i) with q | q
            · rw [Nat.min_eq_left q]; exact hmono u u3
            · rw [Nat.min_eq_right q]; exact hself
          · rcases hsplit f h with q | q
            · have := u4 f hf q
              omega
            · omega
      have hm' : isMx (fun f => fsB A p (i + 1) f = true) (mx32 m (nn (pF A i))) := by
        rcases hm with ⟨l1, l2⟩ | ⟨u, u1, u2, u3, u4⟩
        · have : mx32 m (nn (pF A i)) = nn (pF A i) := by
            rw [l1]
            unfold mx32
            rw [if_pos]
            obtain ⟨q, hq⟩ : ∃ q, q = pF A i := ⟨_, rfl⟩
            rw [← hq, Int32.lt_iff_toInt_lt, nn_int (by omega), show (-1 : Int32).toInt = -1 from by decide]
            omega
          rw [this]
          refine Or.inr ⟨pF A i, b4, rfl, hself, fun f hf h => ?_⟩
          rcases hsplit f h with q | q
          · exact absurd q (l2 f hf)
          · omega
        · rw [u2, mx_nn (by omega) (by omega)]
          refine Or.inr ⟨max u (pF A i), by omega, rfl, ?_, fun f hf h => ?_⟩
          · rcases Nat.le_total u (pF A i) with q | q
            · rw [Nat.max_eq_right q]; exact hself
            · rw [Nat.max_eq_left q]; exact hmono u u3
          · rcases hsplit f h with q | q
            · have := u4 f hf q
              omega
            · omega
      refine ⟨(s ||| ((1 : Int64) <<< (Int32.toInt64 (nn (pF A i)) &&& 63)), l', mx32 m (nn (pF A i))), ?_, fun f hf => ?_, hl'2, hm'⟩
      · refine e0.trans ?_
        rw [if_pos (by rw [qp]; exact hc), bd_st (r_0_11 S), bd_st ef, ← hl'1]
        by_cases hq : l = -1
        · rw [if_pos hq, if_pos hq, f_X11_faces_b83, f_X11_faces_b94, nn_succ]
        · rw [if_neg hq, if_neg hq, f_X11_faces_b83, f_X11_faces_b94, nn_succ]
      · show (s ||| _).toBitVec.getLsbD f = _
        rw [or64 b4 hf, hs f hf, gy]
    · have gn := fsB_n hc
      refine ⟨(s, l, m), ?_, fun f hf => by rw [gn]; exact hs f hf, ?_, ?_⟩
      · refine e0.trans ?_
        rw [if_neg (by rw [qp]; exact hc), f_X11_faces_b94, nn_succ]
      · show isMn (fun f => fsB A p (i + 1) f = true) l
        simp only [gn]
        exact hl
      · show isMx (fun f => fsB A p (i + 1) f = true) m
        simp only [gn]
        exact hm
  · intro N ⟨s, l, m⟩ ⟨hs, hl, hm⟩
    have i4 := e_i4 (I := I) (J := J) T
    rw [sr_hg HA] at i4
    have e0 : f_X11_faces_b22 (N + 1) 0 (nn p) (nn k) s l m (nn (hg A)) (st w I J) = (if (nn k = 0 : Prop) then (pu (bc64 s)) else if (nn k = 1 : Prop) then (pu l) else pu m) (st w I J) := by
      rw [f_X11_faces_b22, bd_st (r_0_11 S), bd_st i4, if_pos (Int32.le_refl _)]
    by_cases k0 : k = 0
    · refine ⟨bc64 s, e0.trans (by rw [if_pos (by rw [q0]; exact k0)]; rfl), fun _ => ?_, fun h => by omega, fun h => by omega⟩
      rw [bc64_c]
      congr 1
      exact cnt_cg 64 fun f hf => by rw [show s.toBitVec.getLsbD f = fsB A p (hg A) f from hs f hf]
    · by_cases k1 : k = 1
      · exact ⟨l, e0.trans (by rw [if_neg (by rw [q0]; exact k0), if_pos (by rw [q1]; exact k1)]; rfl), fun h => by omega, fun _ => hl, fun h => by omega⟩
      · exact ⟨m, e0.trans (by rw [if_neg (by rw [q0]; exact k0), if_neg (by rw [q1]; exact k1)]; rfl), fun h => by omega, fun h => by omega, fun _ => hm⟩
theorem m_faces (S : Sw w) (MA : RwR I 497 0 A) (WA : AtW F A) (h8 : sz F ≤ 8) {p k : Nat} (hp : p < sz F) (hk : k < 3) : ∃ v I1, f_X12_faces_b63 NF 49 (nn p) (nn k) 0 (-1) (-1) 0 (st w I J) = some (.inl v, st w I1 J) ∧ Ag [524] I I1 ∧ (k = 0 → v = nn (cnt (fun f => fsB A p (hg A) f = true) 64)) ∧ (k = 1 → isMn (fun f => fsB A p (hg A) f = true) v) ∧ (k = 2 → isMx (fun f => fsB A p (hg A) f = true) v) := by
  have h40 := WA.1
  have U := RoS_497 S
  have q0 : (nn k = (0 : Int32)) = (k = 0) := nn_eq (b := 0) (by omega) (by omega)
  have q1 : (nn k = (1 : Int32)) = (k = 1) := nn_eq (b := 1) (by omega) (by omega)
  have last : ∀ I0, Ag [524] I I0 → (∀ f, f < 64 → I0 524 f = if fsB A p (hg A) f = true then 1 else 0) → ∃ v I1, f_X12_faces_b138 NF 49 (nn k) 0 (-1) (-1) 0 (st w I0 J) = some (.inl v, st w I1 J) ∧ Ag [524] I I1 ∧ (k = 0 → v = nn (cnt (fun f => fsB A p (hg A) f = true) 64)) ∧ (k = 1 → isMn (fun f => fsB A p (hg A) f = true) v) ∧ (k = 2 → isMx (fun f => fsB A p (hg A) f = true) v) := by
    intro I0 a0 h0
    refine loopQ (fun N i (z : Int32 × Int32) => f_X12_faces_b138 N 49 (nn k) (nn (cnt (fun f => fsB A p (hg A) f = true) i)) z.1 z.2 (nn i) (st w I0 J)) 64 (fun i z => ((cnt (fun f => fsB A p (hg A) f = true) i = 0 ∧ z.1 = -1 ∧ z.2 = -1 ∧ ∀ f, f < i → ¬ fsB A p (hg A) f = true) ∨ ∃ l m, cnt (fun f => fsB A p (hg A) f = true) i ≠ 0 ∧ l < i ∧ m < i ∧ z.1 = nn l ∧ z.2 = nn m ∧ fsB A p (hg A) l = true ∧ fsB A p (hg A) m = true ∧ ∀ f, f < i → fsB A p (hg A) f = true → l ≤ f ∧ f ≤ m)) (fun r => ∃ v I1, r = some (.inl v, st w I1 J) ∧ Ag [524] I I1 ∧ (k = 0 → v = nn (cnt (fun f => fsB A p (hg A) f = true) 64)) ∧ (k = 1 → isMn (fun f => fsB A p (hg A) f = true) v) ∧ (k = 2 → isMx (fun f => fsB A p (hg A) f = true) v)) ?_ ?_ 64 0 (-1, -1) NF (by omega) (NF_gt (by omega)) (Or.inl ⟨rfl, rfl, rfl, fun f hf => by omega⟩)
    · intro N i ⟨l, m⟩ hi hP
      left
      have cl := cnt_le (fun f => fsB A p (hg A) f = true) i
      have lv := l_524 (I := I0) (J := J) (k := i) S hi
      rw [h0 i hi] at lv
      have qc : (nn (cnt (fun f => fsB A p (hg A) f = true) i) = (0 : Int32)) = (cnt (fun f => fsB A p (hg A) f = true) i = 0) := nn_eq (b := 0) (by omega) (by omega)
      have cs : cnt (fun f => fsB A p (hg A) f = true) (i + 1) = cnt (fun f => fsB A p (hg A) f = true) i + (if fsB A p (hg A) i = true then 1 else 0) := rfl
      by_cases hg' : fsB A p (hg A) i = true
      · rw [if_pos hg'] at lv cs
        rcases hP with ⟨c0, z1, z2, z3⟩ | ⟨u, v, c0, u1, v1, z1, z2, g1, g2, g3⟩
        · refine ⟨(nn i, nn i), ?_, Or.inr ⟨i, i, by omega, by omega, by omega, rfl, rfl, hg', hg', fun f hf h => ?_⟩⟩
          · show f_X12_faces_b138 (N + 1) 49 (nn k) _ l m (nn i) (st w I0 J) = _
            rw [f_X12_faces_b138, if_neg (le64 hi), bd_st (r_49_45 S), bd_st lv, if_neg (by decide), if_pos (by rw [qc]; exact c0), f_X12_faces_b169, f_X12_faces_b178, nn_succ, nn_succ, cs]
          · by_cases e : f = i
            · omega
            · exact absurd h (z3 f (by omega))
        · have z1 : l = nn u := z1
          refine ⟨(l, nn i), ?_, Or.inr ⟨u, i, by omega, by omega, by omega, z1, rfl, g1, hg', fun f hf h => ?_⟩⟩
          · show f_X12_faces_b138 (N + 1) 49 (nn k) _ l m (nn i) (st w I0 J) = _
            rw [f_X12_faces_b138, if_neg (le64 hi), bd_st (r_49_45 S), bd_st lv, if_neg (by decide), if_neg (by rw [qc]; exact c0), f_X12_faces_b169, f_X12_faces_b178, nn_succ, nn_succ, cs]
          · by_cases e : f = i
            · omega
            · have := g3 f (by omega) h
              omega
      · rw [if_neg hg'] at lv cs
        refine ⟨(l, m), ?_, ?_⟩
        · show f_X12_faces_b138 (N + 1) 49 (nn k) _ l m (nn i) (st w I0 J) = _
          rw [f_X12_faces_b138, if_neg (le64 hi), bd_st (r_49_45 S), bd_st lv, if_pos rfl, f_X12_faces_b178, nn_succ, cs]
          rfl
        · rcases hP with ⟨c0, z1, z2, z3⟩ | ⟨u, v, c0, u1, v1, z1, z2, g1, g2, g3⟩
          · refine Or.inl ⟨by omega, z1, z2, fun f hf => ?_⟩
            by_cases e : f = i
            · rw [e]; exact hg'
            · exact z3 f (by omega)
          · refine Or.inr ⟨u, v, by omega, by omega, by omega, z1, z2, g1, g2, fun f hf h => ?_⟩
            by_cases e : f = i
            · rw [e] at h; exact absurd h hg'
            · exact g3 f (by omega) h
    · intro N ⟨l, m⟩ hP
      have e0 : f_X12_faces_b138 (N + 1) 49 (nn k) (nn (cnt (fun f => fsB A p (hg A) f = true) 64)) l m (nn 64) (st w I0 J) = (if (nn k = 0 : Prop) then (pu (nn (cnt (fun f => fsB A p (hg A) f = true) 64))) else if (nn k = 1 : Prop) then (pu l) else pu m) (st w I0 J) := by
        rw [f_X12_faces_b138, if_pos (show (64 : Int32) ≤ nn 64 by decide)]
      have hmn : isMn (fun f => fsB A p (hg A) f = true) l := by
        rcases hP with ⟨c0, z1, z2, z3⟩ | ⟨u, v, c0, u1, v1, z1, z2, g1, g2, g3⟩
        · exact Or.inl ⟨z1, z3⟩
        · exact Or.inr ⟨u, u1, z1, g1, fun f hf h => (g3 f hf h).1⟩
      have hmx : isMx (fun f => fsB A p (hg A) f = true) m := by
        rcases hP with ⟨c0, z1, z2, z3⟩ | ⟨u, v, c0, u1, v1, z1, z2, g1, g2, g3⟩
        · exact Or.inl ⟨z2, z3⟩
        · exact Or.inr ⟨v, v1, z2, g2, fun f hf h => (g3 f hf h).2⟩
      by_cases k0 : k = 0
      · exact ⟨_, I0, e0.trans (by rw [if_pos (by rw [q0]; exact k0)]; rfl), a0, fun _ => rfl, fun h => by omega, fun h => by omega⟩
      · by_cases k1 : k = 1
        · exact ⟨l, I0, e0.trans (by rw [if_neg (by rw [q0]; exact k0), if_pos (by rw [q1]; exact k1)]; rfl), a0, fun h => by omega, fun _ => hmn, fun h => by omega⟩
        · exact ⟨m, I0, e0.trans (by rw [if_neg (by rw [q0]; exact k0), if_neg (by rw [q1]; exact k1)]; rfl), a0, fun h => by omega, fun h => by omega, fun _ => hmx⟩
  have mid : ∀ I0, Ag [524] I I0 → (∀ f, f < 64 → I0 524 f = 0) → ∃ v I1, f_X12_faces_b87 NF 49 (nn p) (nn k) 0 (-1) (-1) 0 (st w I0 J) = some (.inl v, st w I1 J) ∧ Ag [524] I I1 ∧ (k = 0 → v = nn (cnt (fun f => fsB A p (hg A) f = true) 64)) ∧ (k = 1 → isMn (fun f => fsB A p (hg A) f = true) v) ∧ (k = 2 → isMx (fun f => fsB A p (hg A) f = true) v) := by
    intro I0 a0 h0
    refine loopQ (fun N i (I1 : Is) => f_X12_faces_b87 N 49 (nn p) (nn k) 0 (-1) (-1) (nn i) (st w I1 J)) (hg A) (fun i I1 => Ag [524] I I1 ∧ ∀ f, f < 64 → I1 524 f = if fsB A p i f = true then 1 else 0) (fun r => ∃ v I1, r = some (.inl v, st w I1 J) ∧ Ag [524] I I1 ∧ (k = 0 → v = nn (cnt (fun f => fsB A p (hg A) f = true) 64)) ∧ (k = 1 → isMn (fun f => fsB A p (hg A) f = true) v) ∧ (k = 2 → isMx (fun f => fsB A p (hg A) f = true) v)) ?_ ?_ (hg A) 0 I0 NF (by omega) (NF_gt (by omega)) ⟨a0, fun f hf => by rw [h0 f hf]; rfl⟩
    · intro N i I1 hi ⟨a1, h1⟩
      left
      obtain ⟨b1, b2, b3, b4, b5⟩ := pl_b WA hi
      have MA1 := MA.ag a1 (by decide)
      have hn : ¬ nn (hg A) ≤ nn i := by rw [nn_le (by omega) (by omega)]; omega
      have l24 := o_l24 (I := I1) (J := J) U
      rw [rr_hg MA1] at l24
      have ea := m_pA (J := J) U MA1 h40 hi
      have ef := m_pF (J := J) U MA1 h40 hi
      have qp : (nn (pA A i) = nn p) = (pA A i = p) := nn_eq (by omega) (by omega)
      by_cases hc : pA A i = p
      · refine ⟨up2 I1 524 (pF A i) 1, ?_, a1.up (by decide), fun f hf => ?_⟩
        · show f_X12_faces_b87 (N + 1) 49 (nn p) (nn k) 0 (-1) (-1) (nn i) (st w I1 J) = _
          rw [f_X12_faces_b87, bd_st (r_49_27 S), bd_st l24, if_neg hn, bd_st (r_49_27 S), bd_st ea, if_pos (by rw [qp]; exact hc), bd_st (r_49_45 S), bd_st (r_49_27 S), bd_st ef, bd_st (s_524 S (by omega)), f_X12_faces_b129, nn_succ]
        · rw [fsB_y hc]
          by_cases e : f = pF A i
          · rw [e, up2_s]
            simp
          · rw [up2_k e, h1 f hf]
            simp [e]
      · refine ⟨I1, ?_, a1, fun f hf => by rw [fsB_n hc]; exact h1 f hf⟩
        show f_X12_faces_b87 (N + 1) 49 (nn p) (nn k) 0 (-1) (-1) (nn i) (st w I1 J) = _
        rw [f_X12_faces_b87, bd_st (r_49_27 S), bd_st l24, if_neg hn, bd_st (r_49_27 S), bd_st ea, if_neg (by rw [qp]; exact hc), f_X12_faces_b129, nn_succ]
    · intro N I1 ⟨a1, h1⟩
      have MA1 := MA.ag a1 (by decide)
      have l24 := o_l24 (I := I1) (J := J) U
      rw [rr_hg MA1] at l24
      show ∃ v I2, f_X12_faces_b87 (N + 1) 49 (nn p) (nn k) 0 (-1) (-1) (nn (hg A)) (st w I1 J) = _ ∧ _
      rw [f_X12_faces_b87, bd_st (r_49_27 S), bd_st l24, if_pos (Int32.le_refl _)]
      exact last I1 a1 h1
  refine loopQ (fun N i (I0 : Is) => f_X12_faces_b63 N 49 (nn p) (nn k) 0 (-1) (-1) (nn i) (st w I0 J)) 64 (fun i I0 => Ag [524] I I0 ∧ ∀ f, f < i → I0 524 f = 0) (fun r => ∃ v I1, r = some (.inl v, st w I1 J) ∧ Ag [524] I I1 ∧ (k = 0 → v = nn (cnt (fun f => fsB A p (hg A) f = true) 64)) ∧ (k = 1 → isMn (fun f => fsB A p (hg A) f = true) v) ∧ (k = 2 → isMx (fun f => fsB A p (hg A) f = true) v)) ?_ ?_ 64 0 I NF (by omega) (NF_gt (by omega)) ⟨Ag.refl _ _, fun f hf => by omega⟩
  · intro N i I0 hi ⟨a0, h0⟩
    left
    refine ⟨up2 I0 524 i 0, ?_, a0.up (by decide), fun f hf => ?_⟩
    · show f_X12_faces_b63 (N + 1) 49 (nn p) (nn k) 0 (-1) (-1) (nn i) (st w I0 J) = _
      rw [f_X12_faces_b63, if_neg (le64 hi), bd_st (r_49_45 S), bd_st (s_524 S (by omega)), nn_succ]
    · by_cases e : f = i
      · rw [e, up2_s]
      · rw [up2_k e]
        exact h0 f (by omega)
  · intro N I0 ⟨a0, h0⟩
    show ∃ v I2, f_X12_faces_b63 (N + 1) 49 (nn p) (nn k) 0 (-1) (-1) (nn 64) (st w I0 J) = _ ∧ _
    rw [f_X12_faces_b63, if_pos (show (64 : Int32) ≤ nn 64 by decide)]
    exact mid I0 a0 h0
theorem b_faces (S : Sw w) (W : WD D) {p k : Nat} (hp : p < sz (dF D)) (hk : k < 3) : Bod w D (f_X11_faces_b22 NF 0 (nn p) (nn k) 0 (-1) (-1) 0) (f_X12_faces_b63 NF 49 (nn p) (nn k) 0 (-1) (-1) 0) := by
  intro I I' J J' HC HM H0
  have HCs := HC
  have HMs := HM
  obtain ⟨⟨HF, HA, HL, HW, HT, -⟩, -, -⟩ := HC
  obtain ⟨⟨MF, MA, ML, MW, MT, -⟩, -, -⟩ := HM
  have Ws := W
  obtain ⟨WF, ⟨WA, -, WB, -⟩, -, WL, WW, -⟩ := W
  have h8 := WF.1
  have h40 := WA.1
  have T := StS_43 S
  have U := RoS_497 S
  obtain ⟨v, e1, c0, c1, c2⟩ := c_faces (J := J) S HA WA h8 hp hk
  obtain ⟨v', I2, e2, a2, d0, d1, d2⟩ := m_faces (J := J') S MA WA h8 hp hk
  have hv : v = v' := by
    rcases (show k = 0 ∨ k = 1 ∨ k = 2 by omega) with h | h | h
    · rw [c0 h, d0 h]
    · exact isMn_u (c1 h) (d1 h)
    · exact isMx_u (c2 h) (d2 h)
  subst hv
  exact ⟨v, ⟨I, e1, Ag.refl _ _⟩, I2, e2, AgM.of a2 (by decide) (by decide)⟩
end FACES
