/-! PURE PART: what is told (folk, a state of work, a law), as plain numbers, and how the class's and the model's cells hold it -/
def bI (c : Prop) [Decidable c] : Int32 := if c then 1 else 0
theorem bI_0 {c : Prop} [Decidable c] : (bI c = 0) = ¬ c := by
  unfold bI
  by_cases h : c <;> simp [h]
theorem bI_1 {c : Prop} [Decidable c] : (bI c = 1) = c := by
  unfold bI
  by_cases h : c <;> simp [h]
theorem bI_t {c : Prop} [Decidable c] (h : c) : bI c = 1 := if_pos h
theorem bI_f {c : Prop} [Decidable c] (h : ¬ c) : bI c = 0 := if_neg h
theorem rz_b {c : Prop} [Decidable c] {σ : PS} : rz (bI c) σ = some (.inl (bI c), σ) := by
  unfold bI
  by_cases h : c
  · rw [if_pos h]; exact rz1
  · rw [if_neg h]; exact rz0
theorem NF_s : ∃ M, NF = M + 1 := ⟨9999, rfl⟩
theorem NF_gt {d : Nat} (h : d < 10000) : d < NF := h
-- folk: size, alike at most; face, temper, price, shy
abbrev Fo : Type := (Nat × Nat) × (Nat → Nat) × (Nat → Nat) × (Nat → Nat) × (Nat → Nat)
def sz (F : Fo) : Nat := F.1.1
def ak (F : Fo) : Nat := F.1.2
def fa (F : Fo) : Nat → Nat := F.2.1
def te (F : Fo) : Nat → Nat := F.2.2.1
def pr (F : Fo) : Nat → Nat := F.2.2.2.1
def sy (F : Fo) : Nat → Nat := F.2.2.2.2
def FoW (F : Fo) : Prop := sz F ≤ 8 ∧ ak F ≤ 6 ∧ ∀ p, p < sz F → fa F p < 64 ∧ te F p ≤ 9 ∧ pr F p ≤ 40 ∧ sy F p < 256
def FoC (I : Is) (F : Fo) : Prop := I 3 4 = nn (sz F) ∧ I 3 5 = nn (ak F) ∧ ∀ p, p < sz F → I 4 p = nn (fa F p) ∧ I 5 p = nn (te F p) ∧ I 6 p = nn (pr F p) ∧ I 7 p = nn (sy F p)
def FoM (I : Is) (F : Fo) : Prop := I 53 0 = nn (sz F) ∧ I 53 1 = nn (ak F) ∧ ∀ p, p < sz F → I (66 + p) 0 = nn (fa F p) ∧ I (66 + p) 1 = nn (te F p) ∧ I (66 + p) 2 = nn (pr F p) ∧ I 55 p = nn (sy F p)
section FOLK
variable {I : Is} {F : Fo}
theorem fc_sz (H : FoC I F) : I 3 4 = nn (sz F) := H.1
theorem fc_ak (H : FoC I F) : I 3 5 = nn (ak F) := H.2.1
theorem fc_fa (H : FoC I F) {p : Nat} (h : p < sz F) : I 4 p = nn (fa F p) := (H.2.2 p h).1
theorem fc_te (H : FoC I F) {p : Nat} (h : p < sz F) : I 5 p = nn (te F p) := (H.2.2 p h).2.1
theorem fc_pr (H : FoC I F) {p : Nat} (h : p < sz F) : I 6 p = nn (pr F p) := (H.2.2 p h).2.2.1
theorem fc_sy (H : FoC I F) {p : Nat} (h : p < sz F) : I 7 p = nn (sy F p) := (H.2.2 p h).2.2.2
theorem fm_sz (H : FoM I F) : I 53 0 = nn (sz F) := H.1
theorem fm_ak (H : FoM I F) : I 53 1 = nn (ak F) := H.2.1
theorem fm_fa (H : FoM I F) {p : Nat} (h : p < sz F) : I (66 + p) 0 = nn (fa F p) := (H.2.2 p h).1
theorem fm_te (H : FoM I F) {p : Nat} (h : p < sz F) : I (66 + p) 1 = nn (te F p) := (H.2.2 p h).2.1
theorem fm_pr (H : FoM I F) {p : Nat} (h : p < sz F) : I (66 + p) 2 = nn (pr F p) := (H.2.2 p h).2.2.1
theorem fm_sy (H : FoM I F) {p : Nat} (h : p < sz F) : I 55 p = nn (sy F p) := (H.2.2 p h).2.2.2
end FOLK
-- a state of work: how many hang, the year; moods, took, sat, plates (taker, sitter, hall, face, year)
abbrev P5 : Type := Nat × Nat × Nat × Nat × Nat
abbrev At : Type := (Nat × Nat) × (Nat → Nat) × (Nat → Nat) × (Nat → Nat) × (Nat → P5)
def hg (A : At) : Nat := A.1.1
def yr (A : At) : Nat := A.1.2
def mo (A : At) : Nat → Nat := A.2.1
def tk (A : At) : Nat → Nat := A.2.2.1
def sa (A : At) : Nat → Nat := A.2.2.2.1
def pl (A : At) : Nat → P5 := A.2.2.2.2
def pA (A : At) (i : Nat) : Nat := (pl A i).1
def pB (A : At) (i : Nat) : Nat := (pl A i).2.1
def pH (A : At) (i : Nat) : Nat := (pl A i).2.2.1
def pF (A : At) (i : Nat) : Nat := (pl A i).2.2.2.1
def pY (A : At) (i : Nat) : Nat := (pl A i).2.2.2.2
def pkN (q : P5) : Nat := q.1 + 8 * q.2.1 + 64 * q.2.2.1 + 512 * q.2.2.2.1 + 32768 * q.2.2.2.2
def P5W (m : Nat) (q : P5) : Prop := q.1 < m ∧ q.2.1 < m ∧ q.2.2.1 < 6 ∧ q.2.2.2.1 < 64 ∧ q.2.2.2.2 ≤ 400
def AtW (F : Fo) (A : At) : Prop := hg A ≤ 40 ∧ yr A ≤ 400 ∧ ∀ i, i < hg A → P5W (sz F) (pl A i)
def sm8 (f : Nat → Nat) : Nat := f 0 + f 1 + f 2 + f 3 + f 4 + f 5 + f 6 + f 7
/-- a State object at e, its arrays behind it -/
def StS (w : Wd) (e : Nat) : Prop := e + 5 ≤ w.1 ∧ w.2.2.1 e = .inr (5, [2, 2, 2, 2, 0, 0]) ∧ (w.2.2.1 (e + 1) = .inl (0, 8, 0) ∧ w.2.2.1 (e + 2) = .inl (0, 8, 0) ∧ w.2.2.1 (e + 3) = .inl (0, 8, 0) ∧ w.2.2.1 (e + 4) = .inl (0, 40, 0)) ∧ w.2.2.2 e 0 = some (e + 1) ∧ w.2.2.2 e 1 = some (e + 2) ∧ w.2.2.2 e 2 = some (e + 3) ∧ w.2.2.2 e 3 = some (e + 4)
def StR (I : Is) (e : Nat) (A : At) : Prop := I e 4 = nn (hg A) ∧ I e 5 = nn (yr A) ∧ (∀ p, p < 8 → I (e + 1) p = nn (mo A p) ∧ I (e + 2) p = nn (tk A p) ∧ I (e + 3) p = nn (sa A p)) ∧ ∀ i, i < hg A → I (e + 4) i = nn (pkN (pl A i))
/-- a model's row at r from o on -/
def RwR (I : Is) (r o : Nat) (A : At) : Prop := (∀ p, p < 8 → I r (o + p) = nn (mo A p) ∧ I r (o + (8 + p)) = nn (tk A p) ∧ I r (o + (16 + p)) = nn (sa A p)) ∧ (I r (o + 24) = nn (hg A) ∧ I r (o + 25) = nn (sm8 (tk A)) ∧ I r (o + 26) = nn (sm8 (tk A)) - nn (hg A) ∧ I r (o + 27) = nn (yr A)) ∧ ∀ i, i < hg A → I r (o + (28 + 5 * i)) = nn (pA A i) ∧ I r (o + (28 + 5 * i + 1)) = nn (pB A i) ∧ I r (o + (28 + 5 * i + 2)) = nn (pH A i) ∧ I r (o + (28 + 5 * i + 3)) = nn (pF A i) ∧ I r (o + (28 + 5 * i + 4)) = nn (pY A i)
theorem StS_43 {w : Wd} (S : Sw w) : StS w 43 := ⟨Nat.le_trans (by decide) S.1, S.2.1 43 (by decide), ⟨S.2.1 44 (by decide), S.2.1 45 (by decide), S.2.1 46 (by decide), S.2.1 47 (by decide)⟩, S.2.2 (43, 0) (by decide +kernel), S.2.2 (43, 1) (by decide +kernel), S.2.2 (43, 2) (by decide +kernel), S.2.2 (43, 3) (by decide +kernel)⟩
theorem StS_38 {w : Wd} (S : Sw w) : StS w 38 := ⟨Nat.le_trans (by decide) S.1, S.2.1 38 (by decide), ⟨S.2.1 39 (by decide), S.2.1 40 (by decide), S.2.1 41 (by decide), S.2.1 42 (by decide)⟩, S.2.2 (38, 0) (by decide +kernel), S.2.2 (38, 1) (by decide +kernel), S.2.2 (38, 2) (by decide +kernel), S.2.2 (38, 3) (by decide +kernel)⟩
section STATE
variable {w : Wd} {I : Is} {J : Js} {e : Nat}
theorem e_v {α : Type} {F : Mo α} (T : StS w e) : cv 5 e F (st w I J) = F (st w I J) := m_cv (Nat.lt_of_lt_of_le (by omega) T.1) T.2.1
theorem e_r0 (T : StS w e) : gR 5 0 e (st w I J) = some (.inl (e + 1), st w I J) := m_gR (Nat.lt_of_lt_of_le (by omega) T.1) T.2.1 rfl T.2.2.2.1
theorem e_r1 (T : StS w e) : gR 5 1 e (st w I J) = some (.inl (e + 2), st w I J) := m_gR (Nat.lt_of_lt_of_le (by omega) T.1) T.2.1 rfl T.2.2.2.2.1
theorem e_r2 (T : StS w e) : gR 5 2 e (st w I J) = some (.inl (e + 3), st w I J) := m_gR (Nat.lt_of_lt_of_le (by omega) T.1) T.2.1 rfl T.2.2.2.2.2.1
theorem e_r3 (T : StS w e) : gR 5 3 e (st w I J) = some (.inl (e + 4), st w I J) := m_gR (Nat.lt_of_lt_of_le (by omega) T.1) T.2.1 rfl T.2.2.2.2.2.2
theorem e_i4 (T : StS w e) : gI 5 4 e (st w I J) = some (.inl (I e 4), st w I J) := m_gI (Nat.lt_of_lt_of_le (by omega) T.1) T.2.1 rfl
theorem e_w4 {v : Int32} (T : StS w e) : pf 5 4 e (.int v) (st w I J) = some (.inl (), st w (up2 I e 4 v) J) := m_pfI (Nat.lt_of_lt_of_le (by omega) T.1) T.2.1 rfl
theorem e_i5 (T : StS w e) : gI 5 5 e (st w I J) = some (.inl (I e 5), st w I J) := m_gI (Nat.lt_of_lt_of_le (by omega) T.1) T.2.1 rfl
theorem e_w5 {v : Int32} (T : StS w e) : pf 5 5 e (.int v) (st w I J) = some (.inl (), st w (up2 I e 5 v) J) := m_pfI (Nat.lt_of_lt_of_le (by omega) T.1) T.2.1 rfl
theorem a_al {a m k : Nat} (ha : a < w.1) (h : w.2.2.1 a = .inl (0, m, 0)) (hm : m < 2147483648) (hk : k < m) : al 0 a (nn k) (st w I J) = some (.inl (I a k), st w I J) := by
  have e := m_al (n := w.1) (q := w.2.1) (I := I) (J := J) (R := w.2.2.2) ha h (nn_inN hk hm)
  rw [nn_cl (Nat.lt_trans hk hm)] at e
  exact e
theorem a_as {a m k : Nat} {v : Int32} (ha : a < w.1) (h : w.2.2.1 a = .inl (0, m, 0)) (hm : m < 2147483648) (hk : k < m) : as_ a (nn k) v (st w I J) = some (.inl (), st w (up2 I a k v) J) := by
  have e := m_as (n := w.1) (q := w.2.1) (I := I) (J := J) (R := w.2.2.2) (v := v) ha h (nn_inN hk hm)
  rw [nn_cl (Nat.lt_trans hk hm)] at e
  exact e
theorem e_l1 {k : Nat} (T : StS w e) (h : k < 8) : al 0 (e + 1) (nn k) (st w I J) = some (.inl (I (e + 1) k), st w I J) := a_al (Nat.lt_of_lt_of_le (by omega) T.1) T.2.2.1.1 (by decide) h
theorem e_s1 {k : Nat} {v : Int32} (T : StS w e) (h : k < 8) : as_ (e + 1) (nn k) v (st w I J) = some (.inl (), st w (up2 I (e + 1) k v) J) := a_as (Nat.lt_of_lt_of_le (by omega) T.1) T.2.2.1.1 (by decide) h
theorem e_l2 {k : Nat} (T : StS w e) (h : k < 8) : al 0 (e + 2) (nn k) (st w I J) = some (.inl (I (e + 2) k), st w I J) := a_al (Nat.lt_of_lt_of_le (by omega) T.1) T.2.2.1.2.1 (by decide) h
theorem e_s2 {k : Nat} {v : Int32} (T : StS w e) (h : k < 8) : as_ (e + 2) (nn k) v (st w I J) = some (.inl (), st w (up2 I (e + 2) k v) J) := a_as (Nat.lt_of_lt_of_le (by omega) T.1) T.2.2.1.2.1 (by decide) h
theorem e_l3 {k : Nat} (T : StS w e) (h : k < 8) : al 0 (e + 3) (nn k) (st w I J) = some (.inl (I (e + 3) k), st w I J) := a_al (Nat.lt_of_lt_of_le (by omega) T.1) T.2.2.1.2.2.1 (by decide) h
theorem e_s3 {k : Nat} {v : Int32} (T : StS w e) (h : k < 8) : as_ (e + 3) (nn k) v (st w I J) = some (.inl (), st w (up2 I (e + 3) k v) J) := a_as (Nat.lt_of_lt_of_le (by omega) T.1) T.2.2.1.2.2.1 (by decide) h
theorem e_l4 {k : Nat} (T : StS w e) (h : k < 40) : al 0 (e + 4) (nn k) (st w I J) = some (.inl (I (e + 4) k), st w I J) := a_al (Nat.lt_of_lt_of_le (by omega) T.1) T.2.2.1.2.2.2 (by decide) h
theorem e_s4 {k : Nat} {v : Int32} (T : StS w e) (h : k < 40) : as_ (e + 4) (nn k) v (st w I J) = some (.inl (), st w (up2 I (e + 4) k v) J) := a_as (Nat.lt_of_lt_of_le (by omega) T.1) T.2.2.1.2.2.2 (by decide) h
end STATE
section STR
variable {I : Is} {e r o : Nat} {A : At}
theorem sr_hg (H : StR I e A) : I e 4 = nn (hg A) := H.1
theorem sr_yr (H : StR I e A) : I e 5 = nn (yr A) := H.2.1
theorem sr_mo (H : StR I e A) {p : Nat} (h : p < 8) : I (e + 1) p = nn (mo A p) := (H.2.2.1 p h).1
theorem sr_tk (H : StR I e A) {p : Nat} (h : p < 8) : I (e + 2) p = nn (tk A p) := (H.2.2.1 p h).2.1
theorem sr_sa (H : StR I e A) {p : Nat} (h : p < 8) : I (e + 3) p = nn (sa A p) := (H.2.2.1 p h).2.2
theorem sr_pl (H : StR I e A) {i : Nat} (h : i < hg A) : I (e + 4) i = nn (pkN (pl A i)) := H.2.2.2 i h
end STR
-- plates as one number
theorem pk7 {n : Nat} (h : n < 2147483648) : nn n &&& 7 = nn (n % 8) := pk_andN (n := n) (by omega) 3 rfl
theorem pk63 {n : Nat} (h : n < 2147483648) : nn n &&& 63 = nn (n % 64) := pk_andN (n := n) (by omega) 6 rfl
theorem pkS {n : Nat} (h : n < 2147483648) (s : Int32) (k : Nat) (hs : (s.toBitVec.smod 32).toNat = k) : nn n >>> s = nn (n / 2 ^ k) := pk_shrN h s k hs
section PLATE
variable {q : P5} {m : Nat}
theorem pk_b (h : P5W m q) (hm : m ≤ 8) : pkN q < 2147483648 := by
  obtain ⟨h1, h2, h3, h4, h5⟩ := h
  unfold pkN
  omega
theorem pk_a (h : P5W m q) (hm : m ≤ 8) : nn (pkN q) &&& 7 = nn q.1 := by
  rw [pk7 (pk_b h hm)]
  obtain ⟨h1, h2, h3, h4, h5⟩ := h
  congr 1
  unfold pkN
  omega
theorem pk_bb (h : P5W m q) (hm : m ≤ 8) : (nn (pkN q) >>> ((3 : Int32) &&& 31)) &&& 7 = nn q.2.1 := by
  rw [pkS (pk_b h hm) _ 3 (by decide), pk7 (Nat.lt_of_le_of_lt (Nat.div_le_self _ _) (pk_b h hm))]
  obtain ⟨h1, h2, h3, h4, h5⟩ := h
  congr 1
  unfold pkN
  omega
theorem pk_h (h : P5W m q) (hm : m ≤ 8) : (nn (pkN q) >>> ((6 : Int32) &&& 31)) &&& 7 = nn q.2.2.1 := by
  rw [pkS (pk_b h hm) _ 6 (by decide), pk7 (Nat.lt_of_le_of_lt (Nat.div_le_self _ _) (pk_b h hm))]
  obtain ⟨h1, h2, h3, h4, h5⟩ := h
  congr 1
  unfold pkN
  omega
theorem pk_f (h : P5W m q) (hm : m ≤ 8) : (nn (pkN q) >>> ((9 : Int32) &&& 31)) &&& 63 = nn q.2.2.2.1 := by
  rw [pkS (pk_b h hm) _ 9 (by decide), pk63 (Nat.lt_of_le_of_lt (Nat.div_le_self _ _) (pk_b h hm))]
  obtain ⟨h1, h2, h3, h4, h5⟩ := h
  congr 1
  unfold pkN
  omega
theorem pk_y (h : P5W m q) (hm : m ≤ 8) : nn (pkN q) >>> ((15 : Int32) &&& 31) = nn q.2.2.2.2 := by
  rw [pkS (pk_b h hm) _ 15 (by decide)]
  obtain ⟨h1, h2, h3, h4, h5⟩ := h
  congr 1
  unfold pkN
  omega
end PLATE
-- the State's own reading methods
section READ
variable {w : Wd} {I : Is} {J : Js} {e : Nat} {F : Fo} {A : At}
theorem c_taker (T : StS w e) (H : StR I e A) (W : AtW F A) (h8 : sz F ≤ 8) {i : Nat} (hi : i < hg A) : f_X5_takerOf e (nn i) (st w I J) = some (.inl (nn (pA A i)), st w I J) := by
  have h40 := W.1
  simp (disch := omega) only [bd_eq, pu_ap, if_true, if_false, not_true_eq_false, not_false_eq_true, eq_self, f_X5_takerOf, e_r3 T, e_l4 T, sr_pl H, pk_a (W.2.2 i hi) h8]
  rfl
theorem c_sitter (T : StS w e) (H : StR I e A) (W : AtW F A) (h8 : sz F ≤ 8) {i : Nat} (hi : i < hg A) : f_X5_sitterOf e (nn i) (st w I J) = some (.inl (nn (pB A i)), st w I J) := by
  have h40 := W.1
  simp (disch := omega) only [bd_eq, pu_ap, if_true, if_false, not_true_eq_false, not_false_eq_true, eq_self, f_X5_sitterOf, e_r3 T, e_l4 T, sr_pl H, pk_bb (W.2.2 i hi) h8]
  rfl
theorem c_hallOf (T : StS w e) (H : StR I e A) (W : AtW F A) (h8 : sz F ≤ 8) {i : Nat} (hi : i < hg A) : f_X5_hallOf e (nn i) (st w I J) = some (.inl (nn (pH A i)), st w I J) := by
  have h40 := W.1
  simp (disch := omega) only [bd_eq, pu_ap, if_true, if_false, not_true_eq_false, not_false_eq_true, eq_self, f_X5_hallOf, e_r3 T, e_l4 T, sr_pl H, pk_h (W.2.2 i hi) h8]
  rfl
theorem c_faceOn (T : StS w e) (H : StR I e A) (W : AtW F A) (h8 : sz F ≤ 8) {i : Nat} (hi : i < hg A) : f_X5_faceOn e (nn i) (st w I J) = some (.inl (nn (pF A i)), st w I J) := by
  have h40 := W.1
  simp (disch := omega) only [bd_eq, pu_ap, if_true, if_false, not_true_eq_false, not_false_eq_true, eq_self, f_X5_faceOn, e_r3 T, e_l4 T, sr_pl H, pk_f (W.2.2 i hi) h8]
  rfl
theorem c_yearOf (T : StS w e) (H : StR I e A) (W : AtW F A) (h8 : sz F ≤ 8) {i : Nat} (hi : i < hg A) : f_X5_yearOf e (nn i) (st w I J) = some (.inl (nn (pY A i)), st w I J) := by
  have h40 := W.1
  simp (disch := omega) only [bd_eq, pu_ap, if_true, if_false, not_true_eq_false, not_false_eq_true, eq_self, f_X5_yearOf, e_r3 T, e_l4 T, sr_pl H, pk_y (W.2.2 i hi) h8]
  rfl
/-- who looks nearest -/
def near (F : Fo) (x : Int32) : Nat := lp (fun i b => if bc32 (nn (fa F b) ^^^ x) ≤ bc32 (nn (fa F i) ^^^ x) then b else i) (sz F - 1) 1 0
theorem c_nearest (S : Sw w) (H : FoC I F) (W : FoW F) (x : Int32) : f_X2_nearest 3 x (st w I J) = some (.inl (nn (near F x)), st w I J) := by
  have h8 := W.1
  unfold f_X2_nearest near
  rcases Nat.eq_zero_or_pos (sz F) with h0 | h0
  · rw [h0]
    obtain ⟨M, hM⟩ := NF_s
    rw [hM]
    show f_X2_nearest_b4 (M + 1) 3 x (nn 0) (nn 1) (st w I J) = some (.inl (nn 0), st w I J)
    simp (disch := omega) only [bd_eq, pu_ap, if_true, if_false, not_true_eq_false, not_false_eq_true, eq_self, v_0 S, r_0_0 S, r_0_1 S, r_0_2 S, r_0_3 S, r_0_4 S, r_0_5 S, r_0_6 S, r_0_7 S, r_0_8 S, r_0_9 S, r_0_10 S, r_0_11 S, r_0_12 S, n_0_13 S, i_0_14 S, i_0_15 S, i_0_16 S, i_0_17 S, v_1 S, r_1_0 S, i_1_1 S, i_1_2 S, i_1_3 S, i_1_4 S, i_1_5 S, i_1_6 S, v_3 S, r_3_0 S, r_3_1 S, r_3_2 S, r_3_3 S, i_3_4 S, i_3_5 S, v_8 S, r_8_0 S, r_8_1 S, r_8_2 S, r_8_3 S, i_8_4 S, i_8_5 S, v_13 S, r_13_0 S, r_13_1 S, i_13_2 S, v_16 S, r_16_0 S, r_16_1 S, i_16_2 S, v_19 S, r_19_0 S, r_19_1 S, r_19_2 S, r_19_3 S, i_19_4 S, i_19_5 S, i_19_6 S, i_19_7 S, v_24 S, r_24_0 S, r_24_1 S, r_24_2 S, r_24_3 S, i_24_4 S, j_24_5 S, v_28 S, r_28_0 S, r_28_1 S, r_28_2 S, v_30 S, r_30_0 S, r_30_1 S, r_30_2 S, r_30_3 S, i_30_4 S, i_30_5 S, v_33 S, r_33_0 S, r_33_1 S, r_33_2 S, r_33_3 S, i_33_4 S, i_33_5 S, v_37 S, r_37_0 S, r_37_1 S, i_37_2 S, i_37_3 S, i_37_4 S, f_X2_nearest_b4, fc_sz H, h0, nn_le]
    rfl
  · refine (loopP (fun N i b => f_X2_nearest_b4 N 3 x (nn b) (nn i) (st w I J)) (sz F) (fun i b => b < i) (fun i b => if bc32 (nn (fa F b) ^^^ x) ≤ bc32 (nn (fa F i) ^^^ x) then b else i) (fun b => some (.inl (nn b), st w I J)) ?_ ?_ (sz F - 1) 1 0 NF (by omega) (NF_gt (by omega)) (by omega)).1
    · intro N i b hi hb
      have hn : ¬ sz F ≤ i := by omega
      by_cases hc : bc32 (nn (fa F b) ^^^ x) ≤ bc32 (nn (fa F i) ^^^ x)
      · refine ⟨?_, ?_⟩
        · simp (disch := omega) only [bd_eq, pu_ap, if_true, if_false, not_true_eq_false, not_false_eq_true, eq_self, v_0 S, r_0_0 S, r_0_1 S, r_0_2 S, r_0_3 S, r_0_4 S, r_0_5 S, r_0_6 S, r_0_7 S, r_0_8 S, r_0_9 S, r_0_10 S, r_0_11 S, r_0_12 S, n_0_13 S, i_0_14 S, i_0_15 S, i_0_16 S, i_0_17 S, v_1 S, r_1_0 S, i_1_1 S, i_1_2 S, i_1_3 S, i_1_4 S, i_1_5 S, i_1_6 S, v_3 S, r_3_0 S, r_3_1 S, r_3_2 S, r_3_3 S, i_3_4 S, i_3_5 S, v_8 S, r_8_0 S, r_8_1 S, r_8_2 S, r_8_3 S, i_8_4 S, i_8_5 S, v_13 S, r_13_0 S, r_13_1 S, i_13_2 S, v_16 S, r_16_0 S, r_16_1 S, i_16_2 S, v_19 S, r_19_0 S, r_19_1 S, r_19_2 S, r_19_3 S, i_19_4 S, i_19_5 S, i_19_6 S, i_19_7 S, v_24 S, r_24_0 S, r_24_1 S, r_24_2 S, r_24_3 S, i_24_4 S, j_24_5 S, v_28 S, r_28_0 S, r_28_1 S, r_28_2 S, v_30 S, r_30_0 S, r_30_1 S, r_30_2 S, r_30_3 S, i_30_4 S, i_30_5 S, v_33 S, r_33_0 S, r_33_1 S, r_33_2 S, r_33_3 S, i_33_4 S, i_33_5 S, v_37 S, r_37_0 S, r_37_1 S, i_37_2 S, i_37_3 S, i_37_4 S, f_X2_nearest_b4, f_X2_nearest_b39, fc_sz H, nn_le, hn, l_4 S, fc_fa H, hc, nn_succ]
        · rw [if_pos hc]; omega
      · refine ⟨?_, ?_⟩
        · simp (disch := omega) only [bd_eq, pu_ap, if_true, if_false, not_true_eq_false, not_false_eq_true, eq_self, v_0 S, r_0_0 S, r_0_1 S, r_0_2 S, r_0_3 S, r_0_4 S, r_0_5 S, r_0_6 S, r_0_7 S, r_0_8 S, r_0_9 S, r_0_10 S, r_0_11 S, r_0_12 S, n_0_13 S, i_0_14 S, i_0_15 S, i_0_16 S, i_0_17 S, v_1 S, r_1_0 S, i_1_1 S, i_1_2 S, i_1_3 S, i_1_4 S, i_1_5 S, i_1_6 S, v_3 S, r_3_0 S, r_3_1 S, r_3_2 S, r_3_3 S, i_3_4 S, i_3_5 S, v_8 S, r_8_0 S, r_8_1 S, r_8_2 S, r_8_3 S, i_8_4 S, i_8_5 S, v_13 S, r_13_0 S, r_13_1 S, i_13_2 S, v_16 S, r_16_0 S, r_16_1 S, i_16_2 S, v_19 S, r_19_0 S, r_19_1 S, r_19_2 S, r_19_3 S, i_19_4 S, i_19_5 S, i_19_6 S, i_19_7 S, v_24 S, r_24_0 S, r_24_1 S, r_24_2 S, r_24_3 S, i_24_4 S, j_24_5 S, v_28 S, r_28_0 S, r_28_1 S, r_28_2 S, v_30 S, r_30_0 S, r_30_1 S, r_30_2 S, r_30_3 S, i_30_4 S, i_30_5 S, v_33 S, r_33_0 S, r_33_1 S, r_33_2 S, r_33_3 S, i_33_4 S, i_33_5 S, v_37 S, r_37_0 S, r_37_1 S, i_37_2 S, i_37_3 S, i_37_4 S, f_X2_nearest_b4, f_X2_nearest_b39, fc_sz H, nn_le, hn, l_4 S, fc_fa H, hc, nn_succ]
        · rw [if_neg hc]; omega
    · intro N b hb
      simp (disch := omega) only [bd_eq, pu_ap, if_true, if_false, not_true_eq_false, not_false_eq_true, eq_self, v_0 S, r_0_0 S, r_0_1 S, r_0_2 S, r_0_3 S, r_0_4 S, r_0_5 S, r_0_6 S, r_0_7 S, r_0_8 S, r_0_9 S, r_0_10 S, r_0_11 S, r_0_12 S, n_0_13 S, i_0_14 S, i_0_15 S, i_0_16 S, i_0_17 S, v_1 S, r_1_0 S, i_1_1 S, i_1_2 S, i_1_3 S, i_1_4 S, i_1_5 S, i_1_6 S, v_3 S, r_3_0 S, r_3_1 S, r_3_2 S, r_3_3 S, i_3_4 S, i_3_5 S, v_8 S, r_8_0 S, r_8_1 S, r_8_2 S, r_8_3 S, i_8_4 S, i_8_5 S, v_13 S, r_13_0 S, r_13_1 S, i_13_2 S, v_16 S, r_16_0 S, r_16_1 S, i_16_2 S, v_19 S, r_19_0 S, r_19_1 S, r_19_2 S, r_19_3 S, i_19_4 S, i_19_5 S, i_19_6 S, i_19_7 S, v_24 S, r_24_0 S, r_24_1 S, r_24_2 S, r_24_3 S, i_24_4 S, j_24_5 S, v_28 S, r_28_0 S, r_28_1 S, r_28_2 S, v_30 S, r_30_0 S, r_30_1 S, r_30_2 S, r_30_3 S, i_30_4 S, i_30_5 S, v_33 S, r_33_0 S, r_33_1 S, r_33_2 S, r_33_3 S, i_33_4 S, i_33_5 S, v_37 S, r_37_0 S, r_37_1 S, i_37_2 S, i_37_3 S, i_37_4 S, f_X2_nearest_b4, fc_sz H, Int32.le_refl]
end READ
