/-! PURE PART: counting the bits of a long (the rows wb_ are the kit's, pasted) -/
theorem wb_tb (n : Nat) : (lN n).toBitVec = BitVec.ofNat 64 n := rfl
theorem wb_inj {a b : Int64} (h : a.toBitVec = b.toBitVec) : a = b := Int64.toBitVec_inj.mp h
theorem wb_tn {n : Nat} (h : n < 2 ^ 64) : (lN n).toBitVec.toNat = n := by rw [wb_tb, BitVec.toNat_ofNat, Nat.mod_eq_of_lt h]
theorem wb_of (x : Int64) : ∃ n, n < 2 ^ 64 ∧ x = lN n := ⟨x.toBitVec.toNat, x.toBitVec.isLt, wb_inj (by rw [wb_tb]; simp)⟩
theorem wb_c : ∀ k, k < 64 → ((nI k).toInt64 &&& 63) = lN k := by decide +kernel
theorem wb_cu : ∀ k, k < 64 → ((nI k).toInt64.toUInt64 &&& Int64.toUInt64 63) = UInt64.ofNat k := by decide +kernel
theorem wb_sm : ∀ k, k < 64 → (BitVec.ofNat 64 k).smod 64 = BitVec.ofNat 64 k := by decide +kernel
theorem wb_lt2 {a b : Nat} (h : a < b) : 2 ^ a < 2 ^ b := Nat.pow_lt_pow_right (by decide) h
theorem wb_shr {n k : Nat} (hn : n < 2 ^ 64) (hk : k < 64) : ((lN n).toUInt64 >>> ((nI k).toInt64.toUInt64 &&& Int64.toUInt64 63)).toInt64 = lN (n / 2 ^ k) := by
  rw [wb_cu k hk]
  apply wb_inj
  apply BitVec.eq_of_toNat_eq
  show ((lN n).toUInt64 >>> UInt64.ofNat k).toNat = (BitVec.ofNat 64 _).toNat
  have h1 : (UInt64.ofNat k).toNat = k := by
    show (BitVec.ofNat 64 k).toNat = k
    rw [BitVec.toNat_ofNat, Nat.mod_eq_of_lt (by omega)]
  have h2 : (lN n).toUInt64.toNat = n := wb_tn hn
  rw [UInt64.toNat_shiftRight, h1, h2, Nat.mod_eq_of_lt hk, Nat.shiftRight_eq_div_pow, BitVec.toNat_ofNat, Nat.mod_eq_of_lt (Nat.lt_of_le_of_lt (Nat.div_le_self _ _) hn)]
theorem wb_shl (n : Nat) {k : Nat} (hk : k < 64) : lN n <<< ((nI k).toInt64 &&& 63) = lN (n * 2 ^ k) := by
  rw [wb_c k hk]
  apply wb_inj
  rw [Int64.toBitVec_shiftLeft, wb_tb, wb_tb, wb_tb, wb_sm k hk]
  apply BitVec.eq_of_toNat_eq
  rw [BitVec.shiftLeft_eq', BitVec.toNat_shiftLeft, BitVec.toNat_ofNat, BitVec.toNat_ofNat, BitVec.toNat_ofNat, Nat.mod_eq_of_lt (show k < 2 ^ 64 by omega), Nat.shiftLeft_eq, Nat.mul_mod, Nat.mod_mod, ← Nat.mul_mod]
theorem wb_and {a b : Nat} (ha : a < 2 ^ 64) (hb : b < 2 ^ 64) : lN a &&& lN b = lN (a &&& b) := by
  apply wb_inj
  rw [Int64.toBitVec_and, wb_tb, wb_tb, wb_tb]
  apply BitVec.eq_of_toNat_eq
  rw [BitVec.toNat_and, BitVec.toNat_ofNat, BitVec.toNat_ofNat, BitVec.toNat_ofNat, Nat.mod_eq_of_lt ha, Nat.mod_eq_of_lt hb, Nat.mod_eq_of_lt (Nat.and_lt_two_pow _ hb)]
theorem wb_or {a b : Nat} (ha : a < 2 ^ 64) (hb : b < 2 ^ 64) : lN a ||| lN b = lN (a ||| b) := by
  apply wb_inj
  rw [Int64.toBitVec_or, wb_tb, wb_tb, wb_tb]
  apply BitVec.eq_of_toNat_eq
  rw [BitVec.toNat_or, BitVec.toNat_ofNat, BitVec.toNat_ofNat, BitVec.toNat_ofNat, Nat.mod_eq_of_lt ha, Nat.mod_eq_of_lt hb, Nat.mod_eq_of_lt (Nat.or_lt_two_pow ha hb)]

/-- a mask, byte by byte -/
def mkB (c : Nat) : Nat → Nat
  | 0 => 0
  | k + 1 => c + 256 * mkB c k
theorem and_split {a c : Nat} (ha : a < 256) (hc : c < 256) (m d : Nat) : (a + 256 * m) &&& (c + 256 * d) = (a &&& c) + 256 * (m &&& d) := by
  refine Nat.eq_of_testBit_eq fun i => ?_
  have hac : a &&& c < 2 ^ 8 := Nat.and_lt_two_pow _ hc
  have e1 := Nat.testBit_two_pow_mul_add m (i := 8) (b := a) ha i
  have e2 := Nat.testBit_two_pow_mul_add d (i := 8) (b := c) hc i
  have e3 := Nat.testBit_two_pow_mul_add (m &&& d) (i := 8) (b := a &&& c) hac i
  rw [show (2 : Nat) ^ 8 = 256 from rfl] at e1 e2 e3
  rw [Nat.testBit_and, Nat.add_comm a, Nat.add_comm c, e1, e2, Nat.add_comm (a &&& c), e3]
  split
  · rw [Nat.testBit_and]
  · rw [Nat.testBit_and]
def z1 (k n : Nat) : Nat := n - (n / 2 &&& mkB 85 k)
def z2 (k n : Nat) : Nat := (n &&& mkB 51 k) + (n / 4 &&& mkB 51 k)
def z3 (k n : Nat) : Nat := (n + n / 16) &&& mkB 15 k
def y1 (a : Nat) : Nat := a - (a / 2 &&& 85)
def y2 (a : Nat) : Nat := (a &&& 51) + (a / 4 &&& 51)
def y3 (a : Nat) : Nat := (a + a / 16) &&& 15
theorem b85 : ∀ a, a < 256 → ∀ t, t < 2 → ((a / 2 + 128 * t) &&& 85) = (a / 2 &&& 85) := by decide +kernel
theorem b51 : ∀ a, a < 256 → ∀ t, t < 4 → ((a / 4 + 64 * t) &&& 51) = (a / 4 &&& 51) := by decide +kernel
theorem b15 : ∀ a, a < 69 → ∀ t, t < 5 → ((a + a / 16 + 16 * t) &&& 15) = y3 a ∧ a + a / 16 + 16 * t < 256 := by decide +kernel
theorem b12 : ∀ a, a < 256 → y1 a < 256 ∧ y2 (y1 a) < 69 ∧ y2 (y1 a) % 16 < 5 := by decide +kernel
theorem z1_s {a : Nat} (ha : a < 256) (k m : Nat) : z1 (k + 1) (a + 256 * m) = y1 a + 256 * z1 k m := by
  unfold z1 y1
  have e : (a + 256 * m) / 2 = (a / 2 + 128 * (m % 2)) + 256 * (m / 2) := by omega
  rw [e, show mkB 85 (k + 1) = 85 + 256 * mkB 85 k from rfl, and_split (by omega) (by omega), b85 a ha (m % 2) (by omega)]
  have h1 : a / 2 &&& 85 ≤ a / 2 := Nat.and_le_left
  have h2 : m / 2 &&& mkB 85 k ≤ m / 2 := Nat.and_le_left
  omega
theorem z2_s {a : Nat} (ha : a < 256) (k m : Nat) : z2 (k + 1) (a + 256 * m) = y2 a + 256 * z2 k m := by
  unfold z2 y2
  have e : (a + 256 * m) / 4 = (a / 4 + 64 * (m % 4)) + 256 * (m / 4) := by omega
  rw [e, show mkB 51 (k + 1) = 51 + 256 * mkB 51 k from rfl, and_split (by omega) (by omega), and_split (by omega) (by omega), b51 a ha (m % 4) (by omega)]
  omega
theorem z3_s {a : Nat} (ha : a < 69) (k m : Nat) (hm : m % 16 < 5) : z3 (k + 1) (a + 256 * m) = y3 a + 256 * z3 k m := by
  unfold z3
  obtain ⟨b1, b2⟩ := b15 a ha (m % 16) hm
  have e : a + 256 * m + (a + 256 * m) / 16 = (a + a / 16 + 16 * (m % 16)) + 256 * (m + m / 16) := by omega
  rw [e, show mkB 15 (k + 1) = 15 + 256 * mkB 15 k from rfl, and_split b2 (by omega), b1]
theorem z12_m (k m : Nat) (h : m < 256 ^ k) : z2 k (z1 k m) % 16 < 5 := by
  cases k with
  | zero =>
    have : m = 0 := by
      rw [Nat.pow_zero] at h
      omega
    subst this
    decide
  | succ k =>
    have e : m = m % 256 + 256 * (m / 256) := by omega
    rw [e, z1_s (by omega), z2_s (b12 _ (by omega)).1]
    have := (b12 (m % 256) (by omega)).2.2
    omega
/-- the three first steps leave in each byte how many bits it had -/
def bB : Nat → Nat → Nat
  | 0, _ => 0
  | k + 1, n => y3 (y2 (y1 (n % 256))) + 256 * bB k (n / 256)
theorem z123 : ∀ k n, n < 256 ^ k → z3 k (z2 k (z1 k n)) = bB k n
  | 0, n, _ => by
    show _ &&& 0 = 0
    exact Nat.and_zero _
  | k + 1, n, h => by
    have hd : n / 256 < 256 ^ k := by
      rw [Nat.pow_succ] at h
      omega
    have e : n = n % 256 + 256 * (n / 256) := by omega
    obtain ⟨c1, c2, c3⟩ := b12 (n % 256) (by omega)
    have ih := z123 k (n / 256) hd
    show z3 (k + 1) (z2 (k + 1) (z1 (k + 1) n)) = y3 (y2 (y1 (n % 256))) + 256 * bB k (n / 256)
    rw [← ih]
    rw [show z1 (k + 1) n = y1 (n % 256) + 256 * z1 k (n / 256) from by
      have := z1_s (show n % 256 < 256 by omega) k (n / 256)
      rw [← e] at this
      exact this, z2_s c1, z3_s c2 k _ (z12_m k (n / 256) hd)]
theorem p8_c : ∀ a, a < 256 → y3 (y2 (y1 a)) = cnt (fun f => a.testBit f = true) 8 := by decide +kernel
theorem cnt_cg {f g : Nat → Prop} [DecidablePred f] [DecidablePred g] : ∀ n, (∀ i, i < n → (f i ↔ g i)) → cnt f n = cnt g n
  | 0, _ => rfl
  | n + 1, h => by
    unfold cnt
    rw [cnt_cg n fun i hi => h i (by omega)]
    by_cases q : f n
    · rw [if_pos q, if_pos ((h n (by omega)).1 q)]
    · rw [if_neg q, if_neg fun q' => q ((h n (by omega)).2 q')]
theorem cnt_add {f : Nat → Prop} [DecidablePred f] (a : Nat) : ∀ b, cnt f (a + b) = cnt f a + cnt (fun i => f (a + i)) b
  | 0 => rfl
  | b + 1 => by
    show cnt f (a + b) + (if f (a + b) then 1 else 0) = cnt f a + (cnt (fun i => f (a + i)) b + (if f (a + b) then 1 else 0))
    rw [cnt_add a b, Nat.add_assoc]
/-- the sum of the bytes of bB -/
def sB : Nat → Nat → Nat
  | 0, _ => 0
  | k + 1, n => y3 (y2 (y1 (n % 256))) + sB k (n / 256)
theorem sB_c : ∀ k n, sB k n = cnt (fun f => n.testBit f = true) (8 * k)
  | 0, _ => rfl
  | k + 1, n => by
    show y3 (y2 (y1 (n % 256))) + sB k (n / 256) = _
    rw [show 8 * (k + 1) = 8 + 8 * k by omega, cnt_add, sB_c k, p8_c _ (by omega)]
    congr 1
    · refine cnt_cg 8 fun i hi => ?_
      rw [show (256 : Nat) = 2 ^ 8 from rfl, Nat.testBit_mod_two_pow]
      simp [hi]
    · refine cnt_cg _ fun i hi => ?_
      rw [show (256 : Nat) = 2 ^ 8 from rfl, Nat.testBit_div_two_pow, Nat.add_comm]
theorem y_le : ∀ a, a < 256 → y3 (y2 (y1 a)) ≤ 8 := by decide +kernel
theorem dv8 (a q : Nat) (h : a < 256) : (a + 256 * q) / 2 ^ 8 = q := by omega
theorem dv16 (a q : Nat) (h : a < 65536) : (a + 65536 * q) / 2 ^ 16 = q := by omega
theorem dv32 (a q : Nat) (h : a < 4294967296) : (a + 4294967296 * q) / 2 ^ 32 = q := by omega
theorem md7 (a q : Nat) (h : a ≤ 64) : (a + 256 * q) % 128 = a := by omega
theorem s8y (c0 c1 c2 r3 : Nat) : (c0 + 256 * (c1 + 256 * (c2 + 256 * r3))) + (c1 + 256 * (c2 + 256 * r3)) = (c0 + c1 + 256 * (c1 + c2)) + 65536 * ((c2 + 256 * r3) + r3) := by omega
theorem s8z (c0 c1 c2 c3 c4 c5 c6 c7 : Nat) : (c0 + c1 + 256 * (c1 + c2)) + 65536 * ((c2 + 256 * (c3 + 256 * (c4 + 256 * (c5 + 256 * (c6 + 256 * c7))))) + (c3 + 256 * (c4 + 256 * (c5 + 256 * (c6 + 256 * c7))))) + ((c2 + 256 * (c3 + 256 * (c4 + 256 * (c5 + 256 * (c6 + 256 * c7))))) + (c3 + 256 * (c4 + 256 * (c5 + 256 * (c6 + 256 * c7))))) = ((c0 + c1 + c2 + c3) + 256 * (c1 + c2 + c3 + c4) + 65536 * (c2 + c3 + c4 + c5) + 16777216 * (c3 + c4 + c5 + c6)) + 4294967296 * ((c4 + 256 * (c5 + 256 * (c6 + 256 * c7))) + (c5 + 256 * (c6 + 256 * c7)) + (c6 + 256 * c7) + c7) := by omega
theorem s8f (c0 c1 c2 c3 c4 c5 c6 c7 : Nat) : ((c0 + c1 + c2 + c3) + 256 * (c1 + c2 + c3 + c4) + 65536 * (c2 + c3 + c4 + c5) + 16777216 * (c3 + c4 + c5 + c6)) + 4294967296 * ((c4 + 256 * (c5 + 256 * (c6 + 256 * c7))) + (c5 + 256 * (c6 + 256 * c7)) + (c6 + 256 * c7) + c7) + ((c4 + 256 * (c5 + 256 * (c6 + 256 * c7))) + (c5 + 256 * (c6 + 256 * c7)) + (c6 + 256 * c7) + c7) = (c0 + (c1 + (c2 + (c3 + (c4 + (c5 + (c6 + c7))))))) + 256 * ((c1 + c2 + c3 + c4) + 256 * (c2 + c3 + c4 + c5) + 65536 * (c3 + c4 + c5 + c6) + 16777216 * ((c4 + 256 * (c5 + 256 * (c6 + 256 * c7))) + (c5 + 256 * (c6 + 256 * c7)) + (c6 + 256 * c7) + c7) + (c5 + 256 * (c6 + 256 * c7)) + (c6 + 256 * c7) + c7) := by omega
theorem s8l (a b : Nat) (m : Nat) (ha : a ≤ 8) (hb : b ≤ m) : a + 256 * b ≤ 8 + 256 * m := Nat.add_le_add ha (Nat.mul_le_mul_left _ hb)
theorem sum8 {c0 c1 c2 c3 c4 c5 c6 c7 : Nat} (h0 : c0 ≤ 8) (h1 : c1 ≤ 8) (h2 : c2 ≤ 8) (h3 : c3 ≤ 8) (h4 : c4 ≤ 8) (h5 : c5 ≤ 8) (h6 : c6 ≤ 8) (h7 : c7 ≤ 8) {x : Nat} (e0 : x = c0 + 256 * (c1 + 256 * (c2 + 256 * (c3 + 256 * (c4 + 256 * (c5 + 256 * (c6 + 256 * c7))))))) : x < 2 ^ 60 ∧ ((x + x / 2 ^ 8) + (x + x / 2 ^ 8) / 2 ^ 16 + ((x + x / 2 ^ 8) + (x + x / 2 ^ 8) / 2 ^ 16) / 2 ^ 32) % 128 = c0 + (c1 + (c2 + (c3 + (c4 + (c5 + (c6 + c7)))))) := by
  have hx : x ≤ 8 + 256 * (8 + 256 * (8 + 256 * (8 + 256 * (8 + 256 * (8 + 256 * (8 + 256 * 8)))))) := by
    rw [e0]
    exact s8l _ _ _ h0 (s8l _ _ _ h1 (s8l _ _ _ h2 (s8l _ _ _ h3 (s8l _ _ _ h4 (s8l _ _ _ h5 (s8l _ _ _ h6 h7))))))
  refine ⟨Nat.lt_of_le_of_lt hx (by decide), ?_⟩
  have d1 : x / 2 ^ 8 = c1 + 256 * (c2 + 256 * (c3 + 256 * (c4 + 256 * (c5 + 256 * (c6 + 256 * c7))))) := by rw [e0]; exact dv8 c0 _ (Nat.lt_of_le_of_lt h0 (by decide))
  have l1 : c0 + c1 + 256 * (c1 + c2) < 65536 := by
    have a1 : c0 + c1 ≤ 16 := Nat.add_le_add h0 h1
    have a2 : c1 + c2 ≤ 16 := Nat.add_le_add h1 h2
    exact Nat.lt_of_le_of_lt (Nat.add_le_add a1 (Nat.mul_le_mul_left 256 a2)) (by decide)
  have l2 : (c0 + c1 + c2 + c3) + 256 * (c1 + c2 + c3 + c4) + 65536 * (c2 + c3 + c4 + c5) + 16777216 * (c3 + c4 + c5 + c6) < 4294967296 := by
    have a1 : c0 + c1 + c2 + c3 ≤ 32 := Nat.add_le_add (Nat.add_le_add (Nat.add_le_add h0 h1) h2) h3
    have a2 : c1 + c2 + c3 + c4 ≤ 32 := Nat.add_le_add (Nat.add_le_add (Nat.add_le_add h1 h2) h3) h4
    have a3 : c2 + c3 + c4 + c5 ≤ 32 := Nat.add_le_add (Nat.add_le_add (Nat.add_le_add h2 h3) h4) h5
    have a4 : c3 + c4 + c5 + c6 ≤ 32 := Nat.add_le_add (Nat.add_le_add (Nat.add_le_add h3 h4) h5) h6
    exact Nat.lt_of_le_of_lt (Nat.add_le_add (Nat.add_le_add (Nat.add_le_add a1 (Nat.mul_le_mul_left 256 a2)) (Nat.mul_le_mul_left 65536 a3)) (Nat.mul_le_mul_left 16777216 a4)) (by decide)
  have l3 : c0 + (c1 + (c2 + (c3 + (c4 + (c5 + (c6 + c7)))))) ≤ 64 := Nat.le_trans (Nat.add_le_add h0 (Nat.add_le_add h1 (Nat.add_le_add h2 (Nat.add_le_add h3 (Nat.add_le_add h4 (Nat.add_le_add h5 (Nat.add_le_add h6 h7))))))) (by decide)
  rw [d1, e0, s8y, dv16 _ _ l1, s8z, dv32 _ _ l2, s8f]
  exact md7 _ _ l3
theorem bB_fin (n : Nat) : ∃ x, x = bB 8 n ∧ x < 2 ^ 60 ∧ ((x + x / 2 ^ 8) + (x + x / 2 ^ 8) / 2 ^ 16 + ((x + x / 2 ^ 8) + (x + x / 2 ^ 8) / 2 ^ 16) / 2 ^ 32) % 128 = sB 8 n ∧ sB 8 n ≤ 64 := by
  have hy := fun m => y_le (m % 256) (Nat.mod_lt _ (by decide))
  have e0 : bB 8 n = y3 (y2 (y1 (n % 256))) + 256 * (y3 (y2 (y1 (n / 256 % 256))) + 256 * (y3 (y2 (y1 (n / 256 / 256 % 256))) + 256 * (y3 (y2 (y1 (n / 256 / 256 / 256 % 256))) + 256 * (y3 (y2 (y1 (n / 256 / 256 / 256 / 256 % 256))) + 256 * (y3 (y2 (y1 (n / 256 / 256 / 256 / 256 / 256 % 256))) + 256 * (y3 (y2 (y1 (n / 256 / 256 / 256 / 256 / 256 / 256 % 256))) + 256 * y3 (y2 (y1 (n / 256 / 256 / 256 / 256 / 256 / 256 / 256 % 256))))))))) := by
    simp only [bB, Nat.mul_zero, Nat.add_zero]
  have es : sB 8 n = y3 (y2 (y1 (n % 256))) + (y3 (y2 (y1 (n / 256 % 256))) + (y3 (y2 (y1 (n / 256 / 256 % 256))) + (y3 (y2 (y1 (n / 256 / 256 / 256 % 256))) + (y3 (y2 (y1 (n / 256 / 256 / 256 / 256 % 256))) + (y3 (y2 (y1 (n / 256 / 256 / 256 / 256 / 256 % 256))) + (y3 (y2 (y1 (n / 256 / 256 / 256 / 256 / 256 / 256 % 256))) + y3 (y2 (y1 (n / 256 / 256 / 256 / 256 / 256 / 256 / 256 % 256))))))))) := by
    simp only [sB, Nat.add_zero]
  have key := sum8 (hy n) (hy (n / 256)) (hy (n / 256 / 256)) (hy (n / 256 / 256 / 256)) (hy (n / 256 / 256 / 256 / 256)) (hy (n / 256 / 256 / 256 / 256 / 256)) (hy (n / 256 / 256 / 256 / 256 / 256 / 256)) (hy (n / 256 / 256 / 256 / 256 / 256 / 256 / 256)) e0
  rw [← es] at key
  refine ⟨_, rfl, key.1, key.2, ?_⟩
  rw [es]
  exact Nat.le_trans (Nat.add_le_add (hy n) (Nat.add_le_add (hy (n / 256)) (Nat.add_le_add (hy (n / 256 / 256)) (Nat.add_le_add (hy (n / 256 / 256 / 256)) (Nat.add_le_add (hy (n / 256 / 256 / 256 / 256)) (Nat.add_le_add (hy (n / 256 / 256 / 256 / 256 / 256)) (Nat.add_le_add (hy (n / 256 / 256 / 256 / 256 / 256 / 256)) (hy (n / 256 / 256 / 256 / 256 / 256 / 256 / 256))))))))) (by decide)
theorem wb_shx {n k : Nat} {x : Int32} (hx : x = nI k) (hn : n < 2 ^ 64) (hk : k < 64) : ((lN n).toUInt64 >>> ((Int32.toInt64 x).toUInt64 &&& Int64.toUInt64 63)).toInt64 = lN (n / 2 ^ k) := by
  subst hx
  exact wb_shr hn hk
theorem mk55 : mkB 85 8 = 6148914691236517205 ∧ mkB 51 8 = 3689348814741910323 ∧ mkB 15 8 = 1085102592571150095 := by decide
theorem z1_le (k n : Nat) : z1 k n ≤ n := Nat.sub_le _ _
/-- Long.bitCount counts the bits -/
theorem bc64_c (x : Int64) : bc64 x = nn (cnt (fun f => x.toBitVec.getLsbD f = true) 64) := by
  obtain ⟨n, hn, rfl⟩ := wb_of x
  have hc : cnt (fun f => (lN n).toBitVec.getLsbD f = true) 64 = cnt (fun f => n.testBit f = true) 64 := cnt_cg 64 fun i hi => by
    rw [wb_tb, BitVec.getLsbD_ofNat]
    simp [hi]
  rw [hc, ← sB_c 8 n]
  obtain ⟨m1, m2, m3⟩ := mk55
  have h1 : n / 2 &&& mkB 85 8 ≤ n := Nat.le_trans Nat.and_le_left (Nat.div_le_self _ _)
  have e7 : bc64_7 (lN n) = lN (z1 8 n) := by
    unfold bc64_7 z1
    rw [wb_shx (k := 1) (x := 1) rfl hn (by decide), show (6148914691236517205 : Int64) = lN 6148914691236517205 from rfl, wb_and (Nat.lt_of_le_of_lt (Nat.div_le_self _ _) hn) (by decide), show n / 2 ^ 1 = n / 2 from rfl, ← m1, lN_sub h1]
  have l1 : z1 8 n < 2 ^ 64 := Nat.lt_of_le_of_lt (z1_le 8 n) hn
  have e17 : bc64_17 (lN (z1 8 n)) = lN (z2 8 (z1 8 n)) := by
    unfold bc64_17 z2
    rw [wb_shx (k := 2) (x := 2) rfl l1 (by decide), show (3689348814741910323 : Int64) = lN 3689348814741910323 from rfl, wb_and l1 (by decide), wb_and (Nat.lt_of_le_of_lt (Nat.div_le_self _ _) l1) (by decide), lN_add, show z1 8 n / 2 ^ 2 = z1 8 n / 4 from rfl, ← m2]
  have l2 : z2 8 (z1 8 n) < 2 ^ 63 := by
    unfold z2
    have a1 : z1 8 n &&& mkB 51 8 ≤ mkB 51 8 := Nat.and_le_right
    have a2 : z1 8 n / 4 &&& mkB 51 8 ≤ mkB 51 8 := Nat.and_le_right
    rw [m2] at *
    omega
  have e25 : bc64_25 (lN (z2 8 (z1 8 n))) = lN (bB 8 n) := by
    unfold bc64_25
    rw [wb_shx (k := 4) (x := 4) rfl (Nat.lt_trans l2 (by decide)) (by decide), lN_add, show (1085102592571150095 : Int64) = lN 1085102592571150095 from rfl, wb_and (by omega) (by decide), show z2 8 (z1 8 n) / 2 ^ 4 = z2 8 (z1 8 n) / 16 from rfl, ← m3]
    have := z123 8 n (show n < 256 ^ 8 from hn)
    unfold z3 at this
    rw [this]
  obtain ⟨x, hx, x1, x2, x3⟩ := bB_fin n
  unfold bc64
  rw [e7, e17, e25, ← hx]
  have e31 : bc64_31 (lN x) = lN (x + x / 2 ^ 8) := by
    unfold bc64_31
    rw [wb_shx (k := 8) (x := 8) rfl (Nat.lt_trans x1 (by decide)) (by decide), lN_add]
  rw [e31]
  obtain ⟨y, hy⟩ : ∃ y, y = x + x / 2 ^ 8 := ⟨_, rfl⟩
  rw [← hy] at x2 ⊢
  have yb : y < 2 ^ 61 := by omega
  have e37 : bc64_37 (lN y) = lN (y + y / 2 ^ 16) := by
    unfold bc64_37
    rw [wb_shx (k := 16) (x := 16) rfl (Nat.lt_trans yb (by decide)) (by decide), lN_add]
  rw [e37]
  obtain ⟨z, hz⟩ : ∃ z, z = y + y / 2 ^ 16 := ⟨_, rfl⟩
  rw [← hz] at x2 ⊢
  have zb : z < 2 ^ 62 := by omega
  have e43 : bc64_43 (lN z) = lN (z + z / 2 ^ 32) := by
    unfold bc64_43
    rw [wb_shx (k := 32) (x := 32) rfl (Nat.lt_trans zb (by decide)) (by decide), lN_add]
  rw [e43]
  unfold bc64_r
  rw [lN_i]
  obtain ⟨u, hu⟩ : ∃ u, u = z + z / 2 ^ 32 := ⟨_, rfl⟩
  rw [← hu] at x2 ⊢
  rw [← x2]
  have er : nI u = nI (u % 2 ^ 32) := by
    refine Int32.toBitVec_inj.1 ?_
    show BitVec.ofNat 32 u = BitVec.ofNat 32 (u % 2 ^ 32)
    refine BitVec.eq_of_toNat_eq ?_
    rw [BitVec.toNat_ofNat, BitVec.toNat_ofNat, Nat.mod_mod]
  rw [er, pk_andN (n := u % 2 ^ 32) (Nat.mod_lt _ (by decide)) (m := 127) 7 rfl]
  congr 1
  omega
/-- a bit of a long, as the class asks for it -/
theorem bit64 {x : Int64} {f : Nat} (hf : f < 64) : ((x >>> (Int32.toInt64 (nn f) &&& 63)) &&& 1 = 1) ↔ x.toBitVec.getLsbD f = true := by
  rw [show Int32.toInt64 (nn f) &&& 63 = lN f from wb_c f hf, ← Int64.toBitVec_inj, Int64.toBitVec_and, Int64.toBitVec_shiftRight, wb_tb, wb_sm f hf, BitVec.sshiftRight_eq', show (1 : Int64).toBitVec = 1#64 from rfl, BitVec.toNat_ofNat, Nat.mod_eq_of_lt (show f < 2 ^ 64 by omega)]
  constructor
  · intro h
    have h0 := congrArg (fun v => BitVec.getLsbD v 0) h
    simp only [BitVec.getLsbD_and, BitVec.getLsbD_sshiftRight] at h0
    rw [show (1#64).getLsbD 0 = true from rfl, Bool.and_true, if_pos (show f + 0 < 64 by omega)] at h0
    simpa using h0
  · intro h
    refine BitVec.eq_of_getLsbD_eq fun i hi => ?_
    rw [BitVec.getLsbD_and, BitVec.getLsbD_sshiftRight]
    rcases Nat.eq_zero_or_pos i with h0 | h0
    · subst h0
      rw [if_pos (show f + 0 < 64 by omega), Nat.add_zero, h]
      rfl
    · have : (1#64).getLsbD i = false := by
        rw [BitVec.getLsbD_one]
        simp
        omega
      rw [this, Bool.and_false]
theorem or64 {x : Int64} {f g : Nat} (hf : f < 64) (hg : g < 64) : (x ||| ((1 : Int64) <<< (Int32.toInt64 (nn f) &&& 63))).toBitVec.getLsbD g = (x.toBitVec.getLsbD g || decide (g = f)) := by
  have e : ((1 : Int64) <<< (Int32.toInt64 (nn f) &&& 63)).toBitVec = BitVec.ofNat 64 (2 ^ f) := by
    have := wb_shl 1 hf
    rw [Nat.one_mul] at this
    rw [show (1 : Int64) = lN 1 from rfl]
    exact congrArg Int64.toBitVec this
  rw [Int64.toBitVec_or, BitVec.getLsbD_or, e, BitVec.getLsbD_ofNat, Nat.testBit_two_pow]
  simp [hg, eq_comm]
