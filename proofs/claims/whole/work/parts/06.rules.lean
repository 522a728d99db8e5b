section VR
variable {g : GW} {M : MI} {d : Nat} {α : Type} {rt : α → Option Value} {pc pc' : Nat} {lv : List (Nat × Value)} {st : List Value} {P : Mo α}
theorem v_iconst {n : Int} {v : Int32} (hd : decode M.2.1 pc = .ok (.iconst n, 1)) (hv : Int32.ofInt n = v) (hp : pc + 1 = pc') (k : V g M d rt pc' lv (.int v :: st) P) : V g M d rt pc lv st P := by
  subst hp
  exact V.step (fun _ _ _ _ _ _ _ _ _ _ _ _ _ _ _ _ hx hb hl k => lv_iconst hx hb hd hv k) k
theorem v_bipush {n : Int} {v : Int32} (hd : decode M.2.1 pc = .ok (.bipush n, 2)) (hv : (Int8.ofInt n).toInt32 = v) (hp : pc + 2 = pc') (k : V g M d rt pc' lv (.int v :: st) P) : V g M d rt pc lv st P := by
  subst hp
  exact V.step (fun _ _ _ _ _ _ _ _ _ _ _ _ _ _ _ _ hx hb hl k => lv_bipush hx hb hd hv k) k
theorem v_sipush {n : Int} {v : Int32} (hd : decode M.2.1 pc = .ok (.sipush n, 3)) (hv : (Int16.ofInt n).toInt32 = v) (hp : pc + 3 = pc') (k : V g M d rt pc' lv (.int v :: st) P) : V g M d rt pc lv st P := by
  subst hp
  exact V.step (fun _ _ _ _ _ _ _ _ _ _ _ _ _ _ _ _ hx hb hl k => lv_sipush hx hb hd hv k) k
theorem v_lconst {n : Fin 2} {v : Int64} (hd : decode M.2.1 pc = .ok (.lconst n, 1)) (hv : Int64.ofNat (n : Nat) = v) (hp : pc + 1 = pc') (k : V g M d rt pc' lv (.long v :: st) P) : V g M d rt pc lv st P := by
  subst hp
  exact V.step (fun _ _ _ _ _ _ _ _ _ _ _ _ _ _ _ _ hx hb hl k => lv_lconst hx hb hd hv k) k
theorem v_iload_n {n : Fin 4} {i : Nat} {x : Int32} (j : Nat) (hd : decode M.2.1 pc = .ok (.iload_n n, 1)) (hi : (n : Nat) = i) (hj : lv[j]? = some (i, .int x)) (hp : pc + 1 = pc') (k : V g M d rt pc' lv (.int x :: st) P) : V g M d rt pc lv st P := by
  subst hp
  exact V.step (fun _ _ _ _ _ _ _ _ _ _ _ _ _ _ _ _ hx hb hl k => lv_iload_n hx hb hd hi (lv_at hl j hj) k) k
theorem v_iload {i : Nat} {x : Int32} (j : Nat) (hd : decode M.2.1 pc = .ok (.iload i, 2)) (hj : lv[j]? = some (i, .int x)) (hp : pc + 2 = pc') (k : V g M d rt pc' lv (.int x :: st) P) : V g M d rt pc lv st P := by
  subst hp
  exact V.step (fun _ _ _ _ _ _ _ _ _ _ _ _ _ _ _ _ hx hb hl k => lv_iload hx hb hd (lv_at hl j hj) k) k
theorem v_aload_n {n : Fin 4} {i a : Nat} (j : Nat) (hd : decode M.2.1 pc = .ok (.aload_n n, 1)) (hi : (n : Nat) = i) (hj : lv[j]? = some (i, rf g a)) (hp : pc + 1 = pc') (k : V g M d rt pc' lv (rf g a :: st) P) : V g M d rt pc lv st P := by
  subst hp
  exact V.step (fun _ _ _ _ _ _ _ _ _ _ _ _ _ _ _ _ hx hb hl k => lv_aload_n hx hb hd hi (lv_at hl j hj) k) k
theorem v_aload {i a : Nat} (j : Nat) (hd : decode M.2.1 pc = .ok (.aload i, 2)) (hj : lv[j]? = some (i, rf g a)) (hp : pc + 2 = pc') (k : V g M d rt pc' lv (rf g a :: st) P) : V g M d rt pc lv st P := by
  subst hp
  exact V.step (fun _ _ _ _ _ _ _ _ _ _ _ _ _ _ _ _ hx hb hl k => lv_aload hx hb hd (lv_at hl j hj) k) k
theorem v_aload_nX {n : Fin 4} {i a : Nat} (j : Nat) (hd : decode M.2.1 pc = .ok (.aload_n n, 1)) (hi : (n : Nat) = i) (hj : lv[j]? = some (i, .ref a)) (hp : pc + 1 = pc') (k : V g M d rt pc' lv (.ref a :: st) P) : V g M d rt pc lv st P := by
  subst hp
  exact V.step (fun _ _ _ _ _ _ _ _ _ _ _ _ _ _ _ _ hx hb hl k => lv_aload_n hx hb hd hi (lv_at hl j hj) k) k
theorem v_aloadX {i a : Nat} (j : Nat) (hd : decode M.2.1 pc = .ok (.aload i, 2)) (hj : lv[j]? = some (i, .ref a)) (hp : pc + 2 = pc') (k : V g M d rt pc' lv (.ref a :: st) P) : V g M d rt pc lv st P := by
  subst hp
  exact V.step (fun _ _ _ _ _ _ _ _ _ _ _ _ _ _ _ _ hx hb hl k => lv_aload hx hb hd (lv_at hl j hj) k) k
theorem v_lload_n {n : Fin 4} {i : Nat} {x : Int64} (j : Nat) (hd : decode M.2.1 pc = .ok (.lload_n n, 1)) (hi : (n : Nat) = i) (hj : lv[j]? = some (i, .long x)) (hp : pc + 1 = pc') (k : V g M d rt pc' lv (.long x :: st) P) : V g M d rt pc lv st P := by
  subst hp
  exact V.step (fun _ _ _ _ _ _ _ _ _ _ _ _ _ _ _ _ hx hb hl k => lv_lload_n hx hb hd hi (lv_at hl j hj) k) k
theorem v_aload_nN {n : Fin 4} {i : Nat} {o : Option Nat} (j : Nat) (hd : decode M.2.1 pc = .ok (.aload_n n, 1)) (hi : (n : Nat) = i) (hj : lv[j]? = some (i, rn g o)) (hp : pc + 1 = pc') (k : V g M d rt pc' lv (rn g o :: st) P) : V g M d rt pc lv st P := by
  subst hp
  cases o with
  | none => exact V.step (fun _ _ _ _ _ _ _ _ _ _ _ _ _ _ _ _ hx hb hl k => lv_aload_nN hx hb hd hi (lv_at hl j hj) k) k
  | some a => exact V.step (fun _ _ _ _ _ _ _ _ _ _ _ _ _ _ _ _ hx hb hl k => lv_aload_n hx hb hd hi (lv_at hl j hj) k) k
theorem v_aloadN {i : Nat} {o : Option Nat} (j : Nat) (hd : decode M.2.1 pc = .ok (.aload i, 2)) (hj : lv[j]? = some (i, rn g o)) (hp : pc + 2 = pc') (k : V g M d rt pc' lv (rn g o :: st) P) : V g M d rt pc lv st P := by
  subst hp
  cases o with
  | none => exact V.step (fun _ _ _ _ _ _ _ _ _ _ _ _ _ _ _ _ hx hb hl k => lv_aloadN hx hb hd (lv_at hl j hj) k) k
  | some a => exact V.step (fun _ _ _ _ _ _ _ _ _ _ _ _ _ _ _ _ hx hb hl k => lv_aload hx hb hd (lv_at hl j hj) k) k
theorem v_iadd {x y : Int32} (hd : decode M.2.1 pc = .ok (.iadd, 1))  (hp : pc + 1 = pc') (k : V g M d rt pc' lv (.int (x + y) :: st) P) : V g M d rt pc lv (.int y :: .int x :: st) P := by
  subst hp
  exact V.step (fun _ _ _ _ _ _ _ _ _ _ _ _ _ _ _ _ hx hb hl k => lv_iadd hx hb hd k) k
theorem v_isub {x y : Int32} (hd : decode M.2.1 pc = .ok (.isub, 1))  (hp : pc + 1 = pc') (k : V g M d rt pc' lv (.int (x - y) :: st) P) : V g M d rt pc lv (.int y :: .int x :: st) P := by
  subst hp
  exact V.step (fun _ _ _ _ _ _ _ _ _ _ _ _ _ _ _ _ hx hb hl k => lv_isub hx hb hd k) k
theorem v_imul {x y : Int32} (hd : decode M.2.1 pc = .ok (.imul, 1))  (hp : pc + 1 = pc') (k : V g M d rt pc' lv (.int (x * y) :: st) P) : V g M d rt pc lv (.int y :: .int x :: st) P := by
  subst hp
  exact V.step (fun _ _ _ _ _ _ _ _ _ _ _ _ _ _ _ _ hx hb hl k => lv_imul hx hb hd k) k
theorem v_iand {x y : Int32} (hd : decode M.2.1 pc = .ok (.iand, 1))  (hp : pc + 1 = pc') (k : V g M d rt pc' lv (.int (x &&& y) :: st) P) : V g M d rt pc lv (.int y :: .int x :: st) P := by
  subst hp
  exact V.step (fun _ _ _ _ _ _ _ _ _ _ _ _ _ _ _ _ hx hb hl k => lv_iand hx hb hd k) k
theorem v_ior {x y : Int32} (hd : decode M.2.1 pc = .ok (.ior, 1))  (hp : pc + 1 = pc') (k : V g M d rt pc' lv (.int (x ||| y) :: st) P) : V g M d rt pc lv (.int y :: .int x :: st) P := by
  subst hp
  exact V.step (fun _ _ _ _ _ _ _ _ _ _ _ _ _ _ _ _ hx hb hl k => lv_ior hx hb hd k) k
theorem v_ixor {x y : Int32} (hd : decode M.2.1 pc = .ok (.ixor, 1))  (hp : pc + 1 = pc') (k : V g M d rt pc' lv (.int (x ^^^ y) :: st) P) : V g M d rt pc lv (.int y :: .int x :: st) P := by
  subst hp
  exact V.step (fun _ _ _ _ _ _ _ _ _ _ _ _ _ _ _ _ hx hb hl k => lv_ixor hx hb hd k) k
theorem v_ishl {x y : Int32} (hd : decode M.2.1 pc = .ok (.ishl, 1))  (hp : pc + 1 = pc') (k : V g M d rt pc' lv (.int (x <<< (y &&& 31)) :: st) P) : V g M d rt pc lv (.int y :: .int x :: st) P := by
  subst hp
  exact V.step (fun _ _ _ _ _ _ _ _ _ _ _ _ _ _ _ _ hx hb hl k => lv_ishl hx hb hd k) k
theorem v_ishr {x y : Int32} (hd : decode M.2.1 pc = .ok (.ishr, 1))  (hp : pc + 1 = pc') (k : V g M d rt pc' lv (.int (x >>> (y &&& 31)) :: st) P) : V g M d rt pc lv (.int y :: .int x :: st) P := by
  subst hp
  exact V.step (fun _ _ _ _ _ _ _ _ _ _ _ _ _ _ _ _ hx hb hl k => lv_ishr hx hb hd k) k
theorem v_iushr {x y : Int32} (hd : decode M.2.1 pc = .ok (.iushr, 1))  (hp : pc + 1 = pc') (k : V g M d rt pc' lv (.int ((x.toUInt32 >>> (y.toUInt32 &&& Int32.toUInt32 31)).toInt32) :: st) P) : V g M d rt pc lv (.int y :: .int x :: st) P := by
  subst hp
  exact V.step (fun _ _ _ _ _ _ _ _ _ _ _ _ _ _ _ _ hx hb hl k => lv_iushr hx hb hd rfl k) k
theorem v_ineg {x : Int32} (hd : decode M.2.1 pc = .ok (.ineg, 1))  (hp : pc + 1 = pc') (k : V g M d rt pc' lv (.int (-x) :: st) P) : V g M d rt pc lv (.int x :: st) P := by
  subst hp
  exact V.step (fun _ _ _ _ _ _ _ _ _ _ _ _ _ _ _ _ hx hb hl k => lv_ineg hx hb hd k) k
theorem v_ladd {x y : Int64} (hd : decode M.2.1 pc = .ok (.ladd, 1))  (hp : pc + 1 = pc') (k : V g M d rt pc' lv (.long (x + y) :: st) P) : V g M d rt pc lv (.long y :: .long x :: st) P := by
  subst hp
  exact V.step (fun _ _ _ _ _ _ _ _ _ _ _ _ _ _ _ _ hx hb hl k => lv_ladd hx hb hd k) k
theorem v_lsub {x y : Int64} (hd : decode M.2.1 pc = .ok (.lsub, 1))  (hp : pc + 1 = pc') (k : V g M d rt pc' lv (.long (x - y) :: st) P) : V g M d rt pc lv (.long y :: .long x :: st) P := by
  subst hp
  exact V.step (fun _ _ _ _ _ _ _ _ _ _ _ _ _ _ _ _ hx hb hl k => lv_lsub hx hb hd k) k
theorem v_land {x y : Int64} (hd : decode M.2.1 pc = .ok (.land, 1))  (hp : pc + 1 = pc') (k : V g M d rt pc' lv (.long (x &&& y) :: st) P) : V g M d rt pc lv (.long y :: .long x :: st) P := by
  subst hp
  exact V.step (fun _ _ _ _ _ _ _ _ _ _ _ _ _ _ _ _ hx hb hl k => lv_land hx hb hd k) k
theorem v_lor {x y : Int64} (hd : decode M.2.1 pc = .ok (.lor, 1))  (hp : pc + 1 = pc') (k : V g M d rt pc' lv (.long (x ||| y) :: st) P) : V g M d rt pc lv (.long y :: .long x :: st) P := by
  subst hp
  exact V.step (fun _ _ _ _ _ _ _ _ _ _ _ _ _ _ _ _ hx hb hl k => lv_lor hx hb hd k) k
theorem v_lshl {x : Int64} {y : Int32} (hd : decode M.2.1 pc = .ok (.lshl, 1))  (hp : pc + 1 = pc') (k : V g M d rt pc' lv (.long (x <<< (y.toInt64 &&& 63)) :: st) P) : V g M d rt pc lv (.int y :: .long x :: st) P := by
  subst hp
  exact V.step (fun _ _ _ _ _ _ _ _ _ _ _ _ _ _ _ _ hx hb hl k => lv_lshl hx hb hd rfl k) k
theorem v_lshr {x : Int64} {y : Int32} (hd : decode M.2.1 pc = .ok (.lshr, 1))  (hp : pc + 1 = pc') (k : V g M d rt pc' lv (.long (x >>> (y.toInt64 &&& 63)) :: st) P) : V g M d rt pc lv (.int y :: .long x :: st) P := by
  subst hp
  exact V.step (fun _ _ _ _ _ _ _ _ _ _ _ _ _ _ _ _ hx hb hl k => lv_lshr hx hb hd rfl k) k
theorem v_lushr {x : Int64} {y : Int32} (hd : decode M.2.1 pc = .ok (.lushr, 1))  (hp : pc + 1 = pc') (k : V g M d rt pc' lv (.long ((x.toUInt64 >>> (y.toInt64.toUInt64 &&& Int64.toUInt64 63)).toInt64) :: st) P) : V g M d rt pc lv (.int y :: .long x :: st) P := by
  subst hp
  exact V.step (fun _ _ _ _ _ _ _ _ _ _ _ _ _ _ _ _ hx hb hl k => lv_lushr hx hb hd rfl k) k
theorem v_i2l {x : Int32} (hd : decode M.2.1 pc = .ok (.i2l, 1))  (hp : pc + 1 = pc') (k : V g M d rt pc' lv (.long x.toInt64 :: st) P) : V g M d rt pc lv (.int x :: st) P := by
  subst hp
  exact V.step (fun _ _ _ _ _ _ _ _ _ _ _ _ _ _ _ _ hx hb hl k => lv_i2l hx hb hd rfl k) k
theorem v_l2i {x : Int64} (hd : decode M.2.1 pc = .ok (.l2i, 1))  (hp : pc + 1 = pc') (k : V g M d rt pc' lv (.int x.toInt32 :: st) P) : V g M d rt pc lv (.long x :: st) P := by
  subst hp
  exact V.step (fun _ _ _ _ _ _ _ _ _ _ _ _ _ _ _ _ hx hb hl k => lv_l2i hx hb hd rfl k) k
theorem v_i2b {x : Int32} (hd : decode M.2.1 pc = .ok (.i2b, 1))  (hp : pc + 1 = pc') (k : V g M d rt pc' lv (.int x.toInt8.toInt32 :: st) P) : V g M d rt pc lv (.int x :: st) P := by
  subst hp
  exact V.step (fun _ _ _ _ _ _ _ _ _ _ _ _ _ _ _ _ hx hb hl k => lv_i2b hx hb hd rfl k) k
theorem v_i2c {x : Int32} (hd : decode M.2.1 pc = .ok (.i2c, 1))  (hp : pc + 1 = pc') (k : V g M d rt pc' lv (.int (x.toUInt32 % 65536).toInt32 :: st) P) : V g M d rt pc lv (.int x :: st) P := by
  subst hp
  exact V.step (fun _ _ _ _ _ _ _ _ _ _ _ _ _ _ _ _ hx hb hl k => lv_i2c hx hb hd rfl k) k
theorem v_dup {v : Value} (hd : decode M.2.1 pc = .ok (.dup, 1)) (hc : v.category = 1) (hp : pc + 1 = pc') (k : V g M d rt pc' lv (v :: v :: st) P) : V g M d rt pc lv (v :: st) P := by
  subst hp
  exact V.step (fun _ _ _ _ _ _ _ _ _ _ _ _ _ _ _ _ hx hb hl k => lv_dup hx hb hd hc k) k
theorem v_pop {v : Value} (hd : decode M.2.1 pc = .ok (.pop, 1)) (hc : v.category = 1) (hp : pc + 1 = pc') (k : V g M d rt pc' lv st P) : V g M d rt pc lv (v :: st) P := by
  subst hp
  exact V.step (fun _ _ _ _ _ _ _ _ _ _ _ _ _ _ _ _ hx hb hl k => lv_pop hx hb hd hc k) k
theorem v_dup2 {u v : Value} (hd : decode M.2.1 pc = .ok (.dup2, 1)) (hu : u.category = 1) (hv : v.category = 1) (hp : pc + 1 = pc') (k : V g M d rt pc' lv (u :: v :: u :: v :: st) P) : V g M d rt pc lv (u :: v :: st) P := by
  subst hp
  exact V.step (fun _ _ _ _ _ _ _ _ _ _ _ _ _ _ _ _ hx hb hl k => lv_dup2_11 hx hb hd hu hv k) k
theorem v_null  (hd : decode M.2.1 pc = .ok (.aconst_null, 1))  (hp : pc + 1 = pc') (k : V g M d rt pc' lv (rn g none :: st) P) : V g M d rt pc lv st P := by
  subst hp
  exact V.step (fun _ _ _ _ _ _ _ _ _ _ _ _ _ _ _ _ hx hb hl k => lv_null hx hb hd k) k
def lc (x y : Int64) : Int32 := if x < y then -1 else if x = y then 0 else 1
theorem v_istore_n {n : Fin 4} {i : Nat} {x : Int32} {lv' : List (Nat × Value)} (hd : decode M.2.1 pc = .ok (.istore_n n, 1)) (hi : (n : Nat) = i) (hn : i < M.2.2.1) (hl' : (i, Value.int x) :: lv.filter (fun q => !(q.1 == i) && !(q.1 + 1 == i && q.2.category == 2)) = lv') (hp : pc + 1 = pc') (k : V g M d rt pc' lv' st P) : V g M d rt pc lv (Value.int x :: st) P := by
  subst hp
  exact V.stepL (fun _ _ _ _ _ _ _ _ _ _ _ _ _ _ _ _ hx hb hl k => lv_istore_n hx hb hd hi hl hn hl' k) k
theorem v_istore {i : Nat} {x : Int32} {lv' : List (Nat × Value)} (hd : decode M.2.1 pc = .ok (.istore i, 2)) (hn : i < M.2.2.1) (hl' : (i, Value.int x) :: lv.filter (fun q => !(q.1 == i) && !(q.1 + 1 == i && q.2.category == 2)) = lv') (hp : pc + 2 = pc') (k : V g M d rt pc' lv' st P) : V g M d rt pc lv (Value.int x :: st) P := by
  subst hp
  exact V.stepL (fun _ _ _ _ _ _ _ _ _ _ _ _ _ _ _ _ hx hb hl k => lv_istore hx hb hd hl hn hl' k) k
theorem v_astore_n {n : Fin 4} {i a : Nat} {lv' : List (Nat × Value)} (hd : decode M.2.1 pc = .ok (.astore_n n, 1)) (hi : (n : Nat) = i) (hn : i < M.2.2.1) (hl' : (i, rf g a) :: lv.filter (fun q => !(q.1 == i) && !(q.1 + 1 == i && q.2.category == 2)) = lv') (hp : pc + 1 = pc') (k : V g M d rt pc' lv' st P) : V g M d rt pc lv (rf g a :: st) P := by
  subst hp
  exact V.stepL (fun _ _ _ _ _ _ _ _ _ _ _ _ _ _ _ _ hx hb hl k => lv_astore_n hx hb hd hi hl hn hl' k) k
theorem v_astore {i a : Nat} {lv' : List (Nat × Value)} (hd : decode M.2.1 pc = .ok (.astore i, 2)) (hn : i < M.2.2.1) (hl' : (i, rf g a) :: lv.filter (fun q => !(q.1 == i) && !(q.1 + 1 == i && q.2.category == 2)) = lv') (hp : pc + 2 = pc') (k : V g M d rt pc' lv' st P) : V g M d rt pc lv (rf g a :: st) P := by
  subst hp
  exact V.stepL (fun _ _ _ _ _ _ _ _ _ _ _ _ _ _ _ _ hx hb hl k => lv_astore hx hb hd hl hn hl' k) k
theorem v_lstore_n {n : Fin 4} {i : Nat} {x : Int64} {lv' : List (Nat × Value)} (hd : decode M.2.1 pc = .ok (.lstore_n n, 1)) (hi : (n : Nat) = i) (hn : i + 1 < M.2.2.1) (hl' : (i, Value.long x) :: lv.filter (fun q => !(q.1 == i) && (!(q.1 == i + 1) && !(q.1 + 1 == i && q.2.category == 2))) = lv') (hp : pc + 1 = pc') (k : V g M d rt pc' lv' st P) : V g M d rt pc lv (Value.long x :: st) P := by
  subst hp
  exact V.stepL (fun _ _ _ _ _ _ _ _ _ _ _ _ _ _ _ _ hx hb hl k => lv_lstore_n hx hb hd hi hl hn hl' k) k
theorem v_astore_nN {n : Fin 4} {i : Nat} {o : Option Nat} {lv' : List (Nat × Value)} (hd : decode M.2.1 pc = .ok (.astore_n n, 1)) (hi : (n : Nat) = i) (hn : i < M.2.2.1) (hl' : (i, rn g o) :: lv.filter (fun q => !(q.1 == i) && !(q.1 + 1 == i && q.2.category == 2)) = lv') (hp : pc + 1 = pc') (k : V g M d rt pc' lv' st P) : V g M d rt pc lv (rn g o :: st) P := by
  subst hp
  cases o with
  | none => exact V.stepL (fun _ _ _ _ _ _ _ _ _ _ _ _ _ _ _ _ hx hb hl k => lv_astore_nN hx hb hd hi hl hn hl' k) k
  | some a => exact V.stepL (fun _ _ _ _ _ _ _ _ _ _ _ _ _ _ _ _ hx hb hl k => lv_astore_n hx hb hd hi hl hn hl' k) k
theorem v_iinc {i : Nat} {n : Int} {x v : Int32} {lv' : List (Nat × Value)} (j : Nat) (hd : decode M.2.1 pc = .ok (.iinc i n, 3)) (hj : lv[j]? = some (i, .int x)) (hv : x + Int32.ofInt n = v) (hn : i < M.2.2.1) (hl' : (i, Value.int v) :: lv.filter (fun q => !(q.1 == i) && !(q.1 + 1 == i && q.2.category == 2)) = lv') (hp : pc + 3 = pc') (k : V g M d rt pc' lv' st P) : V g M d rt pc lv st P := by
  subst hp
  exact V.stepL (fun _ _ _ _ _ _ _ _ _ _ _ _ _ _ _ _ hx hb hl k => lv_iinc hx hb hd hl hj hv hn hl' k) k
variable {t : Nat} {off : Int} {A B : Mo α}
/-- a row with two ways on -/
theorem V.fork {c : Prop} {dc : Decidable c} {pt pf : Nat} {st0 st' : List Value} (h : ∀ (p : Program) (l : Launch) (e : Env) (R : Room) (s : State) (m : MethodId) (args : Array Value) (below : List Frame) (meth : Method) (co : Code) (H : Heap) (locs : List Loc) (cells slots : Nat) (Q : State → Prop) (ls : Array Slot), p.tables.exec = Jvm.exec → co.code = M.2.1 →
      (c → W p l e R s m args below meth co H locs cells slots Q (F0 m pt ls st')) → (¬ c → W p l e R s m args below meth co H locs cells slots Q (F0 m pf ls st')) → W p l e R s m args below meth co H locs cells slots Q (F0 m pc ls st0))
    (kt : V g M d rt pt lv st' A) (kf : V g M d rt pf lv st' B) : V g M d rt pc lv st0 (@_root_.ite _ c dc A B) := by
  intro n0 k0 p l e R s m args below meth co C σ H locs cells slots ls r σ' A0 hP
  refine h p l e R s m args below meth co H locs cells slots _ ls C.1.1 C.1.2.1 (fun hc => ?_) (fun hc => ?_)
  · rw [if_pos hc] at hP
    exact kt n0 k0 p l e R s m args below meth co C σ H locs cells slots ls r σ' A0 hP
  · rw [if_neg hc] at hP
    exact kf n0 k0 p l e R s m args below meth co C σ H locs cells slots ls r σ' A0 hP
theorem v_ifeq {x : Int32} {dc : Decidable (x = 0)} (hd : decode M.2.1 pc = .ok (.ifCond .eq off, 3)) (ht : (pc : Int) + off = (t : Int)) (hp : pc + 3 = pc') (kt : V g M d rt t lv st A) (kf : V g M d rt pc' lv st B) : V g M d rt pc lv (.int x :: st) (@_root_.ite _ (x = 0) dc A B) := by
  subst hp
  exact V.fork (fun _ _ _ _ _ _ _ _ _ _ _ _ _ _ _ _ hx hb a b => lv_if_eq hx hb hd ht a b) kt kf
theorem v_icmpeq {x y : Int32} {dc : Decidable (x = y)} (hd : decode M.2.1 pc = .ok (.if_icmp .eq off, 3)) (ht : (pc : Int) + off = (t : Int)) (hp : pc + 3 = pc') (kt : V g M d rt t lv st A) (kf : V g M d rt pc' lv st B) : V g M d rt pc lv (.int y :: .int x :: st) (@_root_.ite _ (x = y) dc A B) := by
  subst hp
  exact V.fork (fun _ _ _ _ _ _ _ _ _ _ _ _ _ _ _ _ hx hb a b => lv_icmp_eq hx hb hd ht a b) kt kf
theorem v_ifne {x : Int32} {dc : Decidable (x = 0)} (hd : decode M.2.1 pc = .ok (.ifCond .ne off, 3)) (ht : (pc : Int) + off = (t : Int)) (hp : pc + 3 = pc') (kt : V g M d rt t lv st A) (kf : V g M d rt pc' lv st B) : V g M d rt pc lv (.int x :: st) (@_root_.ite _ (x = 0) dc B A) := by
  subst hp
  exact V.fork (fun _ _ _ _ _ _ _ _ _ _ _ _ _ _ _ _ hx hb a b => lv_if_ne hx hb hd ht b a) kf kt
theorem v_icmpne {x y : Int32} {dc : Decidable (x = y)} (hd : decode M.2.1 pc = .ok (.if_icmp .ne off, 3)) (ht : (pc : Int) + off = (t : Int)) (hp : pc + 3 = pc') (kt : V g M d rt t lv st A) (kf : V g M d rt pc' lv st B) : V g M d rt pc lv (.int y :: .int x :: st) (@_root_.ite _ (x = y) dc B A) := by
  subst hp
  exact V.fork (fun _ _ _ _ _ _ _ _ _ _ _ _ _ _ _ _ hx hb a b => lv_icmp_ne hx hb hd ht b a) kf kt
theorem v_iflt {x : Int32} {dc : Decidable (x < 0)} (hd : decode M.2.1 pc = .ok (.ifCond .lt off, 3)) (ht : (pc : Int) + off = (t : Int)) (hp : pc + 3 = pc') (kt : V g M d rt t lv st A) (kf : V g M d rt pc' lv st B) : V g M d rt pc lv (.int x :: st) (@_root_.ite _ (x < 0) dc A B) := by
  subst hp
  exact V.fork (fun _ _ _ _ _ _ _ _ _ _ _ _ _ _ _ _ hx hb a b => lv_if_lt hx hb hd ht a b) kt kf
theorem v_icmplt {x y : Int32} {dc : Decidable (x < y)} (hd : decode M.2.1 pc = .ok (.if_icmp .lt off, 3)) (ht : (pc : Int) + off = (t : Int)) (hp : pc + 3 = pc') (kt : V g M d rt t lv st A) (kf : V g M d rt pc' lv st B) : V g M d rt pc lv (.int y :: .int x :: st) (@_root_.ite _ (x < y) dc A B) := by
  subst hp
  exact V.fork (fun _ _ _ _ _ _ _ _ _ _ _ _ _ _ _ _ hx hb a b => lv_icmp_lt hx hb hd ht a b) kt kf
theorem v_ifge {x : Int32} {dc : Decidable (0 ≤ x)} (hd : decode M.2.1 pc = .ok (.ifCond .ge off, 3)) (ht : (pc : Int) + off = (t : Int)) (hp : pc + 3 = pc') (kt : V g M d rt t lv st A) (kf : V g M d rt pc' lv st B) : V g M d rt pc lv (.int x :: st) (@_root_.ite _ (0 ≤ x) dc A B) := by
  subst hp
  exact V.fork (fun _ _ _ _ _ _ _ _ _ _ _ _ _ _ _ _ hx hb a b => lv_if_ge hx hb hd ht a b) kt kf
theorem v_icmpge {x y : Int32} {dc : Decidable (y ≤ x)} (hd : decode M.2.1 pc = .ok (.if_icmp .ge off, 3)) (ht : (pc : Int) + off = (t : Int)) (hp : pc + 3 = pc') (kt : V g M d rt t lv st A) (kf : V g M d rt pc' lv st B) : V g M d rt pc lv (.int y :: .int x :: st) (@_root_.ite _ (y ≤ x) dc A B) := by
  subst hp
  exact V.fork (fun _ _ _ _ _ _ _ _ _ _ _ _ _ _ _ _ hx hb a b => lv_icmp_ge hx hb hd ht a b) kt kf
theorem v_ifgt {x : Int32} {dc : Decidable (0 < x)} (hd : decode M.2.1 pc = .ok (.ifCond .gt off, 3)) (ht : (pc : Int) + off = (t : Int)) (hp : pc + 3 = pc') (kt : V g M d rt t lv st A) (kf : V g M d rt pc' lv st B) : V g M d rt pc lv (.int x :: st) (@_root_.ite _ (0 < x) dc A B) := by
  subst hp
  exact V.fork (fun _ _ _ _ _ _ _ _ _ _ _ _ _ _ _ _ hx hb a b => lv_if_gt hx hb hd ht a b) kt kf
theorem v_icmpgt {x y : Int32} {dc : Decidable (y < x)} (hd : decode M.2.1 pc = .ok (.if_icmp .gt off, 3)) (ht : (pc : Int) + off = (t : Int)) (hp : pc + 3 = pc') (kt : V g M d rt t lv st A) (kf : V g M d rt pc' lv st B) : V g M d rt pc lv (.int y :: .int x :: st) (@_root_.ite _ (y < x) dc A B) := by
  subst hp
  exact V.fork (fun _ _ _ _ _ _ _ _ _ _ _ _ _ _ _ _ hx hb a b => lv_icmp_gt hx hb hd ht a b) kt kf
theorem v_ifle {x : Int32} {dc : Decidable (x ≤ 0)} (hd : decode M.2.1 pc = .ok (.ifCond .le off, 3)) (ht : (pc : Int) + off = (t : Int)) (hp : pc + 3 = pc') (kt : V g M d rt t lv st A) (kf : V g M d rt pc' lv st B) : V g M d rt pc lv (.int x :: st) (@_root_.ite _ (x ≤ 0) dc A B) := by
  subst hp
  exact V.fork (fun _ _ _ _ _ _ _ _ _ _ _ _ _ _ _ _ hx hb a b => lv_if_le hx hb hd ht a b) kt kf
theorem v_icmple {x y : Int32} {dc : Decidable (x ≤ y)} (hd : decode M.2.1 pc = .ok (.if_icmp .le off, 3)) (ht : (pc : Int) + off = (t : Int)) (hp : pc + 3 = pc') (kt : V g M d rt t lv st A) (kf : V g M d rt pc' lv st B) : V g M d rt pc lv (.int y :: .int x :: st) (@_root_.ite _ (x ≤ y) dc A B) := by
  subst hp
  exact V.fork (fun _ _ _ _ _ _ _ _ _ _ _ _ _ _ _ _ hx hb a b => lv_icmp_le hx hb hd ht a b) kt kf
theorem v_goto (hd : decode M.2.1 pc = .ok (.goto off, 3)) (ht : (pc : Int) + off = (t : Int)) (k : V g M d rt t lv st P) : V g M d rt pc lv st P :=
  V.step (fun _ _ _ _ _ _ _ _ _ _ _ _ _ _ _ _ hx hb _ k => lv_goto hx hb hd ht k) k
theorem v_ifnonnull {o : Option Nat} (hd : decode M.2.1 pc = .ok (.ifnonnull off, 3)) (ht : (pc : Int) + off = (t : Int)) (hp : pc + 3 = pc') {A : Nat → Mo α} (kt : ∀ a, o = some a → V g M d rt t lv st (A a)) (kf : o = none → V g M d rt pc' lv st B) : V g M d rt pc lv (rn g o :: st) (match o with
    | some a => A a
    | none => B) := by
  subst hp
  cases o with
  | none => exact V.step (fun _ _ _ _ _ _ _ _ _ _ _ _ _ _ _ _ hx hb _ k => lv_ifnonnullN hx hb hd k) (kf rfl)
  | some a => exact V.step (fun _ _ _ _ _ _ _ _ _ _ _ _ _ _ _ _ hx hb _ k => lv_ifnonnull hx hb hd ht k) (kt a rfl)
/-- a row that asks nothing of the rest, the program fails or goes on -/
theorem v_idiv {x y : Int32} {K : Int32 → Mo α} (hd : decode M.2.1 pc = .ok (.idiv, 1)) (hp : pc + 1 = pc') (k : ∀ v, V g M d rt pc' lv (.int v :: st) (K v)) : V g M d rt pc lv (.int y :: .int x :: st) (bd (dv x y) K) := by
  subst hp
  unfold dv
  by_cases h : y = 0
  · rw [if_pos h]
    exact V.vain
  · rw [if_neg h]
    exact V.step (fun _ _ _ _ _ _ _ _ _ _ _ _ _ _ _ _ hx hb _ k => lv_idiv hx hb hd h k) (k _)
theorem v_irem {x y : Int32} {K : Int32 → Mo α} (hd : decode M.2.1 pc = .ok (.irem, 1)) (hp : pc + 1 = pc') (k : ∀ v, V g M d rt pc' lv (.int v :: st) (K v)) : V g M d rt pc lv (.int y :: .int x :: st) (bd (rm_ x y) K) := by
  subst hp
  unfold rm_
  by_cases h : y = 0
  · rw [if_pos h]
    exact V.vain
  · rw [if_neg h]
    exact V.step (fun _ _ _ _ _ _ _ _ _ _ _ _ _ _ _ _ hx hb _ k => lv_irem hx hb hd h k) (k _)
def oR (o : Option Nat) : Mo Nat := match o with
  | some a => pu a
  | none => fl
theorem v_asR {o : Option Nat} {K : Nat → Mo α} (kk : ∀ a, o = some a → V g M d rt pc lv st (K a)) : V g M d rt pc lv st (bd (oR o) K) := by
  cases o with
  | none => exact V.vain
  | some a => exact kk a rfl
theorem v_look01 {x : Int32} {dflt o0 o1 : Int} {len t0 t1 td : Nat} {A B D : Mo α} {dc0 : Decidable (x = 0)} {dc1 : Decidable (x = 1)} (hd : decode M.2.1 pc = .ok (.lookupswitch dflt #[(0, o0), (1, o1)], len)) (h0 : (pc : Int) + o0 = (t0 : Int)) (h1 : (pc : Int) + o1 = (t1 : Int)) (h2 : (pc : Int) + dflt = (td : Int)) (kA : V g M d rt t0 lv st A) (kB : V g M d rt t1 lv st B) (kD : V g M d rt td lv st D) : V g M d rt pc lv (.int x :: st) (@_root_.ite _ (x = 0) dc0 A (@_root_.ite _ (x = 1) dc1 B D)) := by
  by_cases c0 : x = 0
  · rw [if_pos c0]
    subst c0
    exact V.step (fun _ _ _ _ _ _ _ _ _ _ _ _ _ _ _ _ hx hb _ k => lv_lookup hx hb hd rfl rfl h0 k) kA
  · rw [if_neg c0]
    by_cases c1 : x = 1
    · rw [if_pos c1]
      subst c1
      exact V.step (fun _ _ _ _ _ _ _ _ _ _ _ _ _ _ _ _ hx hb _ k => lv_lookup hx hb hd rfl rfl h1 k) kB
    · rw [if_neg c1]
      have e0 : ¬ x.toInt = 0 := fun h => c0 (Int32.toInt_inj.mp h)
      have e1 : ¬ x.toInt = 1 := fun h => c1 (Int32.toInt_inj.mp h)
      exact V.step (fun _ _ _ _ _ _ _ _ _ _ _ _ _ _ _ _ hx hb _ k => lv_lookup hx hb hd rfl (by simp [Op.lookupswitch.offset, e0, e1, Ne.symm e0, Ne.symm e1]) h2 k) kD
end VR
