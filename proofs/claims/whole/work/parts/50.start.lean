def R_law : String := "TakerTownLaw"
def lw_P (b : Addr) (xs : List Int32) (args : Array Value) (s : State) : Prop := args = #[.ref b] ∧ s.IntsAt b xs ∧ xs.length ≤ 4608 ∧ (Jvm.Cond.and given_1 narrow_1).before args s = true
def lw_Q (_ : Array Value) (s : State) (o : Outcome) (t : State) : Prop := o = .returned (some (.int 1)) ∧ Framed s o t [] 601024 7293034
def lw_Z (below : List Frame) (a : Array Value) (s : State) : State → Prop := fun t => ∃ o, t.status = .running ∧ Ended t below o ∧ lw_Q a s o t
/-- what holds at the law's entry: the machine, the code, the tables' words (any of lw_tbl by 'hts w (by decide +kernel)'), the script of L ints xs at the cell b, what the Statement gives of the start (any of its parts by flat_of_before) -/
def lw_At (p : Program) (s : State) (m : MethodId) (meth : Method) (c : Code) (b L : Nat) (xs : Nat → Int32) : Prop :=
  p.tables.exec = Jvm.exec ∧ c.code = code ∧ meth.sig.returnType = ret ∧ c.maxLocals = 7 ∧ s.vm.findClass R_law = some m.cls ∧ (∀ w ∈ lw_tbl, w.before #[Value.ref b] s = true) ∧ va_X b L xs s s.heap ∧ b < s.heap.size ∧ meth.locks = false ∧ (Jvm.Cond.and given_1 narrow_1).before #[Value.ref b] s = true
theorem V.deep {g : GW} {M : MI} {d d' : Nat} {α : Type} {rt : α → Option Value} {pc : Nat} {lv : List (Nat × Value)} {st : List Value} {P : Mo α} (h : d ≤ d') (k : V g M d rt pc lv st P) : V g M d' rt pc lv st P := by
  intro n0 k0 p l e R s m args below meth c C
  exact k n0 k0 p l e R s m args below meth c ⟨C.1, C.2.1, C.2.2.1, C.2.2.2.1, ⟨C.2.2.2.2.1.1, C.2.2.2.2.1.2.1, Nat.le_trans h C.2.2.2.2.1.2.2.1, Nat.le_trans (Nat.mul_le_mul_left 64 h) C.2.2.2.2.1.2.2.2⟩, C.2.2.2.2.2⟩
def tmS (i : Nat) : Term := match i with
  | 0 => .string RX2 47
  | 1 => .string RX4 74
  | 2 => .string RX9 61
  | 3 => .string RX11 401
  | _ => .string RX11 408
def NFl : List Cond := flatC (Jvm.Cond.and given_1 narrow_1)
theorem nf1 : ∀ i, i < 5 → Cond.exactly (tmS i) "java/lang/String" ∈ NFl := by decide +kernel
theorem nf2 : ∀ i, i < 5 → Cond.eq (.field (tmS i) "java/lang/String" "coder" "B") (.int 0) ∈ NFl := by decide +kernel
theorem nf3 : ∀ i, i < 5 → Cond.arrayOf (.field (tmS i) "java/lang/String" "value" "[B") .byte ∈ NFl := by decide +kernel
theorem nf4 : ∀ i, i < 5 → Cond.eq (.length (.field (tmS i) "java/lang/String" "value" "[B")) (.int (Int32.ofNat (leL.getD i 0))) ∈ NFl := by decide +kernel
theorem nf5 : ∀ i, i < 5 → ∀ j, j < leL.getD i 0 → Cond.eq (.elem (.field (tmS i) "java/lang/String" "value" "[B") (.int (Int32.ofNat j))) (.int ((byL.getD i []).getD j 0)) ∈ NFl := by decide +kernel
theorem nf6 : ∀ i, i < 5 → ∀ j, j < 5 → i ≠ j → Cond.not (Cond.eq (tmS i) (tmS j)) ∈ NFl ∨ Cond.not (Cond.eq (tmS j) (tmS i)) ∈ NFl := by decide +kernel
theorem nf7 : Cond.eq (.static "java/lang/String" "COMPACT_STRINGS" "Z") (.int 1) ∈ NFl := by decide +kernel
theorem nf8 : Cond.isRef (.static "jdk/internal/util/Preconditions" "SIOOBE_FORMATTER" "Ljava/util/function/BiFunction;") ∈ NFl := by decide +kernel
theorem nf9 : Cond.isRef (.static Bundle.tN "UNASSIGNED_STACK" Bundle.steD) ∈ NFl := by decide +kernel
theorem nf10 : Cond.isRef (.static Bundle.tN "SUPPRESSED_SENTINEL" Bundle.listD) ∈ NFl := by decide +kernel
theorem nf11 : Cond.not (.castable RIAE RNSE) ∈ NFl := by decide +kernel
theorem arrT {s : State} {args : Array Value} {ty : FieldType} (h : (Cond.arrayClass ty).before args s = true) : ∃ cA, ArrOfT s cA ty ∧ s.vm.findClass ("[" ++ ty.toString) = some cA := by
  obtain ⟨cA, kA, comp, f1, f2, f3⟩ := Cond.arrayClass_spec h
  exact ⟨cA, fun N z => ⟨(fun k h => by cases h), kA, f2, comp, f3⟩, f1⟩
/-- what holds at the start, for the pure machine -/
theorem start_Cx {p : Program} {e : Env} {s : State} {m : MethodId} {below : List Frame} {meth : Method} {c : Code} (l : Launch) (hl : l.stackTraces = false) {b L : Nat} {xs : Nat → Int32} (C0 : lw_At p s m meth c b L xs) (hnm : meth.name = "law") (hxt : xtab c = []) :
    ∃ g : GW, gB g = s.heap.size ∧ gH g = s.heap ∧ gS g = (b, L, xs) ∧ Cx g mL_law_ 1000 0 0 p l e room_1 s m #[Value.ref b] below meth c := by
  obtain ⟨hx, hb, hr, hml, hown, hts, hX, hbl, hlocks, hgv⟩ := C0
  have hNF := flat_of_before _ hgv
  have hT : ∀ w ∈ TG, w.before #[Value.ref b] s = true := fun w hw => hts w (List.mem_filter.mp hw).1
  have hA : ∀ a : Nat, a < s.heap.size → ¬ (fun q : Nat => s.heap.size ≤ q) a := fun a ha h => Nat.not_le.mpr ha h
  have hcl : ∀ k : Nat, ∃ z : ClassId × (Nat → Nat), ∀ q : vw_C, PCl[k]? = some q → u_Kn s q.1 q.2.1 q.2.2 z.1 z.2 := by
    intro k
    have hc1 : ∀ q : vw_C, PCl[k]? = some q → ∃ (cC : ClassId) (iS : Nat → Nat), u_Kn s q.1 q.2.1 q.2.2 cC iS := by
      intro q hq
      match k, hq with
      | 0, hq => cases hq; exact u_known (n := 6) hT cw_X0 (hts (.instantiable RX0 6) (List.mem_filter.mp (tg2 11 (by decide +kernel) (by decide +kernel))).1)
      | 1, hq => cases hq; exact u_known (n := 6) hT cw_X1 (hts (.instantiable RX1 6) (List.mem_filter.mp (tg1 172 (by decide +kernel) (by decide +kernel))).1)
      | 2, hq => cases hq; exact u_known (n := 6) hT cw_X2 (hts (.instantiable RX2 6) (List.mem_filter.mp (tg1 74 (by decide +kernel) (by decide +kernel))).1)
      | 3, hq => cases hq; exact u_known (n := 3) hT cw_X3 (hts (.instantiable RX3 3) (List.mem_filter.mp (tg3 21 (by decide +kernel) (by decide +kernel))).1)
      | 4, hq => cases hq; exact u_known (n := 3) hT cw_X4 (hts (.instantiable RX4 3) (List.mem_filter.mp (tg1 115 (by decide +kernel) (by decide +kernel))).1)
      | 5, hq => cases hq; exact u_known (n := 6) hT cw_X5 (hts (.instantiable RX5 6) (List.mem_filter.mp (tg2 44 (by decide +kernel) (by decide +kernel))).1)
      | 6, hq => cases hq; exact u_known (n := 3) hT cw_X6 (hts (.instantiable RX6 3) (List.mem_filter.mp (tg1 205 (by decide +kernel) (by decide +kernel))).1)
      | 7, hq => cases hq; exact u_known (n := 6) hT cw_X7 (hts (.instantiable RX7 6) (List.mem_filter.mp (tg1 224 (by decide +kernel) (by decide +kernel))).1)
      | 8, hq => cases hq; exact u_known (n := 7) hT cw_X8 (hts (.instantiable RX8 7) (List.mem_filter.mp (tg1 36 (by decide +kernel) (by decide +kernel))).1)
      | 9, hq => cases hq; exact u_known (n := 8) hT cw_X9 (hts (.instantiable RX9 8) (List.mem_filter.mp (tg1 139 (by decide +kernel) (by decide +kernel))).1)
      | 10, hq => cases hq; exact u_known (n := 5) hT cw_X10 (hts (.instantiable RX10 5) (List.mem_filter.mp (tg2 38 (by decide +kernel) (by decide +kernel))).1)
      | 11, hq => cases hq; exact u_known (n := 18) hT cw_X11 (hts (.instantiable RX11 18) (List.mem_filter.mp (tg1 28 (by decide +kernel) (by decide +kernel))).1)
      | 12, hq => cases hq; exact u_known (n := 49) hT cw_X12 (hts (.instantiable RX12 49) (List.mem_filter.mp (tg6 106 (by decide +kernel) (by decide +kernel))).1)
      | 13, hq => cases hq; exact u_known (n := 6) hT (fun w hw => by simp [u_ws] at hw) (hts (.instantiable RNSE 6) (List.mem_filter.mp (tg4 229 (by decide +kernel) (by decide +kernel))).1)
      | 14, hq => cases hq; exact u_known (n := 6) hT (fun w hw => by simp [u_ws] at hw) (hts (.instantiable RIAE 6) (List.mem_filter.mp (tg3 71 (by decide +kernel) (by decide +kernel))).1)
      | k + 15, hq => exact absurd hq (by simp [PCl])
    cases hq : PCl[k]? with
    | none => exact ⟨(0, fun _ => 0), fun q h => by cases h⟩
    | some q =>
      obtain ⟨cC, iS, h⟩ := hc1 q hq
      exact ⟨(cC, iS), fun q' h' => by cases h'; exact h⟩
  obtain ⟨fC, hfC⟩ := Classical.axiomOfChoice hcl
  obtain ⟨c0, a0, b0⟩ := arrT (hT _ wa_int)
  obtain ⟨c1, a1, b1⟩ := arrT (hT _ wa_byte)
  obtain ⟨c2, a2, b2⟩ := arrT (hT _ wa_long)
  have hAO : va_AO RX3 s := va_AO.of (hts _ (List.mem_append_right _ (List.mem_append_right _ (List.mem_append_left _ (List.mem_of_getElem? (i := 101) (l := tables_1_2) (by decide +kernel))))))
  have hAG : AOg s := (hts (.arrayOver (.array .int)) (List.mem_append_right _ (List.mem_append_right _ (List.mem_append_right _ (List.mem_append_right _ (List.mem_append_right _ (List.mem_append_right _ (List.mem_append_left _ (List.mem_of_getElem? (i := 112) (l := tables_1_6) (by decide +kernel))))))))) : (Cond.arrayOver (.array .int)).before #[Value.ref b] s = true)
  obtain ⟨comp4, c4, k4, p1, -, p3, p4, p5⟩ := Cond.arrayOver_spec (va_AO.use (A := #[]) hAO)
  obtain ⟨comp3, c3, k3, q1, -, q3, q4, q5⟩ := AOg.spec hAG
  obtain ⟨adK, adV, hS, hev⟩ := vk_Sof (args := #[Value.ref b]) (s := s) (N := 5) (tm := tmS) (len := leL) (byt := byL) (A := fun q => s.heap.size ≤ q) (fun i _ => leL_lt i) (fun i hi => hNF _ (nf1 i hi)) (fun i hi => hNF _ (nf2 i hi)) (fun i hi => hNF _ (nf3 i hi)) (fun i hi => hNF _ (nf4 i hi)) (fun i hi j hj => hNF _ (nf5 i hi j hj)) (fun i j hi hj hn => (nf6 i hi j hj hn).imp (hNF _) (hNF _)) hA
  obtain ⟨g, hg⟩ : ∃ g : GW, g = ((fun k => (fC k).1, fun k => (fC k).2), (fun t => if t = 0 then c0 else if t = 1 then c1 else if t = 2 then c2 else if t = 3 then c3 else c4), s.heap.size, s.heap, (b, L, xs), fun n => if n % 2 = 0 then adK (n / 2) else adV (n / 2)) := ⟨_, rfl⟩
  have hgB : gB g = s.heap.size := by rw [hg]; rfl
  have hgH : gH g = s.heap := by rw [hg]; rfl
  have hgS : gS g = (b, L, xs) := by rw [hg]; rfl
  have hgK : ∀ i, gK g i = adK i := fun i => by
    rw [hg]
    show (if (2 * i) % 2 = 0 then adK (2 * i / 2) else adV (2 * i / 2)) = adK i
    rw [if_pos (by omega), show 2 * i / 2 = i by omega]
  have hgV : ∀ i, gV g i = adV i := fun i => by
    rw [hg]
    show (if (2 * i + 1) % 2 = 0 then adK ((2 * i + 1) / 2) else adV ((2 * i + 1) / 2)) = adV i
    rw [if_neg (by omega), show (2 * i + 1) / 2 = i by omega]
  have hgF : gF g = fun q => s.heap.size ≤ q := by unfold gF; rw [hgB]
  have eK : gK g = adK := funext hgK
  have eV : gV g = adV := funext hgV
  refine ⟨g, hgB, hgH, hgS, ⟨hx, hb, hml, hr, hlocks, hnm, hxt⟩, hown, ⟨?_, ?_⟩, ?_, ⟨rfl, rfl, by decide, by decide⟩, ⟨by rw [hgB]; rfl, fun q _ => by rw [hgH], by rw [hgH, hgB]⟩, hl, ?_, ?_, ⟨?_, ?_⟩, ⟨?_, ?_, ?_, ?_, ?_⟩, ?_, ⟨?_, ?_⟩, hAO, hAG, ?_, ?_⟩
  · intro k q hq
    have := hfC k q hq
    rw [hg]
    exact this
  · intro k q hq
    rw [hg] at hq
    match k, hq with
    | 0, hq => cases hq; exact ⟨a0, b0⟩
    | 1, hq => cases hq; exact ⟨a1, b1⟩
    | 2, hq => cases hq; exact ⟨a2, b2⟩
    | 3, hq => cases hq; exact ⟨fun N z => ⟨(fun k h => by cases h), k3, q3, comp3, q4⟩, q5⟩
    | 4, hq => cases hq; exact ⟨fun N z => ⟨(fun k h => by cases h), k4, p3, comp4, p4⟩, k4, comp4, p3, p4, p1, p5⟩
    | k + 5, hq => exact absurd hq (by simp [tyL])
  · exact fun w hw hgd a' U hW => word_at hW (good_of_word hgd) (hts w hw)
  · rw [hgF, hgH]
    exact vx_Zqof (hts _ (List.mem_append_right _ (List.mem_append_right _ (List.mem_append_right _ (List.mem_append_left _ (List.mem_of_getElem? (i := 97) (l := tables_1_3) (by decide +kernel))))))) (hT _ (tg1 13 (by decide +kernel) (by decide +kernel))) (hNF _ nf9) hA
  · rw [hgF, hgH]
    exact vx_Zqof (hts _ (List.mem_append_right _ (List.mem_append_right _ (List.mem_append_right _ (List.mem_append_left _ (List.mem_of_getElem? (i := 99) (l := tables_1_3) (by decide +kernel))))))) (hT _ (tg1 13 (by decide +kernel) (by decide +kernel))) (hNF _ nf10) hA
  · rw [hgS, hgH]
    exact hX
  · rw [hgS, hgB]
    exact hbl
  · rw [eK]
    exact vk_R.of (A := #[Value.ref b]) (hts _ (List.mem_append_right _ (List.mem_append_right _ (List.mem_append_right _ (List.mem_append_left _ (List.mem_of_getElem? (i := 157) (l := tables_1_3) (by decide +kernel))))))) (hev 0 (by decide))
  · rw [eK]
    exact vk_R.of (A := #[Value.ref b]) (hts _ (List.mem_append_right _ (List.mem_append_right _ (List.mem_append_right _ (List.mem_append_right _ (List.mem_append_left _ (List.mem_of_getElem? (i := 55) (l := tables_1_4) (by decide +kernel)))))))) (hev 1 (by decide))
  · rw [eK]
    exact vk_R.of (A := #[Value.ref b]) (hts _ (List.mem_append_right _ (List.mem_append_right _ (List.mem_append_right _ (List.mem_append_right _ (List.mem_append_left _ (List.mem_of_getElem? (i := 93) (l := tables_1_4) (by decide +kernel)))))))) (hev 2 (by decide))
  · rw [eK]
    exact vk_R.of (A := #[Value.ref b]) (hts _ (List.mem_append_right _ (List.mem_append_right _ (List.mem_append_right _ (List.mem_append_right _ (List.mem_append_left _ (List.mem_of_getElem? (i := 237) (l := tables_1_4) (by decide +kernel)))))))) (hev 3 (by decide))
  · rw [eK]
    exact vk_R.of (A := #[Value.ref b]) (hts _ (List.mem_append_right _ (List.mem_append_right _ (List.mem_append_right _ (List.mem_append_left _ (List.mem_of_getElem? (i := 110) (l := tables_1_3) (by decide +kernel))))))) (hev 4 (by decide))
  · rw [eK, eV, hgF, hgH]
    exact hS
  · rw [hgF, hgH]
    exact va_Zof (hts _ (List.mem_append_right _ (List.mem_append_right _ (List.mem_append_right _ (List.mem_append_left _ (List.mem_of_getElem? (i := 171) (l := tables_1_3) (by decide +kernel))))))) (hT _ (tg1 18 (by decide +kernel) (by decide +kernel))) (va_eqt (hNF _ nf7)) hA
  · rw [hgF, hgH]
    exact va_Zqof (hts _ (List.mem_append_right _ (List.mem_append_right _ (List.mem_append_right _ (List.mem_append_left _ (List.mem_of_getElem? (i := 187) (l := tables_1_3) (by decide +kernel))))))) (hT _ (tg1 20 (by decide +kernel) (by decide +kernel))) (hNF _ nf8) hA
  · intro w hw
    simp only [FAW, List.mem_cons, List.not_mem_nil, or_false] at hw
    rcases hw with rfl | rfl | rfl | rfl | rfl
    · exact hts (.declares (Bundle.initS "java/lang/RuntimeException")) (List.mem_append_right _ (List.mem_append_right _ (List.mem_append_right _ (List.mem_append_left _ (List.mem_of_getElem? (i := 74) (l := tables_1_3) (by decide +kernel))))))
    · exact hts (.declares (Bundle.initS "java/lang/Exception")) (List.mem_append_right _ (List.mem_append_right _ (List.mem_append_right _ (List.mem_append_left _ (List.mem_of_getElem? (i := 76) (l := tables_1_3) (by decide +kernel))))))
    · exact hts (.declares (Bundle.initS Bundle.tN)) (List.mem_append_right _ (List.mem_append_right _ (List.mem_append_right _ (List.mem_append_left _ (List.mem_of_getElem? (i := 78) (l := tables_1_3) (by decide +kernel))))))
    · exact hts (.castable RNSE RNSE) (List.mem_append_right _ (List.mem_append_right _ (List.mem_append_right _ (List.mem_append_right _ (List.mem_append_left _ (List.mem_of_getElem? (i := 230) (l := tables_1_4) (by decide +kernel)))))))
    · exact hts (.castable RIAE RIAE) (List.mem_append_right _ (List.mem_append_right _ (List.mem_append_right _ (List.mem_append_left _ (List.mem_of_getElem? (i := 72) (l := tables_1_3) (by decide +kernel))))))
  · exact va_Nc.of (hNF _ nf11)
/-- the pure claim -/
def PureLaw : Prop := ∀ g : GW, (gS g).2.1 ≤ 4608 → ∃ σ' : PS, f_L_law_ g (0, 0, fun _ => .inr (0, [])) = some (.inl 1, σ')
theorem whole_start {p : Program} {e : Env} {s : State} {m : MethodId} {below : List Frame} {meth : Method} {c : Code} (hpure : PureLaw) (l : Launch) (hl : l.stackTraces = false) {b L : Nat} {xs : Nat → Int32} (hL : L ≤ 4608) (C0 : lw_At p s m meth c b L xs) (hnm : meth.name = "law") (hxt : xtab c = []) : W p l e room_1 s m #[Value.ref b] below meth c s.heap [] 0 0 (lw_Z below #[Value.ref b] s) (entryFrame m ([Value.ref b] : List Value).toArray 7) := by
  obtain ⟨g, hgB, hgH, hgS, C⟩ := start_Cx (below := below) (e := e) l hl C0 hnm hxt
  obtain ⟨σ', hσ⟩ := hpure g (by rw [hgS]; exact hL)
  have hV := h_L_law_ g
  have hV2 : V g mL_law_ 1000 rtI 0 [(0, .ref (gS g).1)] [] (f_L_law_ g) := V.deep (by decide) hV
  rw [lg_entry_eq]
  have hl9 := lv_entry ([Value.ref b]) (n := 7) (Nat.le_of_ble_eq_true rfl)
  have hA0 : At0 g mL_law_ 0 0 [(0, .ref (gS g).1)] (0, 0, fun _ => .inr (0, [])) s.heap [] 0 0 ((lg_sl ([Value.ref b]) ++ List.replicate (7 - (lg_sl ([Value.ref b])).length) Slot.unset).toArray) := by
    refine ⟨⟨by rw [hgB]; rfl, fun i hi => absurd hi (Nat.not_lt_zero i), by rw [hgH, hgB], fun q _ => by rw [hgH], by decide, by decide⟩, fun _ h => (nomatch h), rfl, rfl, ?_⟩
    rw [hgS]
    exact hl9
  refine W.mono ?_ (hV2 0 0 p l e room_1 s m #[Value.ref b] below meth c C _ s.heap [] 0 0 _ (.inl 1) σ' hA0 hσ)
  rintro t ⟨h1, h2, h3, h4, L9, k9, n9, h5, h6, h7, h8⟩
  refine ⟨.returned (some (.int 1)), h1, h2, rfl, ⟨_, rfl⟩, h3, ?_⟩
  have hB := h4.2.2.2.2
  have e1 : k9 ≤ 601024 := by
    have : k9 ≤ CM := by omega
    exact this
  have e2 : n9 ≤ 7293034 := by
    have : n9 ≤ SM := by omega
    exact this
  exact h5.weaken (fun y hy hlt => by
    have := h6 y hy
    rw [hgB] at this
    exact absurd hlt (Nat.not_lt.mpr this)) e1 e2
set_option maxHeartbeats 4000000 in
theorem lw_walk (hpure : PureLaw) (l : Launch) (hl : l.stackTraces = false) (b : Addr) (xs : List Int32) : MetFree l x (headSpec (Jvm.Cond.code x code maxLocals ret :: tables_1) room_1) (lw_P b xs) (fun _ _ _ _ _ => True) lw_Q := by
  refine MetFree.of_bodyS (code := code) (maxLocals := maxLocals) (ret := ret) (by decide) ?_ ?_
  · intro args s m h hn
    obtain ⟨meth, c, h1, h2, h3, h4, h5, h6, -, -⟩ := Cond.code_spec hn (atoms_spec (ws := Jvm.Cond.code x code maxLocals ret :: tables_1) h _ List.mem_cons_self)
    exact ⟨meth, c, h1, h2, h3, h4, h5, h6⟩
  · intro p e s m args below meth c s₁ B hml0 hP _
    obtain ⟨rfl, hx, hbd, hgv⟩ := hP
    obtain ⟨scr, harrAt, hlist, hof, hsmall⟩ := hx
    obtain ⟨hcb, hkn, -, -⟩ := State.arrayAt?_spec harrAt
    have hown : s.vm.findClass R_law = some m.cls := findClass_of_methodNamed B.named
    have hts0 : ∀ c ∈ (Jvm.Cond.code x code maxLocals ret :: tables_1), c.before #[Value.ref b] s = true := atoms_spec (ws := Jvm.Cond.code x code maxLocals ret :: tables_1) B.pre
    have hts : ∀ w ∈ lw_tbl, w.before #[Value.ref b] s = true := k2_hts_sels lw_privs (fun w hw => hts0 w (List.mem_cons_of_mem _ hw)) lw_privs_ok
    have hml : c.maxLocals = 7 := B.maxLocals_eq (hts0 _ List.mem_cons_self)
    have X₀ : Stand p l e room_1 s m #[Value.ref b] below meth c s₁ [] 0 0 := Stand.of_body B
    have hh0 : s₁.heap = s.heap := by rw [B.state]; rfl
    have hsz : scr.slots.size = xs.length := by rw [← Array.length_toList, hlist, List.length_map]
    have hval : ∀ j : Nat, j < xs.length → scr.slots[j]? = some (.int (xs.getD j 0)) := fun j hj => by
      rw [← Array.getElem?_toList, hlist]
      simp [hj]
    have hbl : b < s.heap.size := (Array.getElem?_eq_some_iff.mp hcb).1
    have hX : va_X b xs.length (fun j => xs.getD j 0) s s.heap := ⟨scr, hcb, hof, hkn, hsz, hval⟩
    have K : W p l e room_1 s m #[Value.ref b] below meth c s₁.heap [] 0 0 (lw_Z below #[Value.ref b] s) (entryFrame m ([Value.ref b] : List Value).toArray 7) := by
      rw [hh0]
      exact whole_start hpure l hl hbd ⟨B.exec, B.bytes, B.returns, hml, hown, hts, hX, hbl, B.notSynchronized, hgv⟩ (name_of_methodNamed B.named B.method).1 (by
        have h9 := B.noHandlers (hts0 _ List.mem_cons_self)
        unfold xtab
        have h8 : c.exceptionTable = #[] := by simpa using h9
        rw [h8]
        rfl)
    obtain ⟨t, a1, o, b1, b2, b3⟩ := K s₁ rfl X₀
    exact ⟨t, o, a1, b1, b2, b3⟩
theorem lw_pre_spec {args : Array Value} {s : State} (h : (Jvm.Cond.and given_1 narrow_1).before args s = true) (hr : rest_1_c.before args s = true) : ∃ (b : Addr) (xs : List Int32), lw_P b xs args s := by
  have hs := flat_of_before _ h
  have hq := flat_of_before _ hr
  have hc : (Cond.count 1).before args s = true := hs _ (by decide +kernel)
  have harr : (Cond.arrayOf (.arg 0) .int).before args s = true := hs _ (by decide +kernel)
  have hle : (Cond.le (.length (.arg 0)) (.int 4608)).before args s = true := hs _ (by decide +kernel)
  have hlen : (Cond.isInt (.length (.arg 0))).before args s = true := hq _ (by decide +kernel)
  have hall : (Cond.all (.arg 0) (.isInt (.elem (.arg 0) (.index 0)))).before args s = true := hq _ (by decide +kernel)
  obtain ⟨b, xs, hb, hx⟩ := State.ints_of_pre rfl harr hlen hall
  have hsm : xs.length < 2 ^ 31 := hx.choose_spec.2.2.2
  have hev : (Term.length (.arg 0)).eval args s none [] s = some (.int xs.length.toInt32) := hx.length_eval hb
  have hv := Cond.le_ints hev (show (Term.int 4608).eval args s none [] s = some (.int 4608) from rfl)
  have hd : xs.length.toInt32 ≤ 4608 := by
    simpa [Cond.before, Cond.holds, hv] using hle
  have hN : xs.length ≤ 4608 := (Int32.ofNat_le_ofNat hsm (by decide)).mp (show Int32.ofNat xs.length ≤ Int32.ofNat 4608 from hd)
  exact ⟨b, xs, Cond.one_arg hc (show args[0]? = some (.ref b) from hb), hx, hN, h⟩
theorem lw_comes (hpure : PureLaw) (l : Launch) (hl : l.stackTraces = false) : Comes l x (Jvm.Cond.code x code maxLocals ret :: tables_1) room_1 (fun tb e args s => Calls_1 tb e args s ∧ rest_1 tb e args s ∧ Pre_1 tb e args s)
    (fun _ _ args s o t => lw_Q args s o t) := by
  intro p e ha hc hk s m args below hf hfit hheap happ hpre
  obtain ⟨b, xs, hP⟩ := lw_pre_spec hpre.2.2 hpre.2.1
  obtain ⟨k, o, h1, h2, h3, hQ⟩ := lw_walk hpure l hl b xs p e ha hc hk s m args below hf ((Spec.applies_iff_loose hf).mp happ).1 hP trivial
  exact ⟨k, o, h1, h2, h3, hQ⟩
theorem lw_frame {s t : State} {o : Outcome} {args : Array Value} (h : Framed s o t [] 601024 7293034) :
    Framed s o t (fieldLocs frame_1_writes args s ++ arrayLocs frame_1_arrays args s ++ staticLocs frame_1_statics s) 601024 7293034 := h
theorem lw_limb (hpure : PureLaw) (L : Cond) (hL : ∀ (args : Array Value) (s t : State), L.after args s (.returned (some (.int 1))) t = true) :
    ArmFor flags0 classFile x code maxLocals ret World_1 tables_1 room_1 Calls_1 rest_1 Pre_1
      (fun tb e a s o t => postC L tb e a s o t ∧ Framed s o t (fieldLocs frame_1_writes a s ++ arrayLocs frame_1_arrays a s ++ staticLocs frame_1_statics s) 601024 7293034) := by
  intro l hfl _ _ p e ha hc hk s m args below hf hfit hheap happ hpre
  obtain ⟨k, o, h1, h2, h3, rfl, hF⟩ := lw_comes hpure l (by unfold Launch.stackTraces; rw [hfl]; decide) p e ha hc hk s m args below hf hfit hheap happ hpre
  exact ⟨k, _, h1, h2, h3, hL args s _, lw_frame hF⟩
theorem vc_open (hpure : PureLaw) : Claimed_1_1 ∧ Claimed_1_2 := ⟨lw_limb hpure limb_1_1 (fun args s t => by simp [limb_1_1, Cond.after, Cond.holds, Cond.value]), lw_limb hpure limb_1_2 (fun args s t => Cond.after_iff.mpr (by
  first | (rw [show limb_1_2 = Cond.eq .result (.int 1) from rfl, Cond.eq_ints (x := 1) (y := 1) rfl rfl]; simp; done) | (simp [limb_1_2, Cond.value, Term.eval]; done)))⟩

