/-! PURE PART: a state is kept (new Kept), rows are put away and back -/
section KEPT
variable {w w' : Wd} {I I' : Is} {J J' : Js} {D : Dt} {k : Nat}
def nwO (w : Wd) (s : Shp) (N : Nat) : Wd := (w.1 + 1, w.2.1 + N, up1 w.2.2.1 w.1 s, up1 w.2.2.2 w.1 (fun _ => none))
def nwA (w : Wd) (m : Nat) : Wd := (w.1 + 1, w.2.1 + m, up1 w.2.2.1 w.1 (.inl (0, m, 0)), w.2.2.2)
theorem nO_st {c N : Nat} {ks : List Nat} {fs : List Value} (hf : fs = ks.mapIdx (fun k kd => fV (fun _ => 0) (fun _ => 0) (fun _ => none) k kd)) (h1 : w.1 + 1 ≤ CM) (h2 : w.2.1 + N ≤ SM) : nO c N fs (st w I J) = some (.inl w.1, st (nwO w (.inr (c, ks)) N) (up1 I w.1 (fun _ => 0)) (up1 J w.1 (fun _ => 0))) :=
  m_nO (n := w.1) (q := w.2.1) (sh := w.2.2.1) (I := I) (J := J) (R := w.2.2.2) hf ⟨h1, h2⟩
theorem nA_st {m : Nat} {x : Int32} (hx : x = nn m) (hm : m ≤ 10000) (h1 : w.1 + 1 ≤ CM) (h2 : w.2.1 + m ≤ SM) : nA 0 x (st w I J) = some (.inl w.1, st (nwA w m) (up1 I w.1 (fun _ => 0)) J) := by
  subst hx
  have e : (nn m).toNatClampNeg = m := nn_cl (by omega)
  have q := m_nA (n := w.1) (q := w.2.1) (sh := w.2.2.1) (I := I) (J := J) (R := w.2.2.2) (t := 0) (k := nn m) ⟨nn_nneg (by omega), by rw [e]; exact hm, h1, by rw [e]; exact h2⟩
  rw [e] at q
  exact q
theorem pr_st {a c j x : Nat} {ks : List Nat} (ha : a < w.1) (hs : w.2.2.1 a = .inr (c, ks)) (hk : ks[j]? = some 2) : pf c j a (.ref x) (st w I J) = some (.inl (), st (sR w a j (some x)) I J) := pR_st (v := some x) ha hs hk
theorem ni_st {α : Type} {F : Mo α} {σ σ' : PS} {x : α} (h : F σ = some (.inl x, σ')) : ni F σ = some (.inl x, σ') := by
  unfold ni
  rw [h]
/-- a new Kept over the state that is -/
theorem c_kept (S : Sw w) (hr : Rm w) {A : At} (HA : StR I 43 A) (h40 : hg A ≤ 40) {q : Option Nat} {H : List At} (HH : HiC w I q H) (hH : H.length < 2147483640) : ∃ w0 w1 I0 J0 I1 J1, nO 3 3 [.null, .null, .int 0] (st w I J) = some (.inl w.1, st w0 I0 J0) ∧ Sw w0 ∧ w0.2.2.2 0 = w.2.2.2 0 ∧ ni (f_X3_init w.1 43 q) (st w0 I0 J0) = some (.inl (), st w1 I1 J1) ∧ Sw w1 ∧ Ext w w1 ∧ w1.1 = w.1 + 6 ∧ w1.2.1 = w.2.1 + 73 ∧ (∀ a, a < w.1 → w1.2.2.2 a = w.2.2.2 a) ∧ (∀ a, a < w.1 → I1 a = I a) ∧ (∀ a, a < w.1 → J1 a = J a) ∧ HiC w1 I1 (some w.1) (A :: H) := by
  have r1 := hr.1
  have r2 := hr.2
  have s1 := S.1
  obtain ⟨n, hn⟩ : ∃ n, n = w.1 := ⟨_, rfl⟩
  -- the object itself
  obtain ⟨w0, ew0⟩ : ∃ w0, w0 = nwO w (.inr (3, [2, 2, 0])) 3 := ⟨_, rfl⟩
  obtain ⟨wa, ewa⟩ : ∃ wa, wa = nwO w0 (.inr (5, [2, 2, 2, 2, 0, 0])) 6 := ⟨_, rfl⟩
  obtain ⟨wb, ewb⟩ : ∃ wb, wb = sR (nwA wa 8) (n + 1) 0 (some (n + 2)) := ⟨_, rfl⟩
  obtain ⟨wc, ewc⟩ : ∃ wc, wc = sR (nwA wb 8) (n + 1) 1 (some (n + 3)) := ⟨_, rfl⟩
  obtain ⟨wd, ewd⟩ : ∃ wd, wd = sR (nwA wc 8) (n + 1) 2 (some (n + 4)) := ⟨_, rfl⟩
  obtain ⟨we, ewe⟩ : ∃ we, we = sR (nwA wd 40) (n + 1) 3 (some (n + 5)) := ⟨_, rfl⟩
  obtain ⟨wf, ewf⟩ : ∃ wf, wf = sR we n 0 (some (n + 1)) := ⟨_, rfl⟩
  obtain ⟨wg, ewg⟩ : ∃ wg, wg = sR wf n 1 q := ⟨_, rfl⟩
  have z0 : w0.1 = n + 1 ∧ w0.2.1 = w.2.1 + 3 := by rw [ew0, hn]; exact ⟨rfl, rfl⟩
  have za : wa.1 = n + 2 ∧ wa.2.1 = w.2.1 + 9 := by rw [ewa]; exact ⟨by show w0.1 + 1 = _; omega, by show w0.2.1 + 6 = _; omega⟩
  have zb : wb.1 = n + 3 ∧ wb.2.1 = w.2.1 + 17 := by rw [ewb]; exact ⟨by show wa.1 + 1 = _; omega, by show wa.2.1 + 8 = _; omega⟩
  have zc : wc.1 = n + 4 ∧ wc.2.1 = w.2.1 + 25 := by rw [ewc]; exact ⟨by show wb.1 + 1 = _; omega, by show wb.2.1 + 8 = _; omega⟩
  have zd : wd.1 = n + 5 ∧ wd.2.1 = w.2.1 + 33 := by rw [ewd]; exact ⟨by show wc.1 + 1 = _; omega, by show wc.2.1 + 8 = _; omega⟩
  have ze : we.1 = n + 6 ∧ we.2.1 = w.2.1 + 73 := by rw [ewe]; exact ⟨by show wd.1 + 1 = _; omega, by show wd.2.1 + 40 = _; omega⟩
  -- shapes
  have h0 : ∀ a, w0.2.2.1 a = if a = n then .inr (3, [2, 2, 0]) else w.2.2.1 a := fun a => by rw [ew0, hn]; rfl
  have ha : ∀ a, wa.2.2.1 a = if a = n + 1 then .inr (5, [2, 2, 2, 2, 0, 0]) else w0.2.2.1 a := fun a => by rw [ewa]; show (if a = w0.1 then _ else _) = _; rw [z0.1]
  have hb : ∀ a, wb.2.2.1 a = if a = n + 2 then .inl (0, 8, 0) else wa.2.2.1 a := fun a => by rw [ewb]; show (if a = wa.1 then _ else _) = _; rw [za.1]
  have hc : ∀ a, wc.2.2.1 a = if a = n + 3 then .inl (0, 8, 0) else wb.2.2.1 a := fun a => by rw [ewc]; show (if a = wb.1 then _ else _) = _; rw [zb.1]
  have hd : ∀ a, wd.2.2.1 a = if a = n + 4 then .inl (0, 8, 0) else wc.2.2.1 a := fun a => by rw [ewd]; show (if a = wc.1 then _ else _) = _; rw [zc.1]
  have he : ∀ a, we.2.2.1 a = if a = n + 5 then .inl (0, 40, 0) else wd.2.2.1 a := fun a => by rw [ewe]; show (if a = wd.1 then _ else _) = _; rw [zd.1]
  have hf : wf.2.2.1 = we.2.2.1 := by rw [ewf]; rfl
  have hg' : wg.2.2.1 = we.2.2.1 := by rw [ewg]; exact hf
  have shn : ∀ x : Wd, (x = wa ∨ x = wb ∨ x = wc ∨ x = wd ∨ x = we ∨ x = w0) → x.2.2.1 n = .inr (3, [2, 2, 0]) := by
    intro x hx
    have t0 : w0.2.2.1 n = .inr (3, [2, 2, 0]) := by rw [h0, if_pos rfl]
    have ta : wa.2.2.1 n = .inr (3, [2, 2, 0]) := by rw [ha, if_neg (by omega)]; exact t0
    have tb : wb.2.2.1 n = .inr (3, [2, 2, 0]) := by rw [hb, if_neg (by omega)]; exact ta
    have tc : wc.2.2.1 n = .inr (3, [2, 2, 0]) := by rw [hc, if_neg (by omega)]; exact tb
    have td : wd.2.2.1 n = .inr (3, [2, 2, 0]) := by rw [hd, if_neg (by omega)]; exact tc
    have te : we.2.2.1 n = .inr (3, [2, 2, 0]) := by rw [he, if_neg (by omega)]; exact td
    rcases hx with h | h | h | h | h | h <;> subst h <;> assumption
  have t1a : wa.2.2.1 (n + 1) = .inr (5, [2, 2, 2, 2, 0, 0]) := by rw [ha, if_pos rfl]
  have t1b : wb.2.2.1 (n + 1) = .inr (5, [2, 2, 2, 2, 0, 0]) := by rw [hb, if_neg (by omega)]; exact t1a
  have t1c : wc.2.2.1 (n + 1) = .inr (5, [2, 2, 2, 2, 0, 0]) := by rw [hc, if_neg (by omega)]; exact t1b
  have t1d : wd.2.2.1 (n + 1) = .inr (5, [2, 2, 2, 2, 0, 0]) := by rw [hd, if_neg (by omega)]; exact t1c
  have t1e : we.2.2.1 (n + 1) = .inr (5, [2, 2, 2, 2, 0, 0]) := by rw [he, if_neg (by omega)]; exact t1d
  have ten : we.2.2.1 n = .inr (3, [2, 2, 0]) := shn we (Or.inr (Or.inr (Or.inr (Or.inr (Or.inl rfl)))))
  have shL : ∀ a, a < n → we.2.2.1 a = w.2.2.1 a := fun a hlt => by
    rw [he, if_neg (by omega), hd, if_neg (by omega), hc, if_neg (by omega), hb, if_neg (by omega), ha, if_neg (by omega), h0, if_neg (by omega)]
  -- references
  have rL0 : ∀ a, a < n → w0.2.2.2 a = w.2.2.2 a := fun a hlt => by rw [ew0]; show up1 w.2.2.2 w.1 _ a = _; rw [up1_n (by omega)]
  have rLa : ∀ a, a < n → wa.2.2.2 a = w.2.2.2 a := fun a hlt => by rw [ewa]; show up1 w0.2.2.2 w0.1 _ a = _; rw [up1_n (by omega)]; exact rL0 a hlt
  have rLb : ∀ a, a < n → wb.2.2.2 a = w.2.2.2 a := fun a hlt => by rw [ewb]; show up2 wa.2.2.2 (n + 1) 0 _ a = _; rw [up2_ra (by omega)]; exact rLa a hlt
  have rLc : ∀ a, a < n → wc.2.2.2 a = w.2.2.2 a := fun a hlt => by rw [ewc]; show up2 wb.2.2.2 (n + 1) 1 _ a = _; rw [up2_ra (by omega)]; exact rLb a hlt
  have rLd : ∀ a, a < n → wd.2.2.2 a = w.2.2.2 a := fun a hlt => by rw [ewd]; show up2 wc.2.2.2 (n + 1) 2 _ a = _; rw [up2_ra (by omega)]; exact rLc a hlt
  have rLe : ∀ a, a < n → we.2.2.2 a = w.2.2.2 a := fun a hlt => by rw [ewe]; show up2 wd.2.2.2 (n + 1) 3 _ a = _; rw [up2_ra (by omega)]; exact rLd a hlt
  have rLf : ∀ a, a < n → wf.2.2.2 a = w.2.2.2 a := fun a hlt => by rw [ewf]; show up2 we.2.2.2 n 0 _ a = _; rw [up2_ra (by omega)]; exact rLe a hlt
  have rLg : ∀ a, a < n → wg.2.2.2 a = w.2.2.2 a := fun a hlt => by rw [ewg]; show up2 wf.2.2.2 n 1 _ a = _; rw [up2_ra (by omega)]; exact rLf a hlt
  have b0 : wb.2.2.2 (n + 1) 0 = some (n + 2) := by rw [ewb]; exact up2_s
  have c0 : wc.2.2.2 (n + 1) 0 = some (n + 2) ∧ wc.2.2.2 (n + 1) 1 = some (n + 3) := by rw [ewc]; exact ⟨(up2_k (by decide)).trans b0, up2_s⟩
  have d0 : wd.2.2.2 (n + 1) 0 = some (n + 2) ∧ wd.2.2.2 (n + 1) 1 = some (n + 3) ∧ wd.2.2.2 (n + 1) 2 = some (n + 4) := by rw [ewd]; exact ⟨(up2_k (by decide)).trans c0.1, (up2_k (by decide)).trans c0.2, up2_s⟩
  have e0 : we.2.2.2 (n + 1) 0 = some (n + 2) ∧ we.2.2.2 (n + 1) 1 = some (n + 3) ∧ we.2.2.2 (n + 1) 2 = some (n + 4) ∧ we.2.2.2 (n + 1) 3 = some (n + 5) := by rw [ewe]; exact ⟨(up2_k (by decide)).trans d0.1, (up2_k (by decide)).trans d0.2.1, (up2_k (by decide)).trans d0.2.2, up2_s⟩
  have rf1 : wf.2.2.2 (n + 1) = we.2.2.2 (n + 1) := by rw [ewf]; show up2 we.2.2.2 n 0 _ (n + 1) = _; rw [up2_ra (by omega)]
  have rg1 : wg.2.2.2 (n + 1) = we.2.2.2 (n + 1) := by rw [ewg]; show up2 wf.2.2.2 n 1 _ (n + 1) = _; rw [up2_ra (by omega)]; exact rf1
  have rfn : wf.2.2.2 n 0 = some (n + 1) := by rw [ewf]; exact up2_s
  have rgn : wg.2.2.2 n 0 = some (n + 1) ∧ wg.2.2.2 n 1 = q := by rw [ewg]; exact ⟨(up2_k (by decide)).trans rfn, up2_s⟩
  have zf : wf.1 = n + 6 := by rw [ewf]; exact ze.1
  have zg : wg.1 = n + 6 ∧ wg.2.1 = w.2.1 + 73 := by rw [ewg, ewf]; exact ze
  have Tf : StS wf (n + 1) := by
    refine ⟨by omega, by rw [hf]; exact t1e, ⟨?_, ?_, ?_, ?_⟩, by rw [rf1]; exact e0.1, by rw [rf1]; exact e0.2.1, by rw [rf1]; exact e0.2.2.1, by rw [rf1]; exact e0.2.2.2⟩
    · show wf.2.2.1 (n + 2) = _
      rw [hf, he, if_neg (by omega), hd, if_neg (by omega), hc, if_neg (by omega), hb, if_pos rfl]
    · show wf.2.2.1 (n + 3) = _
      rw [hf, he, if_neg (by omega), hd, if_neg (by omega), hc, if_pos rfl]
    · show wf.2.2.1 (n + 4) = _
      rw [hf, he, if_neg (by omega), hd, if_pos rfl]
    · show wf.2.2.1 (n + 5) = _
      rw [hf, he, if_pos rfl]
  have Tg : StS wg (n + 1) := by
    obtain ⟨t1, t2, t3, t4⟩ := Tf
    refine ⟨by omega, by rw [hg', ← hf]; exact t2, by rw [hg', ← hf]; exact t3, ?_⟩
    rw [rg1, ← rf1]
    exact t4
  have SwOf : ∀ x : Wd, 526 ≤ x.1 → (∀ a, a < n → x.2.2.1 a = w.2.2.1 a) → (∀ a, a < n → x.2.2.2 a = w.2.2.2 a) → Sw x := fun x hx h1 h2 => ⟨hx, fun a hlt => by rw [h1 a (by omega)]; exact S.2.1 a hlt, fun p hp => by
    have hlt : p.1 < 525 := by
      have : ∀ p ∈ rPairs, p.1 < 525 := by decide +kernel
      exact this p hp
    rw [h2 p.1 (by omega)]
    exact S.2.2 p hp⟩
  have S0 : Sw w0 := SwOf w0 (by omega) (fun a hlt => by rw [h0, if_neg (by omega)]) rL0
  have Sf : Sw wf := SwOf wf (by omega) (fun a hlt => by rw [hf]; exact shL a hlt) rLf
  have Sg : Sw wg := SwOf wg (by omega) (fun a hlt => by rw [hg']; exact shL a hlt) rLg
  -- numbers
  obtain ⟨I0, eI0⟩ : ∃ I0, I0 = up1 I n (fun _ => 0) := ⟨_, rfl⟩
  obtain ⟨J0, eJ0⟩ : ∃ J0, J0 = up1 J n (fun _ => 0) := ⟨_, rfl⟩
  obtain ⟨Ja, eJa⟩ : ∃ Ja, Ja = up1 J0 (n + 1) (fun _ => 0) := ⟨_, rfl⟩
  obtain ⟨Ie, eIe⟩ : ∃ Ie, Ie = up1 (up1 (up1 (up1 (up1 I0 (n + 1) (fun _ => 0)) (n + 2) (fun _ => 0)) (n + 3) (fun _ => 0)) (n + 4) (fun _ => 0)) (n + 5) (fun _ => 0) := ⟨_, rfl⟩
  have IeL : ∀ a, a < n → Ie a = I a := fun a hlt => by rw [eIe, up1_n (by omega), up1_n (by omega), up1_n (by omega), up1_n (by omega), up1_n (by omega), eI0, up1_n (by omega)]
  have HAe : StR Ie 43 A := by
    unfold StR
    rw [IeL 43 (by omega), IeL (43 + 1) (by omega), IeL (43 + 2) (by omega), IeL (43 + 3) (by omega), IeL (43 + 4) (by omega)]
    exact HA
  obtain ⟨If, eIf, aIf, sIf⟩ := c_copyFrom (J := Ja) Tf (StS_43 Sf) (by omega) HAe h40
  have IfL : ∀ a, a < n → If a = I a := fun a hlt => by
    rw [aIf a (by simp; omega)]
    exact IeL a hlt
  obtain ⟨Ig, eIg⟩ : ∃ Ig, Ig = up2 If n 2 (nn (H.length + 1)) := ⟨_, rfl⟩
  have IgL : ∀ a, a < n → Ig a = I a := fun a hlt => by
    rw [eIg, up2_ra (by omega)]
    exact IfL a hlt
  have Xg : Ext w wg := ⟨by omega, fun a _ hlt => ⟨by rw [hg']; exact shL a (by omega), rLg a (by omega)⟩⟩
  have HHg : HiC wg If q H := (by
    have : ∀ {l : List At} {p : Option Nat}, HiC w I p l → HiC w If p l := by
      intro l
      induction l with
      | nil => exact fun h => h
      | cons A l ih =>
        rintro p ⟨a, e, h1, h2, h3, h4, h5, h6, h7, h8, h9, h10⟩
        have he5 := h7.1
        refine ⟨a, e, h1, h2, h3, h4, h5, h6, h7, ?_, ?_, ih h10⟩
        · unfold StR
          rw [IfL e (by omega), IfL (e + 1) (by omega), IfL (e + 2) (by omega), IfL (e + 3) (by omega), IfL (e + 4) (by omega)]
          exact h8
        · rw [IfL a (by omega)]
          exact h9
    exact (this HH).ext Xg)
  refine ⟨w0, wg, I0, J0, Ig, Ja, ?_, S0, rL0 0 (by omega), ?_, Sg, Xg, by omega, zg.2, fun a hlt => rLg a (by omega), fun a hlt => IgL a (by omega), fun a hlt => ?_, ?_⟩
  · rw [ew0, eI0, eJ0, hn]
    exact nO_st (ks := [2, 2, 0]) rfl (by omega) (by omega)
  · refine ni_st ?_
    rw [← hn]
    have g1 : nO 5 6 [.null, .null, .null, .null, .int 0, .int 0] (st w0 I0 J0) = some (.inl (n + 1), st wa (up1 I0 (n + 1) (fun _ => 0)) Ja) := by
      have := nO_st (I := I0) (J := J0) (w := w0) (c := 5) (N := 6) (ks := [2, 2, 2, 2, 0, 0]) (fs := [.null, .null, .null, .null, .int 0, .int 0]) rfl (by omega) (by omega)
      rw [← ewa, z0.1, ← eJa] at this
      exact this
    have A1 := nA_st (w := wa) (I := up1 I0 (n + 1) (fun _ => 0)) (J := Ja) (m := 8) (x := 8) rfl (by decide) (by omega) (by omega)
    rw [za.1] at A1
    have p1 := pr_st (w := nwA wa 8) (I := up1 (up1 I0 (n + 1) (fun _ => 0)) (n + 2) (fun _ => 0)) (J := Ja) (a := n + 1) (c := 5) (j := 0) (x := n + 2) (ks := [2, 2, 2, 2, 0, 0]) (by show n + 1 < wa.1 + 1; omega) (by show up1 wa.2.2.1 wa.1 _ (n + 1) = _; rw [up1_n (by omega)]; exact t1a) rfl
    rw [← ewb] at p1
    have A2 := nA_st (w := wb) (I := up1 (up1 I0 (n + 1) (fun _ => 0)) (n + 2) (fun _ => 0)) (J := Ja) (m := 8) (x := 8) rfl (by decide) (by omega) (by omega)
    rw [zb.1] at A2
    have p2 := pr_st (w := nwA wb 8) (I := up1 (up1 (up1 I0 (n + 1) (fun _ => 0)) (n + 2) (fun _ => 0)) (n + 3) (fun _ => 0)) (J := Ja) (a := n + 1) (c := 5) (j := 1) (x := n + 3) (ks := [2, 2, 2, 2, 0, 0]) (by show n + 1 < wb.1 + 1; omega) (by show up1 wb.2.2.1 wb.1 _ (n + 1) = _; rw [up1_n (by omega)]; exact t1b) rfl
    rw [← ewc] at p2
    have A3 := nA_st (w := wc) (I := up1 (up1 (up1 I0 (n + 1) (fun _ => 0)) (n + 2) (fun _ => 0)) (n + 3) (fun _ => 0)) (J := Ja) (m := 8) (x := 8) rfl (by decide) (by omega) (by omega)
    rw [zc.1] at A3
    have p3 := pr_st (w := nwA wc 8) (I := up1 (up1 (up1 (up1 I0 (n + 1) (fun _ => 0)) (n + 2) (fun _ => 0)) (n + 3) (fun _ => 0)) (n + 4) (fun _ => 0)) (J := Ja) (a := n + 1) (c := 5) (j := 2) (x := n + 4) (ks := [2, 2, 2, 2, 0, 0]) (by show n + 1 < wc.1 + 1; omega) (by show up1 wc.2.2.1 wc.1 _ (n + 1) = _; rw [up1_n (by omega)]; exact t1c) rfl
    rw [← ewd] at p3
    have A4 := nA_st (w := wd) (I := up1 (up1 (up1 (up1 I0 (n + 1) (fun _ => 0)) (n + 2) (fun _ => 0)) (n + 3) (fun _ => 0)) (n + 4) (fun _ => 0)) (J := Ja) (m := 40) (x := 40) rfl (by decide) (by omega) (by omega)
    rw [zd.1, ← eIe] at A4
    have p4 := pr_st (w := nwA wd 40) (I := Ie) (J := Ja) (a := n + 1) (c := 5) (j := 3) (x := n + 5) (ks := [2, 2, 2, 2, 0, 0]) (by show n + 1 < wd.1 + 1; omega) (by show up1 wd.2.2.1 wd.1 _ (n + 1) = _; rw [up1_n (by omega)]; exact t1d) rfl
    rw [← ewe] at p4
    have g2 : f_X5_init (n + 1) (st wa (up1 I0 (n + 1) (fun _ => 0)) Ja) = some (.inl (), st we Ie Ja) := by
      rw [f_X5_init, bd_st A1, bd_st p1, bd_st A2, bd_st p2, bd_st A3, bd_st p3, bd_st A4, bd_st p4]
      rfl
    have p5 := pr_st (w := we) (I := Ie) (J := Ja) (a := n) (c := 3) (j := 0) (x := n + 1) (ks := [2, 2, 0]) (by omega) ten rfl
    rw [← ewf] at p5
    have tfn : wf.2.2.1 n = .inr (3, [2, 2, 0]) := by rw [hf]; exact ten
    have g3 : gR 3 0 n (st wf Ie Ja) = some (.inl (n + 1), st wf Ie Ja) := m_gR (by omega) tfn rfl rfn
    have p6 := pR_st (w := wf) (I := If) (J := Ja) (a := n) (c := 3) (j := 1) (v := q) (ks := [2, 2, 0]) (by omega) tfn rfl
    rw [← ewg] at p6
    have tgn : wg.2.2.1 n = .inr (3, [2, 2, 0]) := by rw [hg']; exact ten
    have p7 : ∀ v, pf 3 2 n (.int v) (st wg If Ja) = some (.inl (), st wg (up2 If n 2 v) Ja) := fun v => m_pfI (n := wg.1) (by omega) tgn rfl
    rw [f_X3_init, bd_st g1, bd_st (ni_st g2), bd_st p5, bd_st g3, bd_st ((e_v Tf).trans eIf), bd_st p6]
    cases H with
    | nil =>
      have hq : q = none := HHg
      subst hq
      show bd (pf 3 2 n (.int 1)) _ (st wg If Ja) = _
      rw [bd_st (p7 1), eIg]
      rfl
    | cons B l =>
      obtain ⟨a, e, x1, x2, x3, x4, x5, x6, x7, x8, x9, x10⟩ := HHg
      subst x1
      show bd (gI 3 2 a) _ (st wg If Ja) = _
      rw [bd_st (show gI 3 2 a (st wg If Ja) = some (.inl (If a 2), st wg If Ja) from m_gI x3 x4 rfl), x9, nn_succ, f_X3_init_b43, bd_st (p7 _), eIg]
      rfl
  · rw [eJa, up1_n (by omega), eJ0, up1_n (by omega)]
  · have tgn : wg.2.2.1 n = .inr (3, [2, 2, 0]) := by rw [hg']; exact ten
    refine ⟨n, n + 1, by rw [hn], by omega, by omega, tgn, rgn.1, by omega, Tg, ?_, ?_, ?_⟩
    · rw [eIg]
      exact sIf.ag ((Ag.refl [n] _).up (by simp)) (by simp)
    · rw [eIg, up2_s]
    · rw [rgn.2, eIg]
      have key : ∀ {l : List At} {p : Option Nat}, HiC w I p l → HiC w (up2 If n 2 (nn (H.length + 1))) p l := by
        intro l
        induction l with
        | nil => exact fun h => h
        | cons A l ih =>
          rintro p ⟨a, e, h1, h2, h3, h4, h5, h6, h7, h8, h9, h10⟩
          have he5 := h7.1
          have L : ∀ b, b < n → up2 If n 2 (nn (H.length + 1)) b = I b := fun b hlt => by rw [up2_ra (by omega)]; exact IfL b hlt
          refine ⟨a, e, h1, h2, h3, h4, h5, h6, h7, ?_, ?_, ih h10⟩
          · unfold StR
            rw [L e (by omega), L (e + 1) (by omega), L (e + 2) (by omega), L (e + 3) (by omega), L (e + 4) (by omega)]
            exact h8
          · rw [L a (by omega)]
            exact h9
      exact (key HH).ext Xg
end KEPT
