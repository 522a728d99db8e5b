/-! PURE PART: the law's loop over both sides -/
def Inv (k : Nat) (w : Wd) (I : Is) (J : Js) : Prop := Sw w ∧ w.1 ≤ 526 + 7 * k ∧ w.2.1 ≤ 50000 + 100 * k ∧ ∃ D, RC w I J D ∧ RM I D ∧ WD D
theorem Inv.rm {k : Nat} {w : Wd} {I : Is} {J : Js} (H : Inv k w I J) (hk : k ≤ 512) : Rm w := by
  obtain ⟨-, h1, h2, -⟩ := H
  unfold Rm CM SM
  omega
def CallI (k : Nat) (w : Wd) (I : Is) (J : Js) (c m : Mo Int32) : Prop := ∃ v w1 I1 J1, c (st w I J) = some (.inl v, st w1 I1 J1) ∧ ∀ J', J' 24 = J1 24 → ∃ I2, m (st w1 I1 J') = some (.inl v, st w1 I2 J') ∧ I2 49 0 = 0 ∧ Inv (k + 1) w1 I2 J'
def CallE (k : Nat) (w : Wd) (I : Is) (J : Js) (cls : Nat) (code : Int32) (c m : Mo Int32) : Prop := ∃ w1 I1 J1 a, c (st w I J) = some (.inr (a, cls), st w1 I1 J1) ∧ (∃ fs, ob cls a (st w1 I1 J1) = some fs) ∧ ∀ J', J' 24 = J1 24 → ∃ v I2, m (st w1 I1 J') = some (.inl v, st w1 I2 J') ∧ I2 49 0 = code ∧ Inv (k + 1) w1 I2 J'
def CallG (w : Wd) (I : Is) (J : Js) (c m : Mo Int32) : Prop := ∃ v I1, c (st w I J) = some (.inl v, st w I1 J) ∧ Ag KC I I1 ∧ ∀ J', ∃ I2, m (st w I1 J') = some (.inl v, st w I2 J') ∧ AgM (up2 I1 49 0 0) I2
def CallX (w : Wd) (I : Is) (J : Js) (cls fld k : Nat) (code : Int32) (c m : Mo Int32) : Prop := c (st w I J) = some (.inr (w.1, cls), st (tw w cls) (up2 I 0 fld (I 0 fld + 1)) J) ∧ ∀ J', ∃ v, m (st (tw w cls) (up2 I 0 fld (I 0 fld + 1)) J') = some (.inl v, st (tw w cls) (up2 (up2 (up2 (up2 I 0 fld (I 0 fld + 1)) 49 0 0) 49 0 code) 51 k (I 51 k + 1)) J')
def Call (w : Wd) (I : Is) (J : Js) (code : Int32) (c m : Mo Int32) : Prop := CallG w I J c m ∨ CallX w I J 13 16 0 1 c m ∨ CallX w I J 14 17 1 code c m
def CallK (k : Nat) (w : Wd) (I : Is) (J : Js) (code : Int32) (c m : Mo Int32) : Prop := CallI k w I J c m ∨ CallE k w I J 13 1 c m ∨ CallE k w I J 14 code c m
section FRAME
variable {k : Nat} {w : Wd} {I : Is} {J : Js} {c m : Mo Int32}
theorem CallG.ok (H : Inv k w I J) (G : CallG w I J c m) : CallI k w I J c m := by
  obtain ⟨v, I1, e1, a1, h⟩ := G
  refine ⟨v, w, I1, J, e1, fun J' hJ => ?_⟩
  obtain ⟨I2, e2, a2⟩ := h J'
  obtain ⟨S, n1, n2, D, HC, HM, W⟩ := H
  refine ⟨I2, e2, ?_, S, by omega, by omega, D, ?_, ?_, W⟩
  · rw [a2.2 0 (by decide)]
    exact up2_s
  · have h1 : RC w I1 J D := HC.ag a1 (fun a ha => (KC_sg a ha).1) rfl
    have h2 : RC w (up2 I1 49 0 0) J D := h1.ag ((Ag.refl [49] I1).up (by decide)) (by decide) rfl
    exact h2.ag a2.1 KM_sg hJ
  · have h1 : RM I1 D := HM.ag W a1 (fun a ha => (KC_sg a ha).2)
    exact (h1.t0 W).agm W a2
theorem CallX.ok {cls fld j : Nat} {code : Int32} (hf : fld = 16 ∧ j = 0 ∨ fld = 17 ∧ j = 1) (H : Inv k w I J) (X : CallX w I J cls fld j code c m) : CallE k w I J cls code c m := by
  obtain ⟨e1, h⟩ := X
  refine ⟨tw w cls, _, J, w.1, e1, ⟨[], tw_ob⟩, fun J' hJ => ?_⟩
  obtain ⟨v, e2⟩ := h J'
  obtain ⟨S, n1, n2, D, HC, HM, W⟩ := H
  have hk : Ag [0, 49, 51] I (up2 (up2 (up2 (up2 I 0 fld (I 0 fld + 1)) 49 0 0) 49 0 code) 51 j (I 51 j + 1)) := ((((Ag.refl _ _).up (by decide)).up (by decide)).up (by decide)).up (by decide)
  have z : ∀ i, i ≠ fld → (up2 (up2 (up2 (up2 I 0 fld (I 0 fld + 1)) 49 0 0) 49 0 code) 51 j (I 51 j + 1)) 0 i = I 0 i := fun i hi => by rw [up2_a (by decide), up2_a (by decide), up2_a (by decide), up2_k hi]
  have zf : (up2 (up2 (up2 (up2 I 0 fld (I 0 fld + 1)) 49 0 0) 49 0 code) 51 j (I 51 j + 1)) 0 fld = I 0 fld + 1 := by rw [up2_a (by decide), up2_a (by decide), up2_a (by decide), up2_s]
  have y : ∀ i, i ≠ j → (up2 (up2 (up2 (up2 I 0 fld (I 0 fld + 1)) 49 0 0) 49 0 code) 51 j (I 51 j + 1)) 51 i = I 51 i := fun i hi => by rw [up2_k hi, up2_a (by decide), up2_a (by decide), up2_a (by decide)]
  have h1 : RC0 (tw w cls) (up2 (up2 (up2 (up2 I 0 fld (I 0 fld + 1)) 49 0 0) 49 0 code) 51 j (I 51 j + 1)) J' D := by
    refine HC.1.ag0 (fun a ha h0 => hk a ?_) (z 14 (by omega)) (z 15 (by omega)) hJ (tw_Ext S cls) rfl (fun _ => rfl)
    intro q
    have : ∀ a ∈ [0, 49, 51], a = 0 ∨ sgC a = true := by decide
    rcases this a q with e | e
    · exact h0 e
    · rw [e] at ha; exact absurd ha (by decide)
  have h2 : RM0 (up2 (up2 (up2 (up2 I 0 fld (I 0 fld + 1)) 49 0 0) 49 0 code) 51 j (I 51 j + 1)) D := by
    refine HM.1.ag0 W (fun a ha => hk a ?_) (fun i hi => ?_)
    · intro q
      have : ∀ a ∈ [0, 49, 51], sgM a = false := by decide
      rw [this a q] at ha
      exact absurd ha (by decide)
    · have h0 : i ≠ 0 := fun e => by subst e; exact absurd hi (by decide)
      rw [up2_a (by decide), up2_k h0, up2_k h0, up2_a (by decide)]
  have hs : (tw w cls).1 ≤ 526 + 7 * (k + 1) ∧ (tw w cls).2.1 ≤ 50000 + 100 * (k + 1) := by
    show w.1 + 1 ≤ _ ∧ w.2.1 + 6 ≤ _
    omega
  have ht : (up2 (up2 (up2 (up2 I 0 fld (I 0 fld + 1)) 49 0 0) 49 0 code) 51 j (I 51 j + 1)) 49 0 = code := by rw [up2_a (by decide), up2_s]
  rcases hf with ⟨rfl, rfl⟩ | ⟨rfl, rfl⟩
  · refine ⟨v, _, e2, ht, tw_Sw S cls, hs.1, hs.2, (D.1, D.2.1, D.2.2.1, dP D, dN D, dE D + 1, dG D), ⟨h1, ?_, ?_⟩, ⟨h2, ?_, ?_⟩, W⟩
    · rw [zf, HC.2.1]; rfl
    · rw [z 17 (by decide), HC.2.2]; rfl
    · rw [up2_s, HM.2.1]; rfl
    · rw [y 1 (by decide), HM.2.2]; rfl
  · refine ⟨v, _, e2, ht, tw_Sw S cls, hs.1, hs.2, (D.1, D.2.1, D.2.2.1, dP D, dN D, dE D, dG D + 1), ⟨h1, ?_, ?_⟩, ⟨h2, ?_, ?_⟩, W⟩
    · rw [z 16 (by decide), HC.2.1]; rfl
    · rw [zf, HC.2.2]; rfl
    · rw [y 0 (by decide), HM.2.1]; rfl
    · rw [up2_s, HM.2.2]; rfl
theorem Call.ok {code : Int32} (H : Inv k w I J) (C : Call w I J code c m) : CallK k w I J code c m := by
  rcases C with C | C | C
  · exact Or.inl (C.ok H)
  · exact Or.inr (Or.inl (C.ok (Or.inl ⟨rfl, rfl⟩) H))
  · exact Or.inr (Or.inr (C.ok (Or.inr ⟨rfl, rfl⟩) H))
theorem o_ls (S : Sw w) (x : Int64) : ls_ 525 0 x (st w I J) = some (.inl (), st w I (up2 J 525 0 x)) :=
  m_ls (n := w.1) (q := w.2.1) (I := I) (J := J) (R := w.2.2.2) (i := 0) (m := 1) (Nat.lt_of_lt_of_le (by decide) S.1) (S.2.1 525 (by decide)) (by decide)
theorem o_ll (S : Sw w) : ll 525 0 (st w I J) = some (.inl (J 525 0), st w I J) :=
  m_ll (n := w.1) (q := w.2.1) (I := I) (J := J) (R := w.2.2.2) (i := 0) (m := 1) (Nat.lt_of_lt_of_le (by decide) S.1) (S.2.1 525 (by decide)) (by decide)
theorem lg_self (x : Int64) : lg_cmp x x = 0 := by simp [lg_cmp, Int64.lt_irrefl]
theorem m_thrown (S : Sw w) : f_X12_thrown 49 (st w I J) = some (.inl (I 49 0), st w I J) := by
  unfold f_X12_thrown
  rw [bd_st (i_49_0 S)]
  rfl
def tlT (c m : Mo Int32) (Hn : Nat → Nat → Mo Int32) (K : Mo Int32) : Mo Int32 := bd (tc (cv 11 0 c) (fun v1 => bd (ls_ 525 0 (Int32.toInt64 v1)) fun _ => pu 0) Hn) fun v2 => bd (cv 12 49 m) fun v3 => bd (cv 12 49 (f_X12_thrown 49)) fun v4 => if (v4 = v2 : Prop) then (if (v2 = 0 : Prop) then (bd (ll 525 0) fun w5 => if ((lg_cmp w5 (Int32.toInt64 v3)) = 0 : Prop) then K else pu 0) else K) else pu 0
def tlD (c m : Mo Int32) (K : Mo Int32) : Mo Int32 := bd (cv 11 0 c) fun v1 => bd (cv 12 49 m) fun v2 => if (v1 = v2 : Prop) then K else pu 0
theorem tlD_ok {K : Mo Int32} (S : Sw w) (C : CallI k w I J c m) : ∃ w1 I2 J', tlD c m K (st w I J) = K (st w1 I2 J') ∧ Inv (k + 1) w1 I2 J' := by
  obtain ⟨v, w1, I1, J1, e1, h⟩ := C
  obtain ⟨I2, e2, -, H⟩ := h J1 rfl
  refine ⟨w1, I2, J1, ?_, H⟩
  unfold tlD
  rw [bd_st ((v_0 S).trans e1), bd_st ((v_49 H.1).trans e2), if_pos rfl]
theorem tlT_ok {K : Mo Int32} {Hn : Nat → Nat → Mo Int32} {code : Int32} (h13 : ∀ a σ, Hn 13 a σ = some (.inl 1, σ) ∨ ∀ σ', c (st w I J) ≠ some (.inr (a, 13), σ')) (h14 : ∀ a σ, Hn 14 a σ = some (.inl code, σ) ∨ ∀ σ', c (st w I J) ≠ some (.inr (a, 14), σ')) (hc : code ≠ 0) (S : Sw w) (C : CallK k w I J code c m) : ∃ w1 I2 J', tlT c m Hn K (st w I J) = K (st w1 I2 J') ∧ Inv (k + 1) w1 I2 J' := by
  have key : ∀ cls code', code' ≠ 0 → (∀ a σ, Hn cls a σ = some (.inl code', σ) ∨ ∀ σ', c (st w I J) ≠ some (.inr (a, cls), σ')) → CallE k w I J cls code' c m → ∃ w1 I2 J', tlT c m Hn K (st w I J) = K (st w1 I2 J') ∧ Inv (k + 1) w1 I2 J' := by
    intro cls code' hc' hh C
    obtain ⟨w1, I1, J1, a, e1, ⟨fs, eo⟩, h⟩ := C
    obtain ⟨v, I2, e2, ht, H⟩ := h J1 rfl
    refine ⟨w1, I2, J1, ?_, H⟩
    have e0 : tc (cv 11 0 c) (fun v1 => bd (ls_ 525 0 (Int32.toInt64 v1)) fun _ => pu 0) Hn (st w I J) = some (.inl code', st w1 I1 J1) := by
      unfold tc
      rw [v_0 S, e1]
      simp only [eo]
      rcases hh a (st w1 I1 J1) with q | q
      · exact q
      · exact absurd e1 (q _)
    unfold tlT
    rw [bd_st e0, bd_st ((v_49 H.1).trans e2), bd_st ((v_49 H.1).trans (m_thrown H.1)), ht, if_pos rfl, if_neg hc']
  rcases C with C | C | C
  · obtain ⟨v, w1, I1, J1, e1, h⟩ := C
    obtain ⟨I2, e2, ht, H⟩ := h (up2 J1 525 0 (Int32.toInt64 v)) (up2_ra (by decide))
    refine ⟨w1, I2, _, ?_, H⟩
    have e0 : tc (cv 11 0 c) (fun v1 => bd (ls_ 525 0 (Int32.toInt64 v1)) fun _ => pu 0) Hn (st w I J) = some (.inl 0, st w1 I1 (up2 J1 525 0 (Int32.toInt64 v))) := by
      unfold tc
      rw [v_0 S, e1]
      show bd (ls_ 525 0 (Int32.toInt64 v)) (fun _ => pu 0) (st w1 I1 J1) = _
      rw [bd_st (o_ls H.1 _)]
      rfl
    unfold tlT
    rw [bd_st e0, bd_st ((v_49 H.1).trans e2), bd_st ((v_49 H.1).trans (m_thrown H.1)), ht, if_pos rfl, if_pos rfl, bd_st (o_ll H.1), up2_s, lg_self, if_pos rfl]
  · exact key 13 1 (by decide) h13 C
  · exact key 14 code hc h14 C
end FRAME
theorem bd_pu {α β : Type} {x : α} {f : α → Mo β} : bd (pu x) f = f x := rfl

section BLK
variable {g : GW} {k23 : Nat → Nat → Nat → Int32 → Mo Int32} {x : Int32} {s : Nat → Int32}
theorem k_0 (h1 : sL g (x + 1) = pu (s 1)) (h2 : sL g (x + 2) = pu (s 2)) (h3 : sL g (x + 3) = pu (s 3)) (h4 : sL g (x + 4) = pu (s 4)) (h5 : sL g (x + 5) = pu (s 5)) : f_L_law__b236 g k23 0 49 525 x = tlD (f_X11_feed 0 (s 1) (s 2) (s 3) (s 4) (s 5)) (f_X12_feed 49 (s 1) (s 2) (s 3) (s 4) (s 5)) (k23 0 49 525 (x + 9)) := by
  simp only [f_L_law__b236, f_L_law__b2771, h1, h2, h3, h4, h5, bd_pu]
  rfl
theorem k_1 (h1 : sL g (x + 1) = pu (s 1)) : f_L_law__b309 g k23 0 49 525 x = tlT (f_X11_town 0 (s 1)) (f_X12_town 49 (s 1)) (hn1 14 (pu 1)) (k23 0 49 525 (x + 9)) := by
  simp only [f_L_law__b309, f_L_town, f_L_law__b362, f_L_law__b2771, h1, bd_pu]
  rfl
theorem k_2 (h1 : sL g (x + 1) = pu (s 1)) : f_L_law__b365 g k23 0 49 525 x = tlT (f_X11_law 0 (s 1)) (f_X12_law 49 (s 1)) (hn1 14 (pu 1)) (k23 0 49 525 (x + 9)) := by
  simp only [f_L_law__b365, f_L_law, f_L_law__b418, f_L_law__b2771, h1, bd_pu]
  rfl
theorem k_3 (h1 : sL g (x + 1) = pu (s 1)) : f_L_law__b421 g k23 0 49 525 x = tlT (f_X11_work 0 (s 1)) (f_X12_work 49 (s 1)) (hn1 14 (pu 1)) (k23 0 49 525 (x + 9)) := by
  simp only [f_L_law__b421, f_L_work, f_L_law__b474, f_L_law__b2771, h1, bd_pu]
  rfl
theorem k_4 (h1 : sL g (x + 1) = pu (s 1)) : f_L_law__b477 g k23 0 49 525 x = tlT (f_X11_words 0 (s 1)) (f_X12_words 49 (s 1)) (hn1 14 (pu 1)) (k23 0 49 525 (x + 9)) := by
  simp only [f_L_law__b477, f_L_words, f_L_law__b530, f_L_law__b2771, h1, bd_pu]
  rfl
theorem k_5 : f_L_law__b533 g k23 0 49 525 x = tlD (f_X11_fault 0 ) (f_X12_fault 49 ) (k23 0 49 525 (x + 9)) := by
  simp only [f_L_law__b533, f_L_law__b2771, bd_pu]
  rfl
theorem k_6 : f_L_law__b546 g k23 0 49 525 x = tlD (f_X11_undo 0 ) (f_X12_undo 49 ) (k23 0 49 525 (x + 9)) := by
  simp only [f_L_law__b546, f_L_law__b2771, bd_pu]
  rfl
theorem k_7 (h1 : sL g (x + 1) = pu (s 1)) : f_L_law__b559 g k23 0 49 525 x = tlT (f_X11_told 0 (s 1)) (f_X12_told 49 (s 1)) (hn1 14 (pu 1)) (k23 0 49 525 (x + 9)) := by
  simp only [f_L_law__b559, f_L_told, f_L_law__b612, f_L_law__b2771, h1, bd_pu]
  rfl
theorem k_8 (h1 : sL g (x + 1) = pu (s 1)) (h2 : sL g (x + 2) = pu (s 2)) : f_L_law__b615 g k23 0 49 525 x = tlT (f_X11_person 0 (s 1) (s 2)) (f_X12_person 49 (s 1) (s 2)) (hn2 (pu 1) (pu 2)) (k23 0 49 525 (x + 9)) := by
  simp only [f_L_law__b615, f_L_person, f_L_law__b680, f_L_law__b2771, h1, h2, bd_pu]
  rfl
theorem k_9 (h1 : sL g (x + 1) = pu (s 1)) (h2 : sL g (x + 2) = pu (s 2)) : f_L_law__b683 g k23 0 49 525 x = tlT (f_X11_plate 0 (s 1) (s 2)) (f_X12_plate 49 (s 1) (s 2)) (hn2 (pu 1) (pu 2)) (k23 0 49 525 (x + 9)) := by
  simp only [f_L_law__b683, f_L_plate, f_L_law__b748, f_L_law__b2771, h1, h2, bd_pu]
  rfl
theorem k_10 (h1 : sL g (x + 1) = pu (s 1)) (h2 : sL g (x + 2) = pu (s 2)) : f_L_law__b751 g k23 0 49 525 x = tlT (f_X11_hall 0 (s 1) (s 2)) (f_X12_hall 49 (s 1) (s 2)) (hn2 (pu 1) (pu 2)) (k23 0 49 525 (x + 9)) := by
  simp only [f_L_law__b751, f_L_hall, f_L_law__b816, f_L_law__b2771, h1, h2, bd_pu]
  rfl
theorem k_11 (h1 : sL g (x + 1) = pu (s 1)) (h2 : sL g (x + 2) = pu (s 2)) (h3 : sL g (x + 3) = pu (s 3)) : f_L_law__b819 g k23 0 49 525 x = tlT (f_X11_shown 0 (s 1) (s 2) (s 3)) (f_X12_shown 49 (s 1) (s 2) (s 3)) (hn1 13 (pu 1)) (k23 0 49 525 (x + 9)) := by
  simp only [f_L_law__b819, f_L_shown, f_L_law__b896, f_L_law__b2771, h1, h2, h3, bd_pu]
  rfl
theorem k_12 (h1 : sL g (x + 1) = pu (s 1)) (h2 : sL g (x + 2) = pu (s 2)) (h3 : sL g (x + 3) = pu (s 3)) (h4 : sL g (x + 4) = pu (s 4)) (h5 : sL g (x + 5) = pu (s 5)) (h6 : sL g (x + 6) = pu (s 6)) (h7 : sL g (x + 7) = pu (s 7)) (h8 : sL g (x + 8) = pu (s 8)) : f_L_law__b899 g k23 0 49 525 x = tlT (f_X11_would 0 (s 1) (s 2) (s 3) (s 4) (s 5) (s 6) (s 7) (s 8)) (f_X12_would 49 (s 1) (s 2) (s 3) (s 4) (s 5) (s 6) (s 7) (s 8)) (hn1 14 (pu 1)) (k23 0 49 525 (x + 9)) := by
  simp only [f_L_law__b899, f_L_would, f_L_law__b1042, f_L_law__b2771, h1, h2, h3, h4, h5, h6, h7, h8, bd_pu]
  rfl
theorem k_13 (h1 : sL g (x + 1) = pu (s 1)) (h2 : sL g (x + 2) = pu (s 2)) : f_L_law__b1045 g k23 0 49 525 x = tlT (f_X11_unlike 0 (s 1) (s 2)) (f_X12_unlike 49 (s 1) (s 2)) (hn1 14 (pu 1)) (k23 0 49 525 (x + 9)) := by
  simp only [f_L_law__b1045, f_L_unlike, f_L_law__b1110, f_L_law__b2771, h1, h2, bd_pu]
  rfl
theorem k_14 : f_L_law__b1113 g k23 0 49 525 x = tlD (f_X11_had 0 ) (f_X12_had 49 ) (k23 0 49 525 (x + 9)) := by
  simp only [f_L_law__b1113, f_L_law__b2771, bd_pu]
  rfl
theorem k_15 : f_L_law__b1126 g k23 0 49 525 x = tlD (f_X11_mistaken 0 ) (f_X12_mistaken 49 ) (k23 0 49 525 (x + 9)) := by
  simp only [f_L_law__b1126, f_L_law__b2771, bd_pu]
  rfl
theorem k_16 (h1 : sL g (x + 1) = pu (s 1)) : f_L_law__b1139 g k23 0 49 525 x = tlT (f_X11_can 0 (s 1)) (f_X12_can 49 (s 1)) (hn1 13 (pu 1)) (k23 0 49 525 (x + 9)) := by
  simp only [f_L_law__b1139, f_L_can, f_L_law__b1192, f_L_law__b2771, h1, bd_pu]
  rfl
theorem k_17 (h1 : sL g (x + 1) = pu (s 1)) : f_L_law__b1195 g k23 0 49 525 x = tlT (f_X11_fewest 0 (s 1)) (f_X12_fewest 49 (s 1)) (hn1 14 (pu 1)) (k23 0 49 525 (x + 9)) := by
  simp only [f_L_law__b1195, f_L_fewest, f_L_law__b1248, f_L_law__b2771, h1, bd_pu]
  rfl
theorem k_18 (h1 : sL g (x + 1) = pu (s 1)) : f_L_law__b1251 g k23 0 49 525 x = tlT (f_X11_nobody 0 (s 1)) (f_X12_nobody 49 (s 1)) (hn1 14 (pu 1)) (k23 0 49 525 (x + 9)) := by
  simp only [f_L_law__b1251, f_L_nobody, f_L_law__b1304, f_L_law__b2771, h1, bd_pu]
  rfl
theorem k_19 (h1 : sL g (x + 1) = pu (s 1)) (h2 : sL g (x + 2) = pu (s 2)) : f_L_law__b1307 g k23 0 49 525 x = tlT (f_X11_ring 0 (s 1) (s 2)) (f_X12_ring 49 (s 1) (s 2)) (hn1 14 (pu 1)) (k23 0 49 525 (x + 9)) := by
  simp only [f_L_law__b1307, f_L_ring, f_L_law__b1372, f_L_law__b2771, h1, h2, bd_pu]
  rfl
theorem k_20 (h1 : sL g (x + 1) = pu (s 1)) (h2 : sL g (x + 2) = pu (s 2)) : f_L_law__b1375 g k23 0 49 525 x = tlT (f_X11_who 0 (s 1) (s 2)) (f_X12_who 49 (s 1) (s 2)) (hn2 (pu 1) (pu 2)) (k23 0 49 525 (x + 9)) := by
  simp only [f_L_law__b1375, f_L_who, f_L_law__b1440, f_L_law__b2771, h1, h2, bd_pu]
  rfl
theorem k_21 (h1 : sL g (x + 1) = pu (s 1)) : f_L_law__b1443 g k23 0 49 525 x = tlT (f_X11_made 0 (s 1)) (f_X12_made 49 (s 1)) (hn1 14 (pu 1)) (k23 0 49 525 (x + 9)) := by
  simp only [f_L_law__b1443, f_L_made, f_L_law__b1496, f_L_law__b2771, h1, bd_pu]
  rfl
theorem k_22 (h1 : sL g (x + 1) = pu (s 1)) : f_L_law__b1499 g k23 0 49 525 x = tlT (f_X11_unknown 0 (s 1)) (f_X12_unknown 49 (s 1)) (hn1 14 (pu 1)) (k23 0 49 525 (x + 9)) := by
  simp only [f_L_law__b1499, f_L_unknown, f_L_law__b1552, f_L_law__b2771, h1, bd_pu]
  rfl
theorem k_23 (h1 : sL g (x + 1) = pu (s 1)) : f_L_law__b1555 g k23 0 49 525 x = tlT (f_X11_hold 0 (s 1)) (f_X12_hold 49 (s 1)) (hn1 14 (pu 1)) (k23 0 49 525 (x + 9)) := by
  simp only [f_L_law__b1555, f_L_hold, f_L_law__b1608, f_L_law__b2771, h1, bd_pu]
  rfl
theorem k_24 : f_L_law__b1611 g k23 0 49 525 x = tlD (f_X11_papers 0 ) (f_X12_papers 49 ) (k23 0 49 525 (x + 9)) := by
  simp only [f_L_law__b1611, f_L_law__b2771, bd_pu]
  rfl
theorem k_25 (h1 : sL g (x + 1) = pu (s 1)) : f_L_law__b1624 g k23 0 49 525 x = tlT (f_X11_paper 0 (s 1)) (f_X12_paper 49 (s 1)) (hn1 13 (pu 1)) (k23 0 49 525 (x + 9)) := by
  simp only [f_L_law__b1624, f_L_paper, f_L_law__b1677, f_L_law__b2771, h1, bd_pu]
  rfl
theorem k_26 (h1 : sL g (x + 1) = pu (s 1)) (h2 : sL g (x + 2) = pu (s 2)) (h3 : sL g (x + 3) = pu (s 3)) (h4 : sL g (x + 4) = pu (s 4)) : f_L_law__b1680 g k23 0 49 525 x = tlT (f_X11_bids 0 (s 1) (s 2) (s 3) (s 4)) (f_X12_bids 49 (s 1) (s 2) (s 3) (s 4)) (hn1 14 (pu 1)) (k23 0 49 525 (x + 9)) := by
  simp only [f_L_law__b1680, f_L_bids, f_L_law__b1769, f_L_law__b2771, h1, h2, h3, h4, bd_pu]
  rfl
theorem k_27 (h1 : sL g (x + 1) = pu (s 1)) (h2 : sL g (x + 2) = pu (s 2)) (h3 : sL g (x + 3) = pu (s 3)) : f_L_law__b1772 g k23 0 49 525 x = tlT (f_X11_share 0 (s 1) (s 2) (s 3)) (f_X12_share 49 (s 1) (s 2) (s 3)) (hn2 (pu 1) (pu 2)) (k23 0 49 525 (x + 9)) := by
  simp only [f_L_law__b1772, f_L_share, f_L_law__b1849, f_L_law__b2771, h1, h2, h3, bd_pu]
  rfl
theorem k_28 (h1 : sL g (x + 1) = pu (s 1)) : f_L_law__b1852 g k23 0 49 525 x = tlT (f_X11_busiest 0 (s 1)) (f_X12_busiest 49 (s 1)) (hn1 14 (pu 1)) (k23 0 49 525 (x + 9)) := by
  simp only [f_L_law__b1852, f_L_busiest, f_L_law__b1905, f_L_law__b2771, h1, bd_pu]
  rfl
theorem k_29 : f_L_law__b1908 g k23 0 49 525 x = tlD (f_X11_unseen 0 ) (f_X12_unseen 49 ) (k23 0 49 525 (x + 9)) := by
  simp only [f_L_law__b1908, f_L_law__b2771, bd_pu]
  rfl
theorem k_30 (h1 : sL g (x + 1) = pu (s 1)) : f_L_law__b1921 g k23 0 49 525 x = tlT (f_X11_where 0 (s 1)) (f_X12_where 49 (s 1)) (hn1 13 (pu 1)) (k23 0 49 525 (x + 9)) := by
  simp only [f_L_law__b1921, f_L_where, f_L_law__b1974, f_L_law__b2771, h1, bd_pu]
  rfl
theorem k_31 (h1 : sL g (x + 1) = pu (s 1)) : f_L_law__b1977 g k23 0 49 525 x = tlT (f_X11_twins 0 (s 1)) (f_X12_twins 49 (s 1)) (hn1 13 (pu 1)) (k23 0 49 525 (x + 9)) := by
  simp only [f_L_law__b1977, f_L_twins, f_L_law__b2030, f_L_law__b2771, h1, bd_pu]
  rfl
theorem k_32 (h1 : sL g (x + 1) = pu (s 1)) (h2 : sL g (x + 2) = pu (s 2)) : f_L_law__b2033 g k23 0 49 525 x = tlT (f_X11_chain 0 (s 1) (s 2)) (f_X12_chain 49 (s 1) (s 2)) (hn1 13 (pu 1)) (k23 0 49 525 (x + 9)) := by
  simp only [f_L_law__b2033, f_L_chain, f_L_law__b2098, f_L_law__b2771, h1, h2, bd_pu]
  rfl
theorem k_33 (h1 : sL g (x + 1) = pu (s 1)) (h2 : sL g (x + 2) = pu (s 2)) : f_L_law__b2101 g k23 0 49 525 x = tlT (f_X11_looks 0 (s 1) (s 2)) (f_X12_looks 49 (s 1) (s 2)) (hn2 (pu 1) (pu 2)) (k23 0 49 525 (x + 9)) := by
  simp only [f_L_law__b2101, f_L_looks, f_L_law__b2166, f_L_law__b2771, h1, h2, bd_pu]
  rfl
theorem k_34 (h1 : sL g (x + 1) = pu (s 1)) (h2 : sL g (x + 2) = pu (s 2)) : f_L_law__b2169 g k23 0 49 525 x = tlT (f_X11_cheapest 0 (s 1) (s 2)) (f_X12_cheapest 49 (s 1) (s 2)) (hn1 14 (pu 1)) (k23 0 49 525 (x + 9)) := by
  simp only [f_L_law__b2169, f_L_cheapest, f_L_law__b2234, f_L_law__b2771, h1, h2, bd_pu]
  rfl
theorem k_35 (h1 : sL g (x + 1) = pu (s 1)) : f_L_law__b2237 g k23 0 49 525 x = tlT (f_X11_common 0 (s 1)) (f_X12_common 49 (s 1)) (hn1 14 (pu 1)) (k23 0 49 525 (x + 9)) := by
  simp only [f_L_law__b2237, f_L_common, f_L_law__b2290, f_L_law__b2771, h1, bd_pu]
  rfl
theorem k_36 (h1 : sL g (x + 1) = pu (s 1)) (h2 : sL g (x + 2) = pu (s 2)) : f_L_law__b2293 g k23 0 49 525 x = tlT (f_X11_moodFor 0 (s 1) (s 2)) (f_X12_moodFor 49 (s 1) (s 2)) (hn1 13 (pu 1)) (k23 0 49 525 (x + 9)) := by
  simp only [f_L_law__b2293, f_L_moodFor, f_L_law__b2358, f_L_law__b2771, h1, h2, bd_pu]
  rfl
theorem k_37 (h1 : sL g (x + 1) = pu (s 1)) : f_L_law__b2361 g k23 0 49 525 x = tlT (f_X11_lost 0 (s 1)) (f_X12_lost 49 (s 1)) (hn1 13 (pu 1)) (k23 0 49 525 (x + 9)) := by
  simp only [f_L_law__b2361, f_L_lost, f_L_law__b2414, f_L_law__b2771, h1, bd_pu]
  rfl
theorem k_38 (h1 : sL g (x + 1) = pu (s 1)) (h2 : sL g (x + 2) = pu (s 2)) : f_L_law__b2417 g k23 0 49 525 x = tlT (f_X11_faces 0 (s 1) (s 2)) (f_X12_faces 49 (s 1) (s 2)) (hn2 (pu 1) (pu 2)) (k23 0 49 525 (x + 9)) := by
  simp only [f_L_law__b2417, f_L_faces, f_L_law__b2482, f_L_law__b2771, h1, h2, bd_pu]
  rfl
theorem k_39 (h1 : sL g (x + 1) = pu (s 1)) (h2 : sL g (x + 2) = pu (s 2)) (h3 : sL g (x + 3) = pu (s 3)) (h4 : sL g (x + 4) = pu (s 4)) : f_L_law__b2485 g k23 0 49 525 x = tlT (f_X11_years 0 (s 1) (s 2) (s 3) (s 4)) (f_X12_years 49 (s 1) (s 2) (s 3) (s 4)) (hn1 14 (pu 1)) (k23 0 49 525 (x + 9)) := by
  simp only [f_L_law__b2485, f_L_years, f_L_law__b2574, f_L_law__b2771, h1, h2, h3, h4, bd_pu]
  rfl
theorem k_40 (h1 : sL g (x + 1) = pu (s 1)) (h2 : sL g (x + 2) = pu (s 2)) (h3 : sL g (x + 3) = pu (s 3)) (h4 : sL g (x + 4) = pu (s 4)) (h5 : sL g (x + 5) = pu (s 5)) (h6 : sL g (x + 6) = pu (s 6)) : f_L_law__b2577 g k23 0 49 525 x = tlT (f_X11_span 0 (s 1) (s 2) (s 3) (s 4) (s 5) (s 6)) (f_X12_span 49 (s 1) (s 2) (s 3) (s 4) (s 5) (s 6)) (hn1 14 (pu 1)) (k23 0 49 525 (x + 9)) := by
  simp only [f_L_law__b2577, f_L_span, f_L_law__b2692, f_L_law__b2771, h1, h2, h3, h4, h5, h6, bd_pu]
  rfl
theorem k_41 : f_L_law__b2695 g k23 0 49 525 x = tlD (f_X11_image 0 ) (f_X12_image 49 ) (k23 0 49 525 (x + 9)) := by
  simp only [f_L_law__b2695, f_L_law__b2771, bd_pu]
  rfl
theorem k_42 : f_L_law__b2708 g k23 0 49 525 x = tlD (f_X11_restore 0 ) (f_X12_restore 49 ) (k23 0 49 525 (x + 9)) := by
  simp only [f_L_law__b2708, f_L_law__b2771, bd_pu]
  rfl
theorem k_43 (h1 : sL g (x + 1) = pu (s 1)) : f_L_law__b2721 g k23 0 49 525 x = tlD (f_X11_status 0 (s 1)) (f_X12_status 49 (s 1)) (k23 0 49 525 (x + 9)) := by
  simp only [f_L_law__b2721, f_L_law__b2771, h1, bd_pu]
  rfl
theorem k_44 (h1 : sL g (x + 1) = pu (s 1)) : f_L_law__b2746 g k23 0 49 525 x = tlD (f_X11_count 0 (s 1)) (f_X12_count 49 (s 1)) (k23 0 49 525 (x + 9)) := by
  simp only [f_L_law__b2746, f_L_law__b2771, h1, bd_pu]
  rfl
end BLK
