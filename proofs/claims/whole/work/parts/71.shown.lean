/-! PURE PART: what is shown, who can take whom, in both -/
section AG
variable {I I' : Is} {K : List Nat} {F : Fo} {A : At} {L : Lw} {e r o : Nat}
theorem FoC.ag (H : FoC I F) (h : Ag K I I') (hd : ∀ a ∈ K, 8 ≤ a) : FoC I' F := by
  have d : ∀ a, a < 8 → a ∉ K := fun a ha hk => by have := hd a hk; omega
  unfold FoC
  rw [h 3 (d 3 (by decide)), h 4 (d 4 (by decide)), h 5 (d 5 (by decide)), h 6 (d 6 (by decide)), h 7 (d 7 (by decide))]
  exact H
theorem LwC.ag (H : LwC I L) (h : Ag K I I') (h1 : 13 ∉ K) (h2 : 14 ∉ K) : LwC I' L := by
  unfold LwC
  rw [h 13 h1, h 14 h2]
  exact H
theorem StR.ag (H : StR I e A) (h : Ag K I I') (hd : ∀ a ∈ K, a < e ∨ e + 4 < a) : StR I' e A := by
  have d : ∀ a, e ≤ a → a ≤ e + 4 → a ∉ K := fun a ha hb hk => by have := hd a hk; omega
  unfold StR
  rw [h e (d e (by omega) (by omega)), h (e + 1) (d (e + 1) (by omega) (by omega)), h (e + 2) (d (e + 2) (by omega) (by omega)), h (e + 3) (d (e + 3) (by omega) (by omega)), h (e + 4) (d (e + 4) (by omega) (by omega))]
  exact H
theorem FoM.ag (H : FoM I F) (h8 : sz F ≤ 8) (h : Ag K I I') (hd : ∀ a ∈ K, a < 53 ∨ 73 < a) : FoM I' F := by
  have d : ∀ a, 53 ≤ a → a ≤ 73 → a ∉ K := fun a ha hb hk => by have := hd a hk; omega
  refine ⟨by rw [h 53 (d 53 (by omega) (by omega))]; exact H.1, by rw [h 53 (d 53 (by omega) (by omega))]; exact H.2.1, fun p hp => ?_⟩
  rw [h 55 (d 55 (by omega) (by omega)), h (66 + p) (d (66 + p) (by omega) (by omega))]
  exact H.2.2 p hp
theorem LwM.ag (H : LwM I L) (h150 : lwN L ≤ 150) (h : Ag K I I') (hd : ∀ a ∈ K, a ≠ 49 ∧ (a < 75 ∨ 234 < a)) : LwM I' L := by
  have d : ∀ a, 75 ≤ a → a ≤ 234 → a ∉ K := fun a ha hb hk => by have := hd a hk; omega
  have d2 : 49 ∉ K := fun hk => (hd 49 hk).1 rfl
  rcases H with ⟨h1, h2⟩ | ⟨h1, h2⟩
  · refine Or.inl ⟨by rw [h 49 d2]; exact h1, fun k hk => ?_⟩
    rw [h (75 + k) (d (75 + k) (by omega) (by omega))]
    exact h2 k hk
  · exact Or.inr ⟨by rw [h 49 d2]; exact h1, h2⟩
theorem RwR.ag (H : RwR I r o A) (h : Ag K I I') (hd : r ∉ K) : RwR I' r o A := by
  unfold RwR
  rw [h r hd]
  exact H
end AG
/-- a loop that folds x and changes scratch cells alone -/
theorem loopF {β γ : Type} (B : Nat → Nat → γ → Is → β) (e : Nat) (f : Nat → γ → γ) (x0 : γ) (I : Is) (K : List Nat) (Q : β → Prop)
    (hs : ∀ N i x I', i < e → Ag K I I' → ∃ I'', B (N + 1) i x I' = B N (i + 1) (f i x) I'' ∧ Ag K I I'')
    (he : ∀ N I', Ag K I I' → Q (B (N + 1) e (lp f e 0 x0) I')) {N : Nat} {I1 : Is} (hN : e < N) (h1 : Ag K I I1) : Q (B N 0 x0 I1) := by
  refine loopQ (fun N i (z : γ × Is) => B N i z.1 z.2) e (fun i z => z.1 = lp f i 0 x0 ∧ Ag K I z.2) Q ?_ ?_ e 0 (x0, I1) N (by omega) hN ⟨rfl, h1⟩
  · intro N i z hi ⟨hz, hA⟩
    obtain ⟨I'', e1, a1⟩ := hs N i z.1 z.2 hi hA
    refine Or.inl ⟨(f i z.1, I''), e1, ?_, a1⟩
    show f i z.1 = _
    rw [lp_end, Nat.zero_add, hz]
  · intro N z ⟨hz, hA⟩
    have := he N z.2 hA
    rw [← hz] at this
    exact this
def setG (I : Is) (r : Nat) (g : Nat → Int32) : Is := up2 (up2 (up2 (up2 (up2 (up2 (up2 (up2 I r 0 (g 0)) r 1 (g 1)) r 2 (g 2)) r 3 (g 3)) r 4 (g 4)) r 5 (g 5)) r 6 (g 6)) r 7 (g 7)
theorem setG_ag (I : Is) (r : Nat) (g : Nat → Int32) : Ag [r] I (setG I r g) := by
  unfold setG
  exact ((((((((Ag.refl [r] I).up (by simp)).up (by simp)).up (by simp)).up (by simp)).up (by simp)).up (by simp)).up (by simp)).up (by simp)
theorem setG_at (I : Is) (r : Nat) (g : Nat → Int32) (k : Nat) (hk : k < 8) : setG I r g r k = g k := by
  unfold setG
  have h : k = 0 ∨ k = 1 ∨ k = 2 ∨ k = 3 ∨ k = 4 ∨ k = 5 ∨ k = 6 ∨ k = 7 := by omega
  rcases h with h | h | h | h | h | h | h | h <;> subst h <;> simp [up2]
def gvn (F : Fo) (A : At) (a b : Nat) (h m : Int32) : Nat → Int32 := fun k => if k = 0 then nn (fa F a) else if k = 1 then nn (te F a) else if k = 2 then m else if k = 3 then nn (fa F b) else if k = 4 then (if a = b then 1 else 0) else if k = 5 then nn (yr A) else if k = 6 then nn (tk A a) else h
def faceB (F : Fo) (L : Lw) (A : At) (a b : Nat) (h m : Int32) : Int32 := lwR (gvn F A a b h m) L
theorem faceB_face (F : Fo) (L : Lw) (A : At) (a b : Nat) (h m : Int32) : ∃ f, f < 64 ∧ faceB F L A a b h m = nn f := lwR_face _ _
abbrev hasA (F : Fo) (L : Lw) (A : At) (a b : Nat) (m : Int32) : Prop := ¬ nev F a (nn b) ∧ alk F (faceB F L A a b 0 m) (nn (fa F b))
def canB (F : Fo) (L : Lw) (A : At) (b : Nat) : Int32 := lp (fun a x => if hasA F L A a b (nn (mo A a)) then x ||| ((1 : Int32) <<< (nn a &&& 31)) else x) (sz F) 0 0
section SHOWN
variable {w : Wd} {I : Is} {J : Js} {e : Nat} {F : Fo} {A : At} {L : Lw}
theorem c_faceBy (S : Sw w) (HF : FoC I F) (h8 : sz F ≤ 8) (T : StS w e) (he : 29 < e) (HA : StR I e A) (HL : LwC I L) (WL : LwW L) {a b : Nat} (ha : a < sz F) (hb : b < sz F) (h m : Int32) : ∃ I', f_X6_faceBy 28 e (nn a) (nn b) h m (st w I J) = some (.inl (faceB F L A a b h m), st w I' J) ∧ Ag [15, 29] I I' := by
  obtain ⟨I', e1, a1⟩ := c_faceFor (J := J) (I := setG I 29 (gvn F A a b h m)) S (HL.ag (setG_ag I 29 _) (by decide) (by decide)) WL (setG_at I 29 _)
  refine ⟨I', ?_, Ag.trans ((setG_ag I 29 _).mono (by decide)) (a1.mono (by decide))⟩
  rw [show faceB F L A a b h m = lwR (gvn F A a b h m) L from rfl]
  have e2 : setG I 29 (gvn F A a b h m) = up2 (up2 (up2 (up2 (up2 (up2 (up2 (up2 I 29 0 (nn (fa F a))) 29 1 (nn (te F a))) 29 2 m) 29 3 (nn (fa F b))) 29 4 (if a = b then 1 else 0)) 29 5 (nn (yr A))) 29 6 (nn (tk A a))) 29 7 h := rfl
  rw [e2] at e1
  by_cases hab : a = b
  · subst hab
    rw [if_pos rfl] at e1
    simp (disch := omega) only [bd_eq, pu_ap, if_true, if_false, not_true_eq_false, not_false_eq_true, eq_self, v_0 S, r_0_0 S, r_0_1 S, r_0_2 S, r_0_3 S, r_0_4 S, r_0_5 S, r_0_6 S, r_0_7 S, r_0_8 S, r_0_9 S, r_0_10 S, r_0_11 S, r_0_12 S, n_0_13 S, i_0_14 S, i_0_15 S, i_0_16 S, i_0_17 S, v_1 S, r_1_0 S, i_1_1 S, i_1_2 S, i_1_3 S, i_1_4 S, i_1_5 S, i_1_6 S, v_3 S, r_3_0 S, r_3_1 S, r_3_2 S, r_3_3 S, i_3_4 S, i_3_5 S, v_8 S, r_8_0 S, r_8_1 S, r_8_2 S, r_8_3 S, i_8_4 S, i_8_5 S, v_13 S, r_13_0 S, r_13_1 S, i_13_2 S, v_16 S, r_16_0 S, r_16_1 S, i_16_2 S, v_19 S, r_19_0 S, r_19_1 S, r_19_2 S, r_19_3 S, i_19_4 S, i_19_5 S, i_19_6 S, i_19_7 S, v_24 S, r_24_0 S, r_24_1 S, r_24_2 S, r_24_3 S, i_24_4 S, j_24_5 S, v_28 S, r_28_0 S, r_28_1 S, r_28_2 S, v_30 S, r_30_0 S, r_30_1 S, r_30_2 S, r_30_3 S, i_30_4 S, i_30_5 S, v_33 S, r_33_0 S, r_33_1 S, r_33_2 S, r_33_3 S, i_33_4 S, i_33_5 S, v_37 S, r_37_0 S, r_37_1 S, i_37_2 S, i_37_3 S, i_37_4 S, f_X6_faceBy, f_X6_faceBy_b68, l_4 S, l_5 S, up2_a, fc_fa HF, fc_te HF, s_29_0 S, s_29_1 S, s_29_2 S, s_29_3 S, s_29_4 S, s_29_5 S, s_29_6 S, s_29_7 S, e_i5 T, e_r1 T, e_l2 T, sr_yr HA, sr_tk HA, e1]
  · rw [if_neg hab] at e1
    simp (disch := omega) only [bd_eq, pu_ap, if_true, if_false, not_true_eq_false, not_false_eq_true, eq_self, v_0 S, r_0_0 S, r_0_1 S, r_0_2 S, r_0_3 S, r_0_4 S, r_0_5 S, r_0_6 S, r_0_7 S, r_0_8 S, r_0_9 S, r_0_10 S, r_0_11 S, r_0_12 S, n_0_13 S, i_0_14 S, i_0_15 S, i_0_16 S, i_0_17 S, v_1 S, r_1_0 S, i_1_1 S, i_1_2 S, i_1_3 S, i_1_4 S, i_1_5 S, i_1_6 S, v_3 S, r_3_0 S, r_3_1 S, r_3_2 S, r_3_3 S, i_3_4 S, i_3_5 S, v_8 S, r_8_0 S, r_8_1 S, r_8_2 S, r_8_3 S, i_8_4 S, i_8_5 S, v_13 S, r_13_0 S, r_13_1 S, i_13_2 S, v_16 S, r_16_0 S, r_16_1 S, i_16_2 S, v_19 S, r_19_0 S, r_19_1 S, r_19_2 S, r_19_3 S, i_19_4 S, i_19_5 S, i_19_6 S, i_19_7 S, v_24 S, r_24_0 S, r_24_1 S, r_24_2 S, r_24_3 S, i_24_4 S, j_24_5 S, v_28 S, r_28_0 S, r_28_1 S, r_28_2 S, v_30 S, r_30_0 S, r_30_1 S, r_30_2 S, r_30_3 S, i_30_4 S, i_30_5 S, v_33 S, r_33_0 S, r_33_1 S, r_33_2 S, r_33_3 S, i_33_4 S, i_33_5 S, v_37 S, r_37_0 S, r_37_1 S, i_37_2 S, i_37_3 S, i_37_4 S, f_X6_faceBy, f_X6_faceBy_b68, l_4 S, l_5 S, up2_a, fc_fa HF, fc_te HF, s_29_0 S, s_29_1 S, s_29_2 S, s_29_3 S, s_29_4 S, s_29_5 S, s_29_6 S, s_29_7 S, e_i5 T, e_r1 T, e_l2 T, sr_yr HA, sr_tk HA, nn_eq, hab, e1]
theorem m_shownBy (S : Sw w) (HF : FoM I F) (h8 : sz F ≤ 8) {r : Nat} (T : RoS w r) (hr : 415 < r) (HA : RwR I r 0 A) (HL : LwM I L) (WL : LwW L) {a b : Nat} (ha : a < sz F) (hb : b < sz F) (h : Int32) : ∃ I', f_X12_shownBy 49 r (nn a) (nn b) h (st w I J) = some (.inl (faceB F L A a b h (nn (mo A a))), st w I' J) ∧ Ag [414, 415] I I' := by
  obtain ⟨I', e1, a1⟩ := m_byLaw (J := J) (I := setG I 415 (gvn F A a b h (nn (mo A a)))) S (HL.ag WL.1 (setG_ag I 415 _) (by decide)) WL (setG_at I 415 _)
  refine ⟨I', ?_, Ag.trans ((setG_ag I 415 _).mono (by decide)) (a1.mono (by decide))⟩
  rw [show faceB F L A a b h (nn (mo A a)) = lwR (gvn F A a b h (nn (mo A a))) L from rfl]
  have e2 : setG I 415 (gvn F A a b h (nn (mo A a))) = up2 (up2 (up2 (up2 (up2 (up2 (up2 (up2 I 415 0 (nn (fa F a))) 415 1 (nn (te F a))) 415 2 (nn (mo A a))) 415 3 (nn (fa F b))) 415 4 (if a = b then 1 else 0)) 415 5 (nn (yr A))) 415 6 (nn (tk A a))) 415 7 h := rfl
  rw [e2] at e1
  by_cases hab : a = b
  · subst hab
    rw [if_pos rfl] at e1
    simp (disch := omega) only [bd_eq, pu_ap, if_true, if_false, not_true_eq_false, not_false_eq_true, eq_self, v_49 S, i_49_0 S, i_49_1 S, i_49_2 S, i_49_3 S, i_49_4 S, i_49_5 S, i_49_6 S, i_49_7 S, i_49_8 S, r_49_9 S, r_49_10 S, r_49_11 S, r_49_12 S, r_49_13 S, r_49_14 S, r_49_15 S, r_49_16 S, i_49_17 S, i_49_18 S, r_49_19 S, r_49_20 S, r_49_21 S, r_49_22 S, r_49_23 S, r_49_24 S, r_49_25 S, i_49_26 S, r_49_27 S, r_49_28 S, r_49_29 S, r_49_30 S, i_49_31 S, i_49_32 S, i_49_33 S, i_49_34 S, i_49_35 S, i_49_36 S, i_49_37 S, r_49_38 S, i_49_39 S, i_49_40 S, r_49_41 S, r_49_42 S, r_49_43 S, i_49_44 S, r_49_45 S, i_49_46 S, i_49_47 S, i_49_48 S, l_53_0 S, l_53_1 S, f_X12_shownBy, f_X12_shownBy_b62, f_X12_faceOf, g_65 S, l_66_0 S, l_66_1 S, up2_a, fm_fa HF, fm_te HF, s_415_0 S, s_415_1 S, s_415_2 S, s_415_3 S, s_415_4 S, s_415_5 S, s_415_6 S, s_415_7 S, ix0, ix8, o_l T, o_l27 T, rr_mo HA, rr_yr HA, rr_tk HA, e1]
  · rw [if_neg hab] at e1
    simp (disch := omega) only [bd_eq, pu_ap, if_true, if_false, not_true_eq_false, not_false_eq_true, eq_self, v_49 S, i_49_0 S, i_49_1 S, i_49_2 S, i_49_3 S, i_49_4 S, i_49_5 S, i_49_6 S, i_49_7 S, i_49_8 S, r_49_9 S, r_49_10 S, r_49_11 S, r_49_12 S, r_49_13 S, r_49_14 S, r_49_15 S, r_49_16 S, i_49_17 S, i_49_18 S, r_49_19 S, r_49_20 S, r_49_21 S, r_49_22 S, r_49_23 S, r_49_24 S, r_49_25 S, i_49_26 S, r_49_27 S, r_49_28 S, r_49_29 S, r_49_30 S, i_49_31 S, i_49_32 S, i_49_33 S, i_49_34 S, i_49_35 S, i_49_36 S, i_49_37 S, r_49_38 S, i_49_39 S, i_49_40 S, r_49_41 S, r_49_42 S, r_49_43 S, i_49_44 S, r_49_45 S, i_49_46 S, i_49_47 S, i_49_48 S, l_53_0 S, l_53_1 S, f_X12_shownBy, f_X12_shownBy_b62, f_X12_faceOf, g_65 S, l_66_0 S, l_66_1 S, up2_a, fm_fa HF, fm_te HF, s_415_0 S, s_415_1 S, s_415_2 S, s_415_3 S, s_415_4 S, s_415_5 S, s_415_6 S, s_415_7 S, ix0, ix8, o_l T, o_l27 T, rr_mo HA, rr_yr HA, rr_tk HA, nn_eq, hab, e1]
theorem c_hasAs (S : Sw w) (HF : FoC I F) (h8 : sz F ≤ 8) (T : StS w e) (he : 29 < e) (HA : StR I e A) (HL : LwC I L) (WL : LwW L) {a b : Nat} (ha : a < sz F) (hb : b < sz F) (m : Int32) : ∃ I', f_X6_hasAsHimself 28 e (nn a) (nn b) m (st w I J) = some (.inl (bI (hasA F L A a b m)), st w I' J) ∧ Ag [15, 29] I I' := by
  by_cases hn : nev F a (nn b)
  · refine ⟨I, ?_, Ag.refl _ _⟩
    have hh : ¬ hasA F L A a b m := fun h => h.1 hn
    rw [bI_f hh]
    simp (disch := omega) only [bd_eq, pu_ap, if_true, if_false, not_true_eq_false, not_false_eq_true, eq_self, v_0 S, r_0_0 S, r_0_1 S, r_0_2 S, r_0_3 S, r_0_4 S, r_0_5 S, r_0_6 S, r_0_7 S, r_0_8 S, r_0_9 S, r_0_10 S, r_0_11 S, r_0_12 S, n_0_13 S, i_0_14 S, i_0_15 S, i_0_16 S, i_0_17 S, v_1 S, r_1_0 S, i_1_1 S, i_1_2 S, i_1_3 S, i_1_4 S, i_1_5 S, i_1_6 S, v_3 S, r_3_0 S, r_3_1 S, r_3_2 S, r_3_3 S, i_3_4 S, i_3_5 S, v_8 S, r_8_0 S, r_8_1 S, r_8_2 S, r_8_3 S, i_8_4 S, i_8_5 S, v_13 S, r_13_0 S, r_13_1 S, i_13_2 S, v_16 S, r_16_0 S, r_16_1 S, i_16_2 S, v_19 S, r_19_0 S, r_19_1 S, r_19_2 S, r_19_3 S, i_19_4 S, i_19_5 S, i_19_6 S, i_19_7 S, v_24 S, r_24_0 S, r_24_1 S, r_24_2 S, r_24_3 S, i_24_4 S, j_24_5 S, v_28 S, r_28_0 S, r_28_1 S, r_28_2 S, v_30 S, r_30_0 S, r_30_1 S, r_30_2 S, r_30_3 S, i_30_4 S, i_30_5 S, v_33 S, r_33_0 S, r_33_1 S, r_33_2 S, r_33_3 S, i_33_4 S, i_33_5 S, v_37 S, r_37_0 S, r_37_1 S, i_37_2 S, i_37_3 S, i_37_4 S, f_X6_hasAsHimself, c_never S HF h8, bI_0, eq_true hn]
  · obtain ⟨I', e1, a1⟩ := c_faceBy (J := J) S HF h8 T he HA HL WL ha hb 0 m
    refine ⟨I', ?_, a1⟩
    have HF' := HF.ag a1 (by decide)
    by_cases hk : alk F (faceB F L A a b 0 m) (nn (fa F b))
    · rw [bI_t ⟨hn, hk⟩]
      simp (disch := omega) only [bd_eq, pu_ap, if_true, if_false, not_true_eq_false, not_false_eq_true, eq_self, v_0 S, r_0_0 S, r_0_1 S, r_0_2 S, r_0_3 S, r_0_4 S, r_0_5 S, r_0_6 S, r_0_7 S, r_0_8 S, r_0_9 S, r_0_10 S, r_0_11 S, r_0_12 S, n_0_13 S, i_0_14 S, i_0_15 S, i_0_16 S, i_0_17 S, v_1 S, r_1_0 S, i_1_1 S, i_1_2 S, i_1_3 S, i_1_4 S, i_1_5 S, i_1_6 S, v_3 S, r_3_0 S, r_3_1 S, r_3_2 S, r_3_3 S, i_3_4 S, i_3_5 S, v_8 S, r_8_0 S, r_8_1 S, r_8_2 S, r_8_3 S, i_8_4 S, i_8_5 S, v_13 S, r_13_0 S, r_13_1 S, i_13_2 S, v_16 S, r_16_0 S, r_16_1 S, i_16_2 S, v_19 S, r_19_0 S, r_19_1 S, r_19_2 S, r_19_3 S, i_19_4 S, i_19_5 S, i_19_6 S, i_19_7 S, v_24 S, r_24_0 S, r_24_1 S, r_24_2 S, r_24_3 S, i_24_4 S, j_24_5 S, v_28 S, r_28_0 S, r_28_1 S, r_28_2 S, v_30 S, r_30_0 S, r_30_1 S, r_30_2 S, r_30_3 S, i_30_4 S, i_30_5 S, v_33 S, r_33_0 S, r_33_1 S, r_33_2 S, r_33_3 S, i_33_4 S, i_33_5 S, v_37 S, r_37_0 S, r_37_1 S, i_37_2 S, i_37_3 S, i_37_4 S, f_X6_hasAsHimself, c_never S HF h8, bI_0, eq_false hn, e1, l_4 S, fc_fa HF', c_alike S HF', eq_true hk]
    · rw [bI_f (c := hasA F L A a b m) (fun h => hk h.2)]
      simp (disch := omega) only [bd_eq, pu_ap, if_true, if_false, not_true_eq_false, not_false_eq_true, eq_self, v_0 S, r_0_0 S, r_0_1 S, r_0_2 S, r_0_3 S, r_0_4 S, r_0_5 S, r_0_6 S, r_0_7 S, r_0_8 S, r_0_9 S, r_0_10 S, r_0_11 S, r_0_12 S, n_0_13 S, i_0_14 S, i_0_15 S, i_0_16 S, i_0_17 S, v_1 S, r_1_0 S, i_1_1 S, i_1_2 S, i_1_3 S, i_1_4 S, i_1_5 S, i_1_6 S, v_3 S, r_3_0 S, r_3_1 S, r_3_2 S, r_3_3 S, i_3_4 S, i_3_5 S, v_8 S, r_8_0 S, r_8_1 S, r_8_2 S, r_8_3 S, i_8_4 S, i_8_5 S, v_13 S, r_13_0 S, r_13_1 S, i_13_2 S, v_16 S, r_16_0 S, r_16_1 S, i_16_2 S, v_19 S, r_19_0 S, r_19_1 S, r_19_2 S, r_19_3 S, i_19_4 S, i_19_5 S, i_19_6 S, i_19_7 S, v_24 S, r_24_0 S, r_24_1 S, r_24_2 S, r_24_3 S, i_24_4 S, j_24_5 S, v_28 S, r_28_0 S, r_28_1 S, r_28_2 S, v_30 S, r_30_0 S, r_30_1 S, r_30_2 S, r_30_3 S, i_30_4 S, i_30_5 S, v_33 S, r_33_0 S, r_33_1 S, r_33_2 S, r_33_3 S, i_33_4 S, i_33_5 S, v_37 S, r_37_0 S, r_37_1 S, i_37_2 S, i_37_3 S, i_37_4 S, f_X6_hasAsHimself, c_never S HF h8, bI_0, eq_false hn, e1, l_4 S, fc_fa HF', c_alike S HF', eq_false hk]
theorem c_takersOf (S : Sw w) (HF : FoC I F) (h8 : sz F ≤ 8) (T : StS w e) (he : 29 < e) (HA : StR I e A) (HL : LwC I L) (WL : LwW L) {b : Nat} (hb : b < sz F) : ∃ I', f_X6_takersOf 28 e (nn b) (st w I J) = some (.inl (canB F L A b), st w I' J) ∧ Ag [15, 29] I I' := by
  unfold f_X6_takersOf
  refine loopF (fun N a x I' => f_X6_takersOf_b5 N 28 e (nn b) x (nn a) (st w I' J)) (sz F) (fun a x => if hasA F L A a b (nn (mo A a)) then x ||| ((1 : Int32) <<< (nn a &&& 31)) else x) 0 I [15, 29] (fun z => ∃ I', z = some (.inl (canB F L A b), st w I' J) ∧ Ag [15, 29] I I') ?_ ?_ (NF_gt (by omega)) (Ag.refl _ _)
  · intro N a x I1 ha a1
    have HF1 := HF.ag a1 (by decide)
    have HA1 := HA.ag a1 (by intro q hq; simp at hq; omega)
    have HL1 := HL.ag a1 (by decide) (by decide)
    obtain ⟨I2, e2, a2⟩ := c_hasAs (J := J) S HF1 h8 T he HA1 HL1 WL ha hb (nn (mo A a))
    refine ⟨I2, ?_, a1.trans a2⟩
    have hn : ¬ sz F ≤ a := by omega
    by_cases hc : hasA F L A a b (nn (mo A a))
    · rw [bI_t hc] at e2
      simp (disch := omega) only [bd_eq, pu_ap, if_true, if_false, not_true_eq_false, not_false_eq_true, eq_self, v_0 S, r_0_0 S, r_0_1 S, r_0_2 S, r_0_3 S, r_0_4 S, r_0_5 S, r_0_6 S, r_0_7 S, r_0_8 S, r_0_9 S, r_0_10 S, r_0_11 S, r_0_12 S, n_0_13 S, i_0_14 S, i_0_15 S, i_0_16 S, i_0_17 S, v_1 S, r_1_0 S, i_1_1 S, i_1_2 S, i_1_3 S, i_1_4 S, i_1_5 S, i_1_6 S, v_3 S, r_3_0 S, r_3_1 S, r_3_2 S, r_3_3 S, i_3_4 S, i_3_5 S, v_8 S, r_8_0 S, r_8_1 S, r_8_2 S, r_8_3 S, i_8_4 S, i_8_5 S, v_13 S, r_13_0 S, r_13_1 S, i_13_2 S, v_16 S, r_16_0 S, r_16_1 S, i_16_2 S, v_19 S, r_19_0 S, r_19_1 S, r_19_2 S, r_19_3 S, i_19_4 S, i_19_5 S, i_19_6 S, i_19_7 S, v_24 S, r_24_0 S, r_24_1 S, r_24_2 S, r_24_3 S, i_24_4 S, j_24_5 S, v_28 S, r_28_0 S, r_28_1 S, r_28_2 S, v_30 S, r_30_0 S, r_30_1 S, r_30_2 S, r_30_3 S, i_30_4 S, i_30_5 S, v_33 S, r_33_0 S, r_33_1 S, r_33_2 S, r_33_3 S, i_33_4 S, i_33_5 S, v_37 S, r_37_0 S, r_37_1 S, i_37_2 S, i_37_3 S, i_37_4 S, f_X6_takersOf_b5, f_X6_takersOf_b42, fc_sz HF1, nn_le, hn, e_r0 T, e_l1 T, sr_mo HA1, e2, show ((1 : Int32) = 0) = False from by decide, eq_true hc, nn_succ]
    · rw [bI_f hc] at e2
      simp (disch := omega) only [bd_eq, pu_ap, if_true, if_false, not_true_eq_false, not_false_eq_true, eq_self, v_0 S, r_0_0 S, r_0_1 S, r_0_2 S, r_0_3 S, r_0_4 S, r_0_5 S, r_0_6 S, r_0_7 S, r_0_8 S, r_0_9 S, r_0_10 S, r_0_11 S, r_0_12 S, n_0_13 S, i_0_14 S, i_0_15 S, i_0_16 S, i_0_17 S, v_1 S, r_1_0 S, i_1_1 S, i_1_2 S, i_1_3 S, i_1_4 S, i_1_5 S, i_1_6 S, v_3 S, r_3_0 S, r_3_1 S, r_3_2 S, r_3_3 S, i_3_4 S, i_3_5 S, v_8 S, r_8_0 S, r_8_1 S, r_8_2 S, r_8_3 S, i_8_4 S, i_8_5 S, v_13 S, r_13_0 S, r_13_1 S, i_13_2 S, v_16 S, r_16_0 S, r_16_1 S, i_16_2 S, v_19 S, r_19_0 S, r_19_1 S, r_19_2 S, r_19_3 S, i_19_4 S, i_19_5 S, i_19_6 S, i_19_7 S, v_24 S, r_24_0 S, r_24_1 S, r_24_2 S, r_24_3 S, i_24_4 S, j_24_5 S, v_28 S, r_28_0 S, r_28_1 S, r_28_2 S, v_30 S, r_30_0 S, r_30_1 S, r_30_2 S, r_30_3 S, i_30_4 S, i_30_5 S, v_33 S, r_33_0 S, r_33_1 S, r_33_2 S, r_33_3 S, i_33_4 S, i_33_5 S, v_37 S, r_37_0 S, r_37_1 S, i_37_2 S, i_37_3 S, i_37_4 S, f_X6_takersOf_b5, f_X6_takersOf_b42, fc_sz HF1, nn_le, hn, e_r0 T, e_l1 T, sr_mo HA1, e2, eq_false hc, nn_succ]
  · intro N I1 a1
    have HF1 := HF.ag a1 (by decide)
    refine ⟨I1, ?_, a1⟩
    simp (disch := omega) only [bd_eq, pu_ap, if_true, if_false, not_true_eq_false, not_false_eq_true, eq_self, v_0 S, r_0_0 S, r_0_1 S, r_0_2 S, r_0_3 S, r_0_4 S, r_0_5 S, r_0_6 S, r_0_7 S, r_0_8 S, r_0_9 S, r_0_10 S, r_0_11 S, r_0_12 S, n_0_13 S, i_0_14 S, i_0_15 S, i_0_16 S, i_0_17 S, v_1 S, r_1_0 S, i_1_1 S, i_1_2 S, i_1_3 S, i_1_4 S, i_1_5 S, i_1_6 S, v_3 S, r_3_0 S, r_3_1 S, r_3_2 S, r_3_3 S, i_3_4 S, i_3_5 S, v_8 S, r_8_0 S, r_8_1 S, r_8_2 S, r_8_3 S, i_8_4 S, i_8_5 S, v_13 S, r_13_0 S, r_13_1 S, i_13_2 S, v_16 S, r_16_0 S, r_16_1 S, i_16_2 S, v_19 S, r_19_0 S, r_19_1 S, r_19_2 S, r_19_3 S, i_19_4 S, i_19_5 S, i_19_6 S, i_19_7 S, v_24 S, r_24_0 S, r_24_1 S, r_24_2 S, r_24_3 S, i_24_4 S, j_24_5 S, v_28 S, r_28_0 S, r_28_1 S, r_28_2 S, v_30 S, r_30_0 S, r_30_1 S, r_30_2 S, r_30_3 S, i_30_4 S, i_30_5 S, v_33 S, r_33_0 S, r_33_1 S, r_33_2 S, r_33_3 S, i_33_4 S, i_33_5 S, v_37 S, r_37_0 S, r_37_1 S, i_37_2 S, i_37_3 S, i_37_4 S, f_X6_takersOf_b5, fc_sz HF1, Int32.le_refl]
    rfl
theorem m_canOf (S : Sw w) (HF : FoM I F) (WF : FoW F) (HA : RwR I 497 0 A) (HL : LwM I L) (WL : LwW L) {b : Nat} (hb : b < sz F) : ∃ I', f_X12_canOf 49 (nn b) (st w I J) = some (.inl (canB F L A b), st w I' J) ∧ Ag [414, 415] I I' := by
  have h8 := WF.1
  unfold f_X12_canOf
  refine loopF (fun N a x I' => f_X12_canOf_b4 N 49 (nn b) x (nn a) (st w I' J)) (sz F) (fun a x => if hasA F L A a b (nn (mo A a)) then x ||| ((1 : Int32) <<< (nn a &&& 31)) else x) 0 I [414, 415] (fun z => ∃ I', z = some (.inl (canB F L A b), st w I' J) ∧ Ag [414, 415] I I') ?_ ?_ (NF_gt (by omega)) (Ag.refl _ _)
  · intro N a x I1 ha a1
    have HF1 := HF.ag h8 a1 (by decide)
    have HA1 := HA.ag a1 (by decide)
    have HL1 := HL.ag WL.1 a1 (by decide)
    have hn : ¬ sz F ≤ a := by omega
    by_cases hv : nev F a (nn b)
    · refine ⟨I1, ?_, a1⟩
      have hc : ¬ hasA F L A a b (nn (mo A a)) := fun h => h.1 hv
      simp (disch := omega) only [bd_eq, pu_ap, if_true, if_false, not_true_eq_false, not_false_eq_true, eq_self, v_49 S, i_49_0 S, i_49_1 S, i_49_2 S, i_49_3 S, i_49_4 S, i_49_5 S, i_49_6 S, i_49_7 S, i_49_8 S, r_49_9 S, r_49_10 S, r_49_11 S, r_49_12 S, r_49_13 S, r_49_14 S, r_49_15 S, r_49_16 S, i_49_17 S, i_49_18 S, r_49_19 S, r_49_20 S, r_49_21 S, r_49_22 S, r_49_23 S, r_49_24 S, r_49_25 S, i_49_26 S, r_49_27 S, r_49_28 S, r_49_29 S, r_49_30 S, i_49_31 S, i_49_32 S, i_49_33 S, i_49_34 S, i_49_35 S, i_49_36 S, i_49_37 S, r_49_38 S, i_49_39 S, i_49_40 S, r_49_41 S, r_49_42 S, r_49_43 S, i_49_44 S, r_49_45 S, i_49_46 S, i_49_47 S, i_49_48 S, l_53_0 S, l_53_1 S, f_X12_canOf_b4, f_X12_canOf_b57, f_X12_canOf_b58, fm_sz HF1, nn_le, hn, l_55 S, fm_sy HF1, m_has, bI_0, eq_true hv, eq_false hc, nn_succ, Int32.or_zero]
    · obtain ⟨I2, e2, a2⟩ := m_shownBy (J := J) S HF1 h8 (RoS_497 S) (by decide) HA1 HL1 WL ha hb 0
      have HF2 := HF1.ag h8 a2 (by decide)
      refine ⟨I2, ?_, a1.trans a2⟩
      obtain ⟨f, hf, ef⟩ := faceB_face F L A a b 0 (nn (mo A a))
      have hfb := (WF.2.2 b hb).1
      by_cases hk : alk F (faceB F L A a b 0 (nn (mo A a))) (nn (fa F b))
      · have hc : hasA F L A a b (nn (mo A a)) := ⟨hv, hk⟩
        rw [ef] at e2 hk
        simp (disch := omega) only [bd_eq, pu_ap, if_true, if_false, not_true_eq_false, not_false_eq_true, eq_self, v_49 S, i_49_0 S, i_49_1 S, i_49_2 S, i_49_3 S, i_49_4 S, i_49_5 S, i_49_6 S, i_49_7 S, i_49_8 S, r_49_9 S, r_49_10 S, r_49_11 S, r_49_12 S, r_49_13 S, r_49_14 S, r_49_15 S, r_49_16 S, i_49_17 S, i_49_18 S, r_49_19 S, r_49_20 S, r_49_21 S, r_49_22 S, r_49_23 S, r_49_24 S, r_49_25 S, i_49_26 S, r_49_27 S, r_49_28 S, r_49_29 S, r_49_30 S, i_49_31 S, i_49_32 S, i_49_33 S, i_49_34 S, i_49_35 S, i_49_36 S, i_49_37 S, r_49_38 S, i_49_39 S, i_49_40 S, r_49_41 S, r_49_42 S, r_49_43 S, i_49_44 S, r_49_45 S, i_49_46 S, i_49_47 S, i_49_48 S, l_53_0 S, l_53_1 S, f_X12_canOf_b4, f_X12_canOf_b57, f_X12_canOf_b58, fm_sz HF1, nn_le, hn, l_55 S, fm_sy HF1, m_has, bI_0, eq_false hv, e2, m_faceOf S HF2 h8, m_alike S HF2 hf hfb, eq_true hk, eq_true hc, nn_succ]
      · have hc : ¬ hasA F L A a b (nn (mo A a)) := fun h => hk h.2
        rw [ef] at e2 hk
        simp (disch := omega) only [bd_eq, pu_ap, if_true, if_false, not_true_eq_false, not_false_eq_true, eq_self, v_49 S, i_49_0 S, i_49_1 S, i_49_2 S, i_49_3 S, i_49_4 S, i_49_5 S, i_49_6 S, i_49_7 S, i_49_8 S, r_49_9 S, r_49_10 S, r_49_11 S, r_49_12 S, r_49_13 S, r_49_14 S, r_49_15 S, r_49_16 S, i_49_17 S, i_49_18 S, r_49_19 S, r_49_20 S, r_49_21 S, r_49_22 S, r_49_23 S, r_49_24 S, r_49_25 S, i_49_26 S, r_49_27 S, r_49_28 S, r_49_29 S, r_49_30 S, i_49_31 S, i_49_32 S, i_49_33 S, i_49_34 S, i_49_35 S, i_49_36 S, i_49_37 S, r_49_38 S, i_49_39 S, i_49_40 S, r_49_41 S, r_49_42 S, r_49_43 S, i_49_44 S, r_49_45 S, i_49_46 S, i_49_47 S, i_49_48 S, l_53_0 S, l_53_1 S, f_X12_canOf_b4, f_X12_canOf_b57, f_X12_canOf_b58, fm_sz HF1, nn_le, hn, l_55 S, fm_sy HF1, m_has, bI_0, eq_false hv, e2, m_faceOf S HF2 h8, m_alike S HF2 hf hfb, eq_false hk, eq_false hc, nn_succ, Int32.or_zero]
  · intro N I1 a1
    have HF1 := HF.ag h8 a1 (by decide)
    refine ⟨I1, ?_, a1⟩
    simp (disch := omega) only [bd_eq, pu_ap, if_true, if_false, not_true_eq_false, not_false_eq_true, eq_self, v_49 S, i_49_0 S, i_49_1 S, i_49_2 S, i_49_3 S, i_49_4 S, i_49_5 S, i_49_6 S, i_49_7 S, i_49_8 S, r_49_9 S, r_49_10 S, r_49_11 S, r_49_12 S, r_49_13 S, r_49_14 S, r_49_15 S, r_49_16 S, i_49_17 S, i_49_18 S, r_49_19 S, r_49_20 S, r_49_21 S, r_49_22 S, r_49_23 S, r_49_24 S, r_49_25 S, i_49_26 S, r_49_27 S, r_49_28 S, r_49_29 S, r_49_30 S, i_49_31 S, i_49_32 S, i_49_33 S, i_49_34 S, i_49_35 S, i_49_36 S, i_49_37 S, r_49_38 S, i_49_39 S, i_49_40 S, r_49_41 S, r_49_42 S, r_49_43 S, i_49_44 S, r_49_45 S, i_49_46 S, i_49_47 S, i_49_48 S, l_53_0 S, l_53_1 S, f_X12_canOf_b4, fm_sz HF1, Int32.le_refl]
    rfl
end SHOWN
