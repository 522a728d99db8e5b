/-! PURE PART: the model reads the steps -/
theorem rb_in {α β : Type} (v : α) (f : α → Er ⊕ β) : rb (.inr v) f = f v := rfl
def IP (z o c : Nat) (I0 I : Is) : Prop := I 49 8 = nn o ∧ I 49 26 = nn (c + 1) ∧ (∀ k, k < c → I (417 + k) = I0 (417 + k)) ∧ I 53 0 = nn z
def RsM (w : Wd) (J : Js) (b : Nat → Nat) (n z : Nat) (rec : Nat → Mo Unit) (sub : Nat → Nat → (Nat → Rc) → WR) (o : Nat) : Prop := ∀ p c f I, p ≤ n → 5 * c ≤ p → MT b n p I → I 49 8 = nn o → I 49 26 = nn c → I 53 0 = nn z → MR w J b n WL I (rec 49 (st w I J)) (sub p c f) (PM b n o c I)
section MSTEP
variable {w : Wd} {I I0 : Is} {J : Js} {b : Nat → Nat} {n p z c o : Nat} {f : Nat → Rc}
theorem IP.ma {I' : Is} (H : IP z o c I0 I) (h : MA I I') : IP z o c I0 I' := ⟨by rw [h.2 8 (by decide) (by decide) (by decide)]; exact H.1, by rw [h.2 26 (by decide) (by decide) (by decide)]; exact H.2.1, fun k hk => by rw [ma_row h k]; exact H.2.2.1 k hk, by rw [h.1 53 (by decide)]; exact H.2.2.2⟩
theorem IP.up {j : Nat} {v : Int32} (H : IP z o c I0 I) : IP z o c I0 (up2 I (417 + c) j v) := ⟨by rw [up2_a (by omega)]; exact H.1, by rw [up2_a (by omega)]; exact H.2.1, fun k hk => by rw [up2_ra (by omega)]; exact H.2.2.1 k hk, by rw [up2_a (by omega)]; exact H.2.2.2⟩
theorem row_u {I1 : Is} {j j' : Nat} {v : Int32} (h : MA I I1) (hj : j' ≠ j) : up2 I1 (417 + c) j v (417 + c) j' = I (417 + c) j' := by
  rw [up2_k hj, ma_row h c]
theorem smR_0 {q : Nat} : rb (smR b n z 0 q c f) (enR b n) = rb (nuR b n z q) fun v => rb (nuR b n z v.2) fun u => rb (nuR b n 6 u.2) fun t => enR b n (t.2, c + 1, upF f c (0, v.1, u.1, t.1, c + 1)) := by
  unfold smR nmR
  rw [if_pos rfl]
  simp only [rb_as, rb_in]
theorem smR_1 {q : Nat} : rb (smR b n z 1 q c f) (enR b n) = rb (nuR b n z q) fun v => rb (nuR b n 10 v.2) fun u => enR b n (u.2, c + 1, upF f c (1, v.1, u.1, 0, c + 1)) := by
  unfold smR nmR
  rw [if_neg (by decide), if_pos rfl]
  simp only [rb_as, rb_in]
theorem smR_2 {q : Nat} : rb (smR b n z 2 q c f) (enR b n) = rb (nuR b n 6 q) fun v => enR b n (v.2, c + 1, upF f c (2, 0, 0, v.1, c + 1)) := by
  unfold smR nmR
  rw [if_neg (by decide), if_neg (by decide), if_pos rfl]
  simp only [rb_as, rb_in]
theorem smR_3 {q : Nat} : rb (smR b n z 3 q c f) (enR b n) = enR b n (q, c + 1, upF f c (3, 0, 0, 0, c + 1)) := by
  unfold smR nmR
  rw [if_neg (by decide), if_neg (by decide), if_neg (by decide)]
  rfl
theorem agR_4 {rc : Nat → Nat → Nat → (Nat → Rc) → WR} {q : Nat} : rb (agR rc b n o q c f) (enR b n) = rb (nuR b n 31 q) fun v => rb (sgR b n 91 v.2) fun t => rb (rc (o + 1) t (c + 1) f) fun u => rb (sgR b n 93 u.1) fun t => enR b n (t, u.2.1, upF u.2.2 c (4, v.1, 0, 0, u.2.1)) := by
  unfold agR
  simp only [rb_as, rb_in]
section MSREC
variable {rec : Nat → Mo Unit} {rc : Nat → Nat → Nat → (Nat → Rc) → WR}
theorem mw_inL (S : Sw w) (W : TxW b n) (hn : n ≤ 150) (hs : RsM w J b n z rec (spR rc b n z (o + 1)) (o + 1)) (hX : ∀ p c f u, p ≤ n → spR rc b n z (o + 1) p c f = .inr u → WX 5 n p c f u) (hc : c < 80) {a : Nat} : ∀ d p c1 f I N, n < 5 * d + p → d + 1 < N → p ≤ n → 5 * c1 ≤ p → c < c1 → MT b n p I → I 49 4 = nn (sk b n p) → I 49 8 = nn (o + 1) → I 49 26 = nn c1 → (∀ k, k < c → I (417 + k) = I0 (417 + k)) → I 53 0 = nn z → I (417 + c) 0 = nn 4 → I (417 + c) 1 = nn a → (∀ k, c < k → k < c1 → RkM I k (f k)) → MR w J b n WL I (f_X12_readsStep_b167 rec N 49 (417 + c) (st w I J)) (rb (ssR rc b n z (o + 1) d p c1 f) fun u => rb (sgR b n 93 u.1) fun t => enR b n (t, u.2.1, upF u.2.2 c (4, a, 0, 0, u.2.1))) (PM b n o c I0) := by
  have hn6 := W.1
  intro d
  induction d with
  | zero => intro p c1 f I N h1 h2 h3; omega
  | succ d ih =>
    intro p c1 f I N hd hN hp hc1 hcc C h4 h8 h26 hlow h53 hr0 hr1 hin
    obtain ⟨N, rfl⟩ : ∃ M, N = M + 2 := ⟨N - 2, by omega⟩
    have g := sk_ge (b := b) hp
    have i5 := i_49_5 (I := I) (J := J) S
    rw [C.2.1] at i5
    have i4 := i_49_4 (I := I) (J := J) S
    rw [h4] at i4
    have by0 := (v_49 S (F := f_X12_byteAt 49 (nn (sk b n p)))).trans (m_byte (J := J) S C.1 hn6 (show sk b n p < 100000 by omega))
    have q93 : (byM b n (sk b n p) = (93 : Int32)) = sgP b n 93 p := byM_eq (x := 93) W (by decide) _
    unfold ssR
    rw [show N + 2 = N + 1 + 1 from rfl, f_X12_readsStep_b167, bd_st i5, if_pos rfl, bd_st i4, bd_st by0]
    by_cases h : sgP b n 93 p
    · rw [if_pos (show enP b n (o + 1) p from Or.inr ⟨by omega, h⟩), if_pos (by rw [q93]; exact h), f_X12_readsStep_b198]
      show MR w J b n WL I _ (rb (sgR b n 93 p) fun t => enR b n (t, c1, upF f c (4, a, 0, 0, c1))) _
      refine MR.bd WL.trans (mw_sign (x := 93) S W C (by decide)) (fun r I X => ?_) fun t I1 et a1 Q1 => ?_
      · obtain ⟨I1, e1, a1, c1⟩ := kw_214 (J := J) S hc rec r (up2 I 49 8 (I 49 8 - 1)) X.u8
        refine ⟨I1, ?_, ((WL.refl I).u8).trans a1, c1⟩
        rw [bd_st (i_49_8 S), bd_st (w_49_8 S)]
        exact e1
      · obtain ⟨a1', C1⟩ := Q1
        have j8 := i_49_8 (I := I1) (J := J) S
        rw [a1'.2 8 (by decide) (by decide) (by decide), h8] at j8
        rw [bd_st j8, nn_pred (by omega), Nat.add_sub_cancel, bd_st (w_49_8 S)]
        have row : ∀ k, up2 I1 49 8 (nn o) (417 + k) = I (417 + k) := fun k => by rw [up2_ra (by omega), ma_row a1' k]
        refine MR.pre WL.trans ((WL.refl I1).u8 (v := nn o)) ?_
        refine mw_214 S W rec hc rfl rfl C1.u8 up2_s ?_ hcc (fun k hk => by rw [row k]; exact hlow k hk) (fun k k1 k2 => (hin k k1 k2).row (row k)) ?_
        · rw [up2_k (by decide), a1'.2 26 (by decide) (by decide) (by decide)]; exact h26
        · rw [row c]
          exact ⟨hr0, fun _ => hr1, fun x => absurd x (by simp [rK]), fun x => absurd x (by simp [rK])⟩
    · rw [if_neg (by
        rintro (x | x)
        · exact absurd x.1 (by omega)
        · exact h x.2 : ¬ enP b n (o + 1) p), if_neg (by rw [q93]; exact h), rb_as]
      refine MR.bd WL.trans (mcv S (hs p c1 f I hp hc1 C h8 h26 h53)) (SKP.bd WL.trans (kw_bl S W) (kw_167 S hc rec (by omega))) fun u I1 eu a1 Q1 => ?_
      obtain ⟨x1, x2, x3, x4, x5⟩ := hX p c1 f u hp eu
      obtain ⟨y1, y2, y3, y4, y5⟩ := Q1
      obtain ⟨I2, e2, a2, c2, p2⟩ := m_blR (J := J) S W y1
      rw [bd_st ((v_49 S).trans e2)]
      refine MR.pre WL.trans a2.wl ?_
      have row : ∀ k, k < c1 → I2 (417 + k) = I (417 + k) := fun k hk => by rw [ma_row a2 k, y4 k hk]
      refine ih u.1 u.2.1 u.2.2 I2 (N + 1) (by omega) (by omega) x2 (by omega) (by omega) c2 p2 ?_ ?_ (fun k hk => by rw [row k (by omega)]; exact hlow k hk) ?_ ?_ ?_ (fun k k1 k2 => ?_)
      · rw [a2.2 8 (by decide) (by decide) (by decide)]; exact y2
      · rw [a2.2 26 (by decide) (by decide) (by decide)]; exact y3
      · rw [a2.1 53 (by decide), a1.1 53 (by decide) (by decide)]; exact h53
      · rw [row c hcc]; exact hr0
      · rw [row c hcc]; exact hr1
      · by_cases e : k < c1
        · rw [x5 k e]
          exact (hin k k1 e).row (row k e)
        · exact (y5 k (by omega) k2).row (ma_row a2 k)
theorem m_stepR (S : Sw w) (W : TxW b n) (hn : n ≤ 150) (hz : z ≤ 8) {rc0 : Nat → Nat → Nat → (Nat → Rc) → WR} (hrc : o < 6 → ∀ t c f, rc (o + 1) t c f = ssR rc0 b n z (o + 1) 31 t c f) (hs : o < 6 → RsM w J b n z rec (spR rc0 b n z (o + 1)) (o + 1)) (hX : ∀ p c f u, p ≤ n → spR rc0 b n z (o + 1) p c f = .inr u → WX 5 n p c f u) (ho : o ≤ 6) : RsM w J b n z (f_X12_readsStep rec) (spR rc b n z o) o := by
  intro p c f I hp hc C h8 h26 h53
  have g := sk_ge (b := b) hp
  unfold spR
  rw [f_X12_readsStep]
  cases h : wdR b n 2 wl2 p with
  | inl r =>
    obtain ⟨hr0, hw⟩ := wd_n (b := b) (n := n) (p := p) (l := wl2) sg_2 h
    obtain ⟨I1, e1, a1, c1, p1⟩ := m_shI (J := J) S W C hw
    have i4 := i_49_4 (I := I1) (J := J) S
    rw [p1] at i4
    obtain ⟨I2, e2, a2, X2⟩ := m_wrR (J := J) S c1 (x := 1) (by decide) (sk b n p)
    rw [hr0]
    refine ⟨I2, ?_, (a1.trans a2).wl, X2⟩
    rw [bd_st ((v_49 S).trans e1), if_pos rfl, bd_st i4, bd_st ((v_49 S).trans e2), f_X12_readsStep_b19, if_neg (by decide), f_X12_readsStep_b32, bd_st (i_49_5 S), if_neg (mx5 X2)]
    rfl
  | inr v =>
    obtain ⟨w1, w2, w3, w5⟩ := wd_c (b := b) (n := n) (p := p) (l := wl2) sg_2 cd_2 h
    obtain ⟨w4, v5⟩ := wd_4 h
    have wn := wdR_n hp h
    have hc30 : c < 30 := by omega
    have hc80 : c < 80 := by omega
    obtain ⟨I1, e1, a1, c1, p1⟩ := m_shO (J := J) S W C v5 w5
    have q4 : (nn v.1 = (4 : Int32)) = (v.1 = 4) := nn_eq (b := 4) (by omega) (by decide)
    rw [bd_st ((v_49 S).trans e1), if_neg (nn_ne_neg (by omega)), f_X12_readsStep_b19]
    show MR w J b n WL I _ (if v.1 = 4 then (if 6 ≤ o then .inl (3, sk b n p) else rb (agR rc b n o v.2 c f) (enR b n)) else rb (smR b n z v.1 v.2 c f) (enR b n)) (PM b n o c I)
    -- the step begins
    have beg : ∀ (o' : Nat) (I2 : Is), WL I I2 → MT b n p I2 → I2 49 4 = nn (sk b n p) → I2 49 8 = nn o' → I2 49 26 = nn c → (∀ k, I2 (417 + k) = I (417 + k)) → I2 53 0 = nn z → ∃ I3, f_X12_readsStep_b32 rec 49 (nn v.1) (st w I2 J) = (if (2 ≤ nn v.1 : Prop) then (f_X12_readsStep_b89 rec 49 (nn v.1) (417 + c)) else bd (gR 12 12 49) fun r17 => bd (al 0 r17 0) fun v18 => bd (cv 12 49 (f_X12_number 49 0 (v18 - (1 : Int32)))) fun v19 => bd (as_ (417 + c) 1 v19) fun _ => f_X12_readsStep_b89 rec 49 (nn v.1) (417 + c)) (st w I3 J) ∧ WL I I3 ∧ MT b n v.2 I3 ∧ IP z o' c I I3 ∧ I3 (417 + c) 0 = nn v.1 := fun o' I2 l2 C2 p2 s8 s26 row s53 => by
      have j5 := i_49_5 (I := I2) (J := J) S
      rw [C2.2.1] at j5
      obtain ⟨I3, e3, a3, c3⟩ := m_skW (J := J) S W C2 p2 hp
      rw [← w2] at c3
      have j26 := i_49_26 (I := I3) (J := J) S
      rw [a3.2 26 (by decide) (by decide) (by decide), s26] at j26
      refine ⟨up2 (up2 I3 49 26 (nn (c + 1))) (417 + c) 0 (nn v.1), ?_, ((l2.trans a3.wl).u26).ur hc80, (c3.u26).cell ⟨by omega, by omega⟩, ⟨?_, ?_, fun k hk => ?_, ?_⟩, up2_s⟩
      · rw [f_X12_readsStep_b32, bd_st j5, if_pos rfl, bd_st ((v_49 S).trans e3), bd_st (r_49_25 S), bd_st j26, bd_st (g_416 S hc80), bd_st j26, nn_succ, bd_st (w_49_26 S), bd_st (s_417_0 S hc80)]
      · rw [up2_a (by omega), up2_k (by decide), a3.2 8 (by decide) (by decide) (by decide)]; exact s8
      · rw [up2_a (by omega), up2_s]
      · rw [up2_ra (by omega), up2_ra (by omega), ma_row a3 k, row k]
      · rw [up2_a (by omega), up2_a (by decide), a3.1 53 (by decide)]; exact s53
    by_cases h5 : v.1 = 4
    · rw [if_pos (by rw [q4]; exact h5), if_pos h5]
      have O := m_open (J := J) (o := o) S c1 p1 (by rw [a1.2 8 (by decide) (by decide) (by decide)]; exact h8) ho
      by_cases h7 : 6 ≤ o
      · rw [if_pos h7] at O
        obtain ⟨I2, e2, a2, X2⟩ := O
        rw [if_pos h7]
        refine ⟨I2, ?_, (a1.trans a2).wl, X2⟩
        rw [bd_st ((v_49 S).trans e2), if_pos rfl]
        rfl
      · rw [if_neg h7] at O
        rw [if_neg h7, bd_st ((v_49 S).trans O), if_neg (by decide)]
        obtain ⟨I3, e3, l3, C3, P3, r3⟩ := beg (o + 1) (up2 I1 49 8 (nn (o + 1))) (a1.wl.u8) c1.u8 (by rw [up2_k (by decide)]; exact p1) up2_s (by rw [up2_k (by decide), a1.2 26 (by decide) (by decide) (by decide)]; exact h26) (fun k => by rw [up2_ra (by omega), ma_row a1 k]) (by rw [up2_a (by decide), a1.1 53 (by decide)]; exact h53)
        rw [e3]
        refine MR.pre WL.trans l3 ?_
        rw [h5] at r3 ⊢
        have q2 : (2 : Int32) ≤ nn 4 := by decide
        rw [if_pos q2, f_X12_readsStep_b89, if_neg (by decide), f_X12_readsStep_b109, if_neg (by decide), f_X12_readsStep_b124, if_neg (by decide), if_neg (by decide), f_X12_readsStep_b142, if_pos (by decide), agR_4]
        refine mw_num (j := 1) (m := 31) S W C3 (by decide) (by decide) hc80 (by decide) (SKP.bd WL.trans (kw_sign S 91) (SKP.bd WL.trans (kw_bl S W) (kw_167 S hc80 rec (by decide)))) fun a I4 ea a4 b4 C4 => ?_
        have wa := nuR_q wn ea
        have wb := nuR_b wn ea
        have P4 : IP z (o + 1) c I (up2 I4 (417 + c) 1 (nn a.1)) := (P3.ma a4).up
        have r40 : up2 I4 (417 + c) 1 (nn a.1) (417 + c) 0 = nn 4 := by rw [row_u a4 (by decide)]; exact r3
        refine MR.bd WL.trans (mw_sign (x := 91) S W C4 (by decide)) (SKP.bd WL.trans (kw_bl S W) (kw_167 S hc80 rec (by decide))) fun t I5 et a5 Q5 => ?_
        obtain ⟨a5', C5⟩ := Q5
        obtain ⟨t1, t2⟩ := sgR_q wb.2 et
        obtain ⟨I6, e6, a6, c6, p6⟩ := m_blR (J := J) S W C5
        rw [bd_st ((v_49 S).trans e6)]
        refine MR.pre WL.trans a6.wl ?_
        have P6 : IP z (o + 1) c I I6 := (P4.ma a5').ma a6
        rw [hrc (by omega)]
        refine mw_inL S W hn (hs (by omega)) hX hc80 31 t (c + 1) f I6 NF (by omega) (by decide) t2 (by omega) (Nat.lt_succ_self _) c6 p6 P6.1 P6.2.1 P6.2.2.1 P6.2.2.2 ?_ ?_ (fun k k1 k2 => by omega)
        · rw [ma_row a6 c, ma_row a5' c]; exact r40
        · rw [ma_row a6 c, ma_row a5' c, up2_s]
    · rw [if_neg (by rw [q4]; exact h5), if_neg h5]
      obtain ⟨I3, e3, l3, C3, P3, r3⟩ := beg o I1 a1.wl c1 p1 (by rw [a1.2 8 (by decide) (by decide) (by decide)]; exact h8) (by rw [a1.2 26 (by decide) (by decide) (by decide)]; exact h26) (fun k => ma_row a1 k) (by rw [a1.1 53 (by decide)]; exact h53)
      rw [e3]
      refine MR.pre WL.trans l3 ?_
      have l53 : ∀ {I' : Is}, IP z o c I I' → al 0 53 0 (st w I' J) = some (.inl (nn z), st w I' J) := fun {I'} H => by
        have := l_53_0 (I := I') (J := J) S
        rw [H.2.2.2] at this
        exact this
      have fin : ∀ {q : Rc} {p' : Nat} {I' : Is}, rE q = c + 1 → MT b n p' I' → IP z o c I I' → (I' (417 + c) 0 = nn (rK q) ∧ (rK q < 2 ∨ rK q = 4 → I' (417 + c) 1 = nn (rA q)) ∧ (rK q < 2 → I' (417 + c) 2 = nn (rB q)) ∧ (rK q = 0 ∨ rK q = 2 → I' (417 + c) 3 = nn (rH q))) → MR w J b n WL I' (f_X12_readsStep_b214 rec 49 (417 + c) (st w I' J)) (enR b n (p', c + 1, upF f c q)) (PM b n o c I) := fun {q p' I'} he C' P' hq => mw_214 S W rec hc80 rfl he C' P'.1 P'.2.1 (Nat.lt_succ_self _) P'.2.2.1 (fun k k1 k2 => by omega) hq
      have v4 : v.1 = 0 ∨ v.1 = 1 ∨ v.1 = 2 ∨ v.1 = 3 := by omega
      rcases v4 with e | e | e | e <;> rw [e] at r3 ⊢
      · rw [smR_0, if_neg (by decide), bd_st (r_49_12 S), bd_st (l53 P3)]
        refine mw_num (j := 1) (m := z) S W C3 (by omega) rfl hc80 (by decide) (kw_89 S W hc80 rec _) fun a I4 ea a4 b4 C4 => ?_
        have P4 : IP z o c I (up2 I4 (417 + c) 1 (nn a.1)) := (P3.ma a4).up
        rw [f_X12_readsStep_b89, if_pos (by decide), bd_st (r_49_12 S), bd_st (l53 P4)]
        refine mw_num (j := 2) (m := z) S W C4 (by omega) rfl hc80 (by decide) (kw_109 S W hc80 rec _) fun a2 I5 ea2 a5 b5 C5 => ?_
        have P5 : IP z o c I (up2 I5 (417 + c) 2 (nn a2.1)) := (P4.ma a5).up
        rw [f_X12_readsStep_b109, if_neg (by decide), f_X12_readsStep_b124, if_pos (by decide), f_X12_readsStep_b133]
        refine mw_num (j := 3) (m := 6) S W C5 (by decide) (by decide) hc80 (by decide) (kw_142 S W hc80 rec _) fun a3 I6 ea3 a6 b6 C6 => ?_
        have P6 : IP z o c I (up2 I6 (417 + c) 3 (nn a3.1)) := (P5.ma a6).up
        rw [f_X12_readsStep_b142, if_neg (by decide)]
        refine fin rfl C6 P6 ⟨?_, fun _ => ?_, fun _ => ?_, fun _ => up2_s⟩
        · rw [row_u a6 (by decide), row_u a5 (by decide), row_u a4 (by decide)]; exact r3
        · rw [row_u a6 (by decide), row_u a5 (by decide), up2_s]; rfl
        · rw [row_u a6 (by decide), up2_s]; rfl
      · rw [smR_1, if_neg (by decide), bd_st (r_49_12 S), bd_st (l53 P3)]
        refine mw_num (j := 1) (m := z) S W C3 (by omega) rfl hc80 (by decide) (kw_89 S W hc80 rec _) fun a I4 ea a4 b4 C4 => ?_
        have P4 : IP z o c I (up2 I4 (417 + c) 1 (nn a.1)) := (P3.ma a4).up
        rw [f_X12_readsStep_b89, if_neg (by decide), f_X12_readsStep_b109, if_pos (by decide)]
        refine mw_num (j := 2) (m := 10) S W C4 (by decide) (by decide) hc80 (by decide) (kw_124 S W hc80 rec _) fun a2 I5 ea2 a5 b5 C5 => ?_
        have P5 : IP z o c I (up2 I5 (417 + c) 2 (nn a2.1)) := (P4.ma a5).up
        rw [f_X12_readsStep_b124, if_neg (by decide), if_neg (by decide), f_X12_readsStep_b142, if_neg (by decide)]
        refine fin rfl C5 P5 ⟨?_, fun _ => ?_, fun _ => up2_s, fun x => absurd x (by simp [rK])⟩
        · rw [row_u a5 (by decide), row_u a4 (by decide)]; exact r3
        · rw [row_u a5 (by decide), up2_s]; rfl
      · rw [smR_2, if_pos (by decide), f_X12_readsStep_b89, if_neg (by decide), f_X12_readsStep_b109, if_neg (by decide), f_X12_readsStep_b124, if_neg (by decide), if_pos (by decide), f_X12_readsStep_b133]
        refine mw_num (j := 3) (m := 6) S W C3 (by decide) (by decide) hc80 (by decide) (kw_142 S W hc80 rec _) fun a3 I6 ea3 a6 b6 C6 => ?_
        have P6 : IP z o c I (up2 I6 (417 + c) 3 (nn a3.1)) := (P3.ma a6).up
        rw [f_X12_readsStep_b142, if_neg (by decide)]
        refine fin rfl C6 P6 ⟨?_, fun x => absurd x (by simp [rK]), fun x => absurd x (by simp [rK]), fun _ => up2_s⟩
        rw [row_u a6 (by decide)]; exact r3
      · rw [smR_3, if_pos (by decide), f_X12_readsStep_b89, if_neg (by decide), f_X12_readsStep_b109, if_neg (by decide), f_X12_readsStep_b124, if_neg (by decide), if_neg (by decide), f_X12_readsStep_b142, if_neg (by decide)]
        exact fin rfl C3 P3 ⟨r3, fun x => absurd x (by simp [rK]), fun x => absurd x (by simp [rK]), fun x => absurd x (by simp [rK])⟩
end MSREC
theorem m_stepD (S : Sw w) (W : TxW b n) (hn : n ≤ 150) (hz : z ≤ 8) : ∀ D o, o ≤ 6 → 7 ≤ D + o → RsM w J b n z (F_X12_readsStep (D + 1)) (spR (wkR b n z D) b n z o) o
  | 0, o, h1, h2 => by omega
  | D + 1, o, ho, hD => by
    show RsM w J b n z (f_X12_readsStep (F_X12_readsStep (D + 1))) (spR (wkR b n z (D + 1)) b n z o) o
    exact m_stepR S W hn hz (rc0 := wkR b n z D) (fun _ t c f => rfl) (fun h => m_stepD S W hn hz D (o + 1) (by omega) (by omega)) (fun p c f u hp hu => (ws_X p c f u hp hu).1) ho
end MSTEP
