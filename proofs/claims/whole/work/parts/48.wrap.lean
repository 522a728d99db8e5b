-- town
def f_L_town (a0 : Nat) (x1 : Int32) (a2 : Nat) : Mo Int32 := tc (cv 11 a0 (f_X11_town a0 x1)) (fun v1 => bd (ls_ a2 0 (Int32.toInt64 v1)) fun _ => pu 0) (hn1 14 (pu 1))
set_option maxRecDepth 20000 in
theorem h_L_town (g : GW) (a0 : Nat) (x1 : Int32) (a2 : Nat) : V g mL_town 14 rtI 0 [(0, rf g a0), (1, .int x1), (2, rf g a2)] [] (f_L_town a0 x1 a2) := by
  unfold f_L_town
  refine v_aload_n (pc' := 1) 2 dL_town_0 rfl rfl rfl ?_
  refine v_iconst (v := 0) (pc' := 2) dL_town_1 rfl rfl ?_
  refine v_aload_n (pc' := 3) 0 dL_town_2 rfl rfl rfl ?_
  refine v_iload_n (pc' := 4) 1 dL_town_3 rfl rfl rfl ?_
  refine v_callH (vs := [.int x1]) (pc' := 7) (h_X11_town g a0 x1) mv_X11_town wl_L_7 rfl (Nat.le_of_ble_eq_true rfl) (by omega) (by decide) (Nat.le_of_ble_eq_true rfl) dL_town_4 rfl (fun v1 => ?_) (kh1 12 (Or.inr (Or.inl ⟨rfl, 0, 9, 13, [], rfl, ⟨by decide, by decide⟩, by decide, (tg3 57 (by decide +kernel) (by decide +kernel))⟩)) fun b2 => ?_)
  · refine v_i2l (pc' := 8) dL_town_7 rfl ?_
    refine v_last (pc' := 9) dL_town_8 rfl ?_
    refine v_goto (t := 15) dL_town_9 (by decide) ?_
    refine v_iconst (v := 0) (pc' := 16) dL_town_15 rfl rfl ?_
    exact v_ireturn rfl dL_town_16
  · refine v_astore_n (lv' := [(3, rf g b2), (0, rf g a0), (1, .int x1), (2, rf g a2)]) (pc' := 13) dL_town_12 rfl (by decide) rfl rfl ?_
    refine v_iconst (v := 1) (pc' := 14) dL_town_13 rfl rfl ?_
    exact v_ireturn rfl dL_town_14
-- law
def f_L_law (a0 : Nat) (x1 : Int32) (a2 : Nat) : Mo Int32 := tc (cv 11 a0 (f_X11_law a0 x1)) (fun v1 => bd (ls_ a2 0 (Int32.toInt64 v1)) fun _ => pu 0) (hn1 14 (pu 1))
set_option maxRecDepth 20000 in
theorem h_L_law (g : GW) (a0 : Nat) (x1 : Int32) (a2 : Nat) : V g mL_law 61 rtI 0 [(0, rf g a0), (1, .int x1), (2, rf g a2)] [] (f_L_law a0 x1 a2) := by
  unfold f_L_law
  refine v_aload_n (pc' := 1) 2 dL_law_0 rfl rfl rfl ?_
  refine v_iconst (v := 0) (pc' := 2) dL_law_1 rfl rfl ?_
  refine v_aload_n (pc' := 3) 0 dL_law_2 rfl rfl rfl ?_
  refine v_iload_n (pc' := 4) 1 dL_law_3 rfl rfl rfl ?_
  refine v_callH (vs := [.int x1]) (pc' := 7) (h_X11_law g a0 x1) mv_X11_law wl_L_15 rfl (Nat.le_of_ble_eq_true rfl) (by omega) (by decide) (Nat.le_of_ble_eq_true rfl) dL_law_4 rfl (fun v1 => ?_) (kh1 12 (Or.inr (Or.inl ⟨rfl, 0, 9, 13, [], rfl, ⟨by decide, by decide⟩, by decide, (tg3 57 (by decide +kernel) (by decide +kernel))⟩)) fun b2 => ?_)
  · refine v_i2l (pc' := 8) dL_law_7 rfl ?_
    refine v_last (pc' := 9) dL_law_8 rfl ?_
    refine v_goto (t := 15) dL_law_9 (by decide) ?_
    refine v_iconst (v := 0) (pc' := 16) dL_law_15 rfl rfl ?_
    exact v_ireturn rfl dL_law_16
  · refine v_astore_n (lv' := [(3, rf g b2), (0, rf g a0), (1, .int x1), (2, rf g a2)]) (pc' := 13) dL_law_12 rfl (by decide) rfl rfl ?_
    refine v_iconst (v := 1) (pc' := 14) dL_law_13 rfl rfl ?_
    exact v_ireturn rfl dL_law_14
-- work
def f_L_work (a0 : Nat) (x1 : Int32) (a2 : Nat) : Mo Int32 := tc (cv 11 a0 (f_X11_work a0 x1)) (fun v1 => bd (ls_ a2 0 (Int32.toInt64 v1)) fun _ => pu 0) (hn1 14 (pu 1))
set_option maxRecDepth 20000 in
theorem h_L_work (g : GW) (a0 : Nat) (x1 : Int32) (a2 : Nat) : V g mL_work 49 rtI 0 [(0, rf g a0), (1, .int x1), (2, rf g a2)] [] (f_L_work a0 x1 a2) := by
  unfold f_L_work
  refine v_aload_n (pc' := 1) 2 dL_work_0 rfl rfl rfl ?_
  refine v_iconst (v := 0) (pc' := 2) dL_work_1 rfl rfl ?_
  refine v_aload_n (pc' := 3) 0 dL_work_2 rfl rfl rfl ?_
  refine v_iload_n (pc' := 4) 1 dL_work_3 rfl rfl rfl ?_
  refine v_callH (vs := [.int x1]) (pc' := 7) (h_X11_work g a0 x1) mv_X11_work wl_L_18 rfl (Nat.le_of_ble_eq_true rfl) (by omega) (by decide) (Nat.le_of_ble_eq_true rfl) dL_work_4 rfl (fun v1 => ?_) (kh1 12 (Or.inr (Or.inl ⟨rfl, 0, 9, 13, [], rfl, ⟨by decide, by decide⟩, by decide, (tg3 57 (by decide +kernel) (by decide +kernel))⟩)) fun b2 => ?_)
  · refine v_i2l (pc' := 8) dL_work_7 rfl ?_
    refine v_last (pc' := 9) dL_work_8 rfl ?_
    refine v_goto (t := 15) dL_work_9 (by decide) ?_
    refine v_iconst (v := 0) (pc' := 16) dL_work_15 rfl rfl ?_
    exact v_ireturn rfl dL_work_16
  · refine v_astore_n (lv' := [(3, rf g b2), (0, rf g a0), (1, .int x1), (2, rf g a2)]) (pc' := 13) dL_work_12 rfl (by decide) rfl rfl ?_
    refine v_iconst (v := 1) (pc' := 14) dL_work_13 rfl rfl ?_
    exact v_ireturn rfl dL_work_14
-- words
def f_L_words (a0 : Nat) (x1 : Int32) (a2 : Nat) : Mo Int32 := tc (cv 11 a0 (f_X11_words a0 x1)) (fun v1 => bd (ls_ a2 0 (Int32.toInt64 v1)) fun _ => pu 0) (hn1 14 (pu 1))
set_option maxRecDepth 20000 in
theorem h_L_words (g : GW) (a0 : Nat) (x1 : Int32) (a2 : Nat) : V g mL_words 13 rtI 0 [(0, rf g a0), (1, .int x1), (2, rf g a2)] [] (f_L_words a0 x1 a2) := by
  unfold f_L_words
  refine v_aload_n (pc' := 1) 2 dL_words_0 rfl rfl rfl ?_
  refine v_iconst (v := 0) (pc' := 2) dL_words_1 rfl rfl ?_
  refine v_aload_n (pc' := 3) 0 dL_words_2 rfl rfl rfl ?_
  refine v_iload_n (pc' := 4) 1 dL_words_3 rfl rfl rfl ?_
  refine v_callH (vs := [.int x1]) (pc' := 7) (h_X11_words g a0 x1) mv_X11_words wl_L_21 rfl (Nat.le_of_ble_eq_true rfl) (by omega) (by decide) (Nat.le_of_ble_eq_true rfl) dL_words_4 rfl (fun v1 => ?_) (kh1 12 (Or.inr (Or.inl ⟨rfl, 0, 9, 13, [], rfl, ⟨by decide, by decide⟩, by decide, (tg3 57 (by decide +kernel) (by decide +kernel))⟩)) fun b2 => ?_)
  · refine v_i2l (pc' := 8) dL_words_7 rfl ?_
    refine v_last (pc' := 9) dL_words_8 rfl ?_
    refine v_goto (t := 15) dL_words_9 (by decide) ?_
    refine v_iconst (v := 0) (pc' := 16) dL_words_15 rfl rfl ?_
    exact v_ireturn rfl dL_words_16
  · refine v_astore_n (lv' := [(3, rf g b2), (0, rf g a0), (1, .int x1), (2, rf g a2)]) (pc' := 13) dL_words_12 rfl (by decide) rfl rfl ?_
    refine v_iconst (v := 1) (pc' := 14) dL_words_13 rfl rfl ?_
    exact v_ireturn rfl dL_words_14
-- told
def f_L_told (a0 : Nat) (x1 : Int32) (a2 : Nat) : Mo Int32 := tc (cv 11 a0 (f_X11_told a0 x1)) (fun v1 => bd (ls_ a2 0 (Int32.toInt64 v1)) fun _ => pu 0) (hn1 14 (pu 1))
set_option maxRecDepth 20000 in
theorem h_L_told (g : GW) (a0 : Nat) (x1 : Int32) (a2 : Nat) : V g mL_told 11 rtI 0 [(0, rf g a0), (1, .int x1), (2, rf g a2)] [] (f_L_told a0 x1 a2) := by
  unfold f_L_told
  refine v_aload_n (pc' := 1) 2 dL_told_0 rfl rfl rfl ?_
  refine v_iconst (v := 0) (pc' := 2) dL_told_1 rfl rfl ?_
  refine v_aload_n (pc' := 3) 0 dL_told_2 rfl rfl rfl ?_
  refine v_iload_n (pc' := 4) 1 dL_told_3 rfl rfl rfl ?_
  refine v_callH (vs := [.int x1]) (pc' := 7) (h_X11_told g a0 x1) mv_X11_told wl_L_24 rfl (Nat.le_of_ble_eq_true rfl) (by omega) (by decide) (Nat.le_of_ble_eq_true rfl) dL_told_4 rfl (fun v1 => ?_) (kh1 12 (Or.inr (Or.inl ⟨rfl, 0, 9, 13, [], rfl, ⟨by decide, by decide⟩, by decide, (tg3 57 (by decide +kernel) (by decide +kernel))⟩)) fun b2 => ?_)
  · refine v_i2l (pc' := 8) dL_told_7 rfl ?_
    refine v_last (pc' := 9) dL_told_8 rfl ?_
    refine v_goto (t := 15) dL_told_9 (by decide) ?_
    refine v_iconst (v := 0) (pc' := 16) dL_told_15 rfl rfl ?_
    exact v_ireturn rfl dL_told_16
  · refine v_astore_n (lv' := [(3, rf g b2), (0, rf g a0), (1, .int x1), (2, rf g a2)]) (pc' := 13) dL_told_12 rfl (by decide) rfl rfl ?_
    refine v_iconst (v := 1) (pc' := 14) dL_told_13 rfl rfl ?_
    exact v_ireturn rfl dL_told_14
-- person
def f_L_person (a0 : Nat) (x1 : Int32) (x2 : Int32) (a3 : Nat) : Mo Int32 := tc (cv 11 a0 (f_X11_person a0 x1 x2)) (fun v1 => bd (ls_ a3 0 (Int32.toInt64 v1)) fun _ => pu 0) (hn2 (pu 1) (pu 2))
set_option maxRecDepth 20000 in
theorem h_L_person (g : GW) (a0 : Nat) (x1 : Int32) (x2 : Int32) (a3 : Nat) : V g mL_person 11 rtI 0 [(0, rf g a0), (1, .int x1), (2, .int x2), (3, rf g a3)] [] (f_L_person a0 x1 x2 a3) := by
  unfold f_L_person
  refine v_aload_n (pc' := 1) 3 dL_person_0 rfl rfl rfl ?_
  refine v_iconst (v := 0) (pc' := 2) dL_person_1 rfl rfl ?_
  refine v_aload_n (pc' := 3) 0 dL_person_2 rfl rfl rfl ?_
  refine v_iload_n (pc' := 4) 1 dL_person_3 rfl rfl rfl ?_
  refine v_iload_n (pc' := 5) 2 dL_person_4 rfl rfl rfl ?_
  refine v_callH (vs := [.int x1, .int x2]) (pc' := 8) (h_X11_person g a0 x1 x2) mv_X11_person wl_L_27 rfl (Nat.le_of_ble_eq_true rfl) (by omega) (by decide) (Nat.le_of_ble_eq_true rfl) dL_person_5 rfl (fun v1 => ?_) (kh2 13 17 (Or.inl ⟨rfl, 0, 10, 31, _, rfl, ⟨by decide, by decide⟩, by decide, (tg4 215 (by decide +kernel) (by decide +kernel))⟩) (Or.inr (Or.inr ⟨rfl, 0, 10, 13, 0, 10, 13, 31, [], rfl, ⟨by decide, by decide⟩, by decide, (tg3 57 (by decide +kernel) (by decide +kernel)), by decide, (tg4 215 (by decide +kernel) (by decide +kernel))⟩)) (fun b2 => ?_) (fun b2 => ?_))
  · refine v_i2l (pc' := 9) dL_person_8 rfl ?_
    refine v_last (pc' := 10) dL_person_9 rfl ?_
    refine v_goto (t := 21) dL_person_10 (by decide) ?_
    refine v_iconst (v := 0) (pc' := 22) dL_person_21 rfl rfl ?_
    exact v_ireturn rfl dL_person_22
  · refine v_astore (lv' := [(4, rf g b2), (0, rf g a0), (1, .int x1), (2, .int x2), (3, rf g a3)]) (pc' := 15) dL_person_13 (by decide) rfl rfl ?_
    refine v_iconst (v := 1) (pc' := 16) dL_person_15 rfl rfl ?_
    exact v_ireturn rfl dL_person_16
  · refine v_astore (lv' := [(4, rf g b2), (0, rf g a0), (1, .int x1), (2, .int x2), (3, rf g a3)]) (pc' := 19) dL_person_17 (by decide) rfl rfl ?_
    refine v_iconst (v := 2) (pc' := 20) dL_person_19 rfl rfl ?_
    exact v_ireturn rfl dL_person_20
-- plate
def f_L_plate (a0 : Nat) (x1 : Int32) (x2 : Int32) (a3 : Nat) : Mo Int32 := tc (cv 11 a0 (f_X11_plate a0 x1 x2)) (fun v1 => bd (ls_ a3 0 (Int32.toInt64 v1)) fun _ => pu 0) (hn2 (pu 1) (pu 2))
set_option maxRecDepth 20000 in
theorem h_L_plate (g : GW) (a0 : Nat) (x1 : Int32) (x2 : Int32) (a3 : Nat) : V g mL_plate 11 rtI 0 [(0, rf g a0), (1, .int x1), (2, .int x2), (3, rf g a3)] [] (f_L_plate a0 x1 x2 a3) := by
  unfold f_L_plate
  refine v_aload_n (pc' := 1) 3 dL_plate_0 rfl rfl rfl ?_
  refine v_iconst (v := 0) (pc' := 2) dL_plate_1 rfl rfl ?_
  refine v_aload_n (pc' := 3) 0 dL_plate_2 rfl rfl rfl ?_
  refine v_iload_n (pc' := 4) 1 dL_plate_3 rfl rfl rfl ?_
  refine v_iload_n (pc' := 5) 2 dL_plate_4 rfl rfl rfl ?_
  refine v_callH (vs := [.int x1, .int x2]) (pc' := 8) (h_X11_plate g a0 x1 x2) mv_X11_plate wl_L_33 rfl (Nat.le_of_ble_eq_true rfl) (by omega) (by decide) (Nat.le_of_ble_eq_true rfl) dL_plate_5 rfl (fun v1 => ?_) (kh2 13 17 (Or.inl ⟨rfl, 0, 10, 31, _, rfl, ⟨by decide, by decide⟩, by decide, (tg4 215 (by decide +kernel) (by decide +kernel))⟩) (Or.inr (Or.inr ⟨rfl, 0, 10, 13, 0, 10, 13, 31, [], rfl, ⟨by decide, by decide⟩, by decide, (tg3 57 (by decide +kernel) (by decide +kernel)), by decide, (tg4 215 (by decide +kernel) (by decide +kernel))⟩)) (fun b2 => ?_) (fun b2 => ?_))
  · refine v_i2l (pc' := 9) dL_plate_8 rfl ?_
    refine v_last (pc' := 10) dL_plate_9 rfl ?_
    refine v_goto (t := 21) dL_plate_10 (by decide) ?_
    refine v_iconst (v := 0) (pc' := 22) dL_plate_21 rfl rfl ?_
    exact v_ireturn rfl dL_plate_22
  · refine v_astore (lv' := [(4, rf g b2), (0, rf g a0), (1, .int x1), (2, .int x2), (3, rf g a3)]) (pc' := 15) dL_plate_13 (by decide) rfl rfl ?_
    refine v_iconst (v := 1) (pc' := 16) dL_plate_15 rfl rfl ?_
    exact v_ireturn rfl dL_plate_16
  · refine v_astore (lv' := [(4, rf g b2), (0, rf g a0), (1, .int x1), (2, .int x2), (3, rf g a3)]) (pc' := 19) dL_plate_17 (by decide) rfl rfl ?_
    refine v_iconst (v := 2) (pc' := 20) dL_plate_19 rfl rfl ?_
    exact v_ireturn rfl dL_plate_20
-- hall
def f_L_hall (a0 : Nat) (x1 : Int32) (x2 : Int32) (a3 : Nat) : Mo Int32 := tc (cv 11 a0 (f_X11_hall a0 x1 x2)) (fun v1 => bd (ls_ a3 0 (Int32.toInt64 v1)) fun _ => pu 0) (hn2 (pu 1) (pu 2))
set_option maxRecDepth 20000 in
theorem h_L_hall (g : GW) (a0 : Nat) (x1 : Int32) (x2 : Int32) (a3 : Nat) : V g mL_hall 11 rtI 0 [(0, rf g a0), (1, .int x1), (2, .int x2), (3, rf g a3)] [] (f_L_hall a0 x1 x2 a3) := by
  unfold f_L_hall
  refine v_aload_n (pc' := 1) 3 dL_hall_0 rfl rfl rfl ?_
  refine v_iconst (v := 0) (pc' := 2) dL_hall_1 rfl rfl ?_
  refine v_aload_n (pc' := 3) 0 dL_hall_2 rfl rfl rfl ?_
  refine v_iload_n (pc' := 4) 1 dL_hall_3 rfl rfl rfl ?_
  refine v_iload_n (pc' := 5) 2 dL_hall_4 rfl rfl rfl ?_
  refine v_callH (vs := [.int x1, .int x2]) (pc' := 8) (h_X11_hall g a0 x1 x2) mv_X11_hall wl_L_36 rfl (Nat.le_of_ble_eq_true rfl) (by omega) (by decide) (Nat.le_of_ble_eq_true rfl) dL_hall_5 rfl (fun v1 => ?_) (kh2 13 17 (Or.inl ⟨rfl, 0, 10, 31, _, rfl, ⟨by decide, by decide⟩, by decide, (tg4 215 (by decide +kernel) (by decide +kernel))⟩) (Or.inr (Or.inr ⟨rfl, 0, 10, 13, 0, 10, 13, 31, [], rfl, ⟨by decide, by decide⟩, by decide, (tg3 57 (by decide +kernel) (by decide +kernel)), by decide, (tg4 215 (by decide +kernel) (by decide +kernel))⟩)) (fun b2 => ?_) (fun b2 => ?_))
  · refine v_i2l (pc' := 9) dL_hall_8 rfl ?_
    refine v_last (pc' := 10) dL_hall_9 rfl ?_
    refine v_goto (t := 21) dL_hall_10 (by decide) ?_
    refine v_iconst (v := 0) (pc' := 22) dL_hall_21 rfl rfl ?_
    exact v_ireturn rfl dL_hall_22
  · refine v_astore (lv' := [(4, rf g b2), (0, rf g a0), (1, .int x1), (2, .int x2), (3, rf g a3)]) (pc' := 15) dL_hall_13 (by decide) rfl rfl ?_
    refine v_iconst (v := 1) (pc' := 16) dL_hall_15 rfl rfl ?_
    exact v_ireturn rfl dL_hall_16
  · refine v_astore (lv' := [(4, rf g b2), (0, rf g a0), (1, .int x1), (2, .int x2), (3, rf g a3)]) (pc' := 19) dL_hall_17 (by decide) rfl rfl ?_
    refine v_iconst (v := 2) (pc' := 20) dL_hall_19 rfl rfl ?_
    exact v_ireturn rfl dL_hall_20
-- shown
def f_L_shown (a0 : Nat) (x1 : Int32) (x2 : Int32) (x3 : Int32) (a4 : Nat) : Mo Int32 := tc (cv 11 a0 (f_X11_shown a0 x1 x2 x3)) (fun v1 => bd (ls_ a4 0 (Int32.toInt64 v1)) fun _ => pu 0) (hn1 13 (pu 1))
set_option maxRecDepth 20000 in
theorem h_L_shown (g : GW) (a0 : Nat) (x1 : Int32) (x2 : Int32) (x3 : Int32) (a4 : Nat) : V g mL_shown 12 rtI 0 [(0, rf g a0), (1, .int x1), (2, .int x2), (3, .int x3), (4, rf g a4)] [] (f_L_shown a0 x1 x2 x3 a4) := by
  unfold f_L_shown
  refine v_aload (pc' := 2) 4 dL_shown_0 rfl rfl ?_
  refine v_iconst (v := 0) (pc' := 3) dL_shown_2 rfl rfl ?_
  refine v_aload_n (pc' := 4) 0 dL_shown_3 rfl rfl rfl ?_
  refine v_iload_n (pc' := 5) 1 dL_shown_4 rfl rfl rfl ?_
  refine v_iload_n (pc' := 6) 2 dL_shown_5 rfl rfl rfl ?_
  refine v_iload_n (pc' := 7) 3 dL_shown_6 rfl rfl rfl ?_
  refine v_callH (vs := [.int x1, .int x2, .int x3]) (pc' := 10) (h_X11_shown g a0 x1 x2 x3) mv_X11_shown wl_L_39 rfl (Nat.le_of_ble_eq_true rfl) (by omega) (by decide) (Nat.le_of_ble_eq_true rfl) dL_shown_7 rfl (fun v1 => ?_) (kh1 15 (Or.inl ⟨rfl, 0, 12, 31, [], rfl, ⟨by decide, by decide⟩, by decide, (tg4 215 (by decide +kernel) (by decide +kernel))⟩) fun b2 => ?_)
  · refine v_i2l (pc' := 11) dL_shown_10 rfl ?_
    refine v_last (pc' := 12) dL_shown_11 rfl ?_
    refine v_goto (t := 19) dL_shown_12 (by decide) ?_
    refine v_iconst (v := 0) (pc' := 20) dL_shown_19 rfl rfl ?_
    exact v_ireturn rfl dL_shown_20
  · refine v_astore (lv' := [(5, rf g b2), (0, rf g a0), (1, .int x1), (2, .int x2), (3, .int x3), (4, rf g a4)]) (pc' := 17) dL_shown_15 (by decide) rfl rfl ?_
    refine v_iconst (v := 1) (pc' := 18) dL_shown_17 rfl rfl ?_
    exact v_ireturn rfl dL_shown_18
-- would
def f_L_would (a0 : Nat) (x1 : Int32) (x2 : Int32) (x3 : Int32) (x4 : Int32) (x5 : Int32) (x6 : Int32) (x7 : Int32) (x8 : Int32) (a9 : Nat) : Mo Int32 := tc (cv 11 a0 (f_X11_would a0 x1 x2 x3 x4 x5 x6 x7 x8)) (fun v1 => bd (ls_ a9 0 (Int32.toInt64 v1)) fun _ => pu 0) (hn1 14 (pu 1))
set_option maxRecDepth 20000 in
theorem h_L_would (g : GW) (a0 : Nat) (x1 : Int32) (x2 : Int32) (x3 : Int32) (x4 : Int32) (x5 : Int32) (x6 : Int32) (x7 : Int32) (x8 : Int32) (a9 : Nat) : V g mL_would 11 rtI 0 [(0, rf g a0), (1, .int x1), (2, .int x2), (3, .int x3), (4, .int x4), (5, .int x5), (6, .int x6), (7, .int x7), (8, .int x8), (9, rf g a9)] [] (f_L_would a0 x1 x2 x3 x4 x5 x6 x7 x8 a9) := by
  unfold f_L_would
  refine v_aload (pc' := 2) 9 dL_would_0 rfl rfl ?_
  refine v_iconst (v := 0) (pc' := 3) dL_would_2 rfl rfl ?_
  refine v_aload_n (pc' := 4) 0 dL_would_3 rfl rfl rfl ?_
  refine v_iload_n (pc' := 5) 1 dL_would_4 rfl rfl rfl ?_
  refine v_iload_n (pc' := 6) 2 dL_would_5 rfl rfl rfl ?_
  refine v_iload_n (pc' := 7) 3 dL_would_6 rfl rfl rfl ?_
  refine v_iload (pc' := 9) 4 dL_would_7 rfl rfl ?_
  refine v_iload (pc' := 11) 5 dL_would_9 rfl rfl ?_
  refine v_iload (pc' := 13) 6 dL_would_11 rfl rfl ?_
  refine v_iload (pc' := 15) 7 dL_would_13 rfl rfl ?_
  refine v_iload (pc' := 17) 8 dL_would_15 rfl rfl ?_
  refine v_callH (vs := [.int x1, .int x2, .int x3, .int x4, .int x5, .int x6, .int x7, .int x8]) (pc' := 20) (h_X11_would g a0 x1 x2 x3 x4 x5 x6 x7 x8) mv_X11_would wl_L_43 rfl (Nat.le_of_ble_eq_true rfl) (by omega) (by decide) (Nat.le_of_ble_eq_true rfl) dL_would_17 rfl (fun v1 => ?_) (kh1 25 (Or.inr (Or.inl ⟨rfl, 0, 22, 13, [], rfl, ⟨by decide, by decide⟩, by decide, (tg3 57 (by decide +kernel) (by decide +kernel))⟩)) fun b2 => ?_)
  · refine v_i2l (pc' := 21) dL_would_20 rfl ?_
    refine v_last (pc' := 22) dL_would_21 rfl ?_
    refine v_goto (t := 29) dL_would_22 (by decide) ?_
    refine v_iconst (v := 0) (pc' := 30) dL_would_29 rfl rfl ?_
    exact v_ireturn rfl dL_would_30
  · refine v_astore (lv' := [(10, rf g b2), (0, rf g a0), (1, .int x1), (2, .int x2), (3, .int x3), (4, .int x4), (5, .int x5), (6, .int x6), (7, .int x7), (8, .int x8), (9, rf g a9)]) (pc' := 27) dL_would_25 (by decide) rfl rfl ?_
    refine v_iconst (v := 1) (pc' := 28) dL_would_27 rfl rfl ?_
    exact v_ireturn rfl dL_would_28
-- unlike
def f_L_unlike (a0 : Nat) (x1 : Int32) (x2 : Int32) (a3 : Nat) : Mo Int32 := tc (cv 11 a0 (f_X11_unlike a0 x1 x2)) (fun v1 => bd (ls_ a3 0 (Int32.toInt64 v1)) fun _ => pu 0) (hn1 14 (pu 1))
set_option maxRecDepth 20000 in
theorem h_L_unlike (g : GW) (a0 : Nat) (x1 : Int32) (x2 : Int32) (a3 : Nat) : V g mL_unlike 11 rtI 0 [(0, rf g a0), (1, .int x1), (2, .int x2), (3, rf g a3)] [] (f_L_unlike a0 x1 x2 a3) := by
  unfold f_L_unlike
  refine v_aload_n (pc' := 1) 3 dL_unlike_0 rfl rfl rfl ?_
  refine v_iconst (v := 0) (pc' := 2) dL_unlike_1 rfl rfl ?_
  refine v_aload_n (pc' := 3) 0 dL_unlike_2 rfl rfl rfl ?_
  refine v_iload_n (pc' := 4) 1 dL_unlike_3 rfl rfl rfl ?_
  refine v_iload_n (pc' := 5) 2 dL_unlike_4 rfl rfl rfl ?_
  refine v_callH (vs := [.int x1, .int x2]) (pc' := 8) (h_X11_unlike g a0 x1 x2) mv_X11_unlike wl_L_47 rfl (Nat.le_of_ble_eq_true rfl) (by omega) (by decide) (Nat.le_of_ble_eq_true rfl) dL_unlike_5 rfl (fun v1 => ?_) (kh1 13 (Or.inr (Or.inl ⟨rfl, 0, 10, 13, [], rfl, ⟨by decide, by decide⟩, by decide, (tg3 57 (by decide +kernel) (by decide +kernel))⟩)) fun b2 => ?_)
  · refine v_i2l (pc' := 9) dL_unlike_8 rfl ?_
    refine v_last (pc' := 10) dL_unlike_9 rfl ?_
    refine v_goto (t := 17) dL_unlike_10 (by decide) ?_
    refine v_iconst (v := 0) (pc' := 18) dL_unlike_17 rfl rfl ?_
    exact v_ireturn rfl dL_unlike_18
  · refine v_astore (lv' := [(4, rf g b2), (0, rf g a0), (1, .int x1), (2, .int x2), (3, rf g a3)]) (pc' := 15) dL_unlike_13 (by decide) rfl rfl ?_
    refine v_iconst (v := 1) (pc' := 16) dL_unlike_15 rfl rfl ?_
    exact v_ireturn rfl dL_unlike_16
-- can
def f_L_can (a0 : Nat) (x1 : Int32) (a2 : Nat) : Mo Int32 := tc (cv 11 a0 (f_X11_can a0 x1)) (fun v1 => bd (ls_ a2 0 (Int32.toInt64 v1)) fun _ => pu 0) (hn1 13 (pu 1))
set_option maxRecDepth 20000 in
theorem h_L_can (g : GW) (a0 : Nat) (x1 : Int32) (a2 : Nat) : V g mL_can 14 rtI 0 [(0, rf g a0), (1, .int x1), (2, rf g a2)] [] (f_L_can a0 x1 a2) := by
  unfold f_L_can
  refine v_aload_n (pc' := 1) 2 dL_can_0 rfl rfl rfl ?_
  refine v_iconst (v := 0) (pc' := 2) dL_can_1 rfl rfl ?_
  refine v_aload_n (pc' := 3) 0 dL_can_2 rfl rfl rfl ?_
  refine v_iload_n (pc' := 4) 1 dL_can_3 rfl rfl rfl ?_
  refine v_callH (vs := [.int x1]) (pc' := 7) (h_X11_can g a0 x1) mv_X11_can wl_L_50 rfl (Nat.le_of_ble_eq_true rfl) (by omega) (by decide) (Nat.le_of_ble_eq_true rfl) dL_can_4 rfl (fun v1 => ?_) (kh1 12 (Or.inl ⟨rfl, 0, 9, 31, [], rfl, ⟨by decide, by decide⟩, by decide, (tg4 215 (by decide +kernel) (by decide +kernel))⟩) fun b2 => ?_)
  · refine v_i2l (pc' := 8) dL_can_7 rfl ?_
    refine v_last (pc' := 9) dL_can_8 rfl ?_
    refine v_goto (t := 15) dL_can_9 (by decide) ?_
    refine v_iconst (v := 0) (pc' := 16) dL_can_15 rfl rfl ?_
    exact v_ireturn rfl dL_can_16
  · refine v_astore_n (lv' := [(3, rf g b2), (0, rf g a0), (1, .int x1), (2, rf g a2)]) (pc' := 13) dL_can_12 rfl (by decide) rfl rfl ?_
    refine v_iconst (v := 1) (pc' := 14) dL_can_13 rfl rfl ?_
    exact v_ireturn rfl dL_can_14
-- fewest
def f_L_fewest (a0 : Nat) (x1 : Int32) (a2 : Nat) : Mo Int32 := tc (cv 11 a0 (f_X11_fewest a0 x1)) (fun v1 => bd (ls_ a2 0 (Int32.toInt64 v1)) fun _ => pu 0) (hn1 14 (pu 1))
set_option maxRecDepth 20000 in
theorem h_L_fewest (g : GW) (a0 : Nat) (x1 : Int32) (a2 : Nat) : V g mL_fewest 15 rtI 0 [(0, rf g a0), (1, .int x1), (2, rf g a2)] [] (f_L_fewest a0 x1 a2) := by
  unfold f_L_fewest
  refine v_aload_n (pc' := 1) 2 dL_fewest_0 rfl rfl rfl ?_
  refine v_iconst (v := 0) (pc' := 2) dL_fewest_1 rfl rfl ?_
  refine v_aload_n (pc' := 3) 0 dL_fewest_2 rfl rfl rfl ?_
  refine v_iload_n (pc' := 4) 1 dL_fewest_3 rfl rfl rfl ?_
  refine v_callH (vs := [.int x1]) (pc' := 7) (h_X11_fewest g a0 x1) mv_X11_fewest wl_L_53 rfl (Nat.le_of_ble_eq_true rfl) (by omega) (by decide) (Nat.le_of_ble_eq_true rfl) dL_fewest_4 rfl (fun v1 => ?_) (kh1 12 (Or.inr (Or.inl ⟨rfl, 0, 9, 13, [], rfl, ⟨by decide, by decide⟩, by decide, (tg3 57 (by decide +kernel) (by decide +kernel))⟩)) fun b2 => ?_)
  · refine v_i2l (pc' := 8) dL_fewest_7 rfl ?_
    refine v_last (pc' := 9) dL_fewest_8 rfl ?_
    refine v_goto (t := 15) dL_fewest_9 (by decide) ?_
    refine v_iconst (v := 0) (pc' := 16) dL_fewest_15 rfl rfl ?_
    exact v_ireturn rfl dL_fewest_16
  · refine v_astore_n (lv' := [(3, rf g b2), (0, rf g a0), (1, .int x1), (2, rf g a2)]) (pc' := 13) dL_fewest_12 rfl (by decide) rfl rfl ?_
    refine v_iconst (v := 1) (pc' := 14) dL_fewest_13 rfl rfl ?_
    exact v_ireturn rfl dL_fewest_14
-- nobody
def f_L_nobody (a0 : Nat) (x1 : Int32) (a2 : Nat) : Mo Int32 := tc (cv 11 a0 (f_X11_nobody a0 x1)) (fun v1 => bd (ls_ a2 0 (Int32.toInt64 v1)) fun _ => pu 0) (hn1 14 (pu 1))
set_option maxRecDepth 20000 in
theorem h_L_nobody (g : GW) (a0 : Nat) (x1 : Int32) (a2 : Nat) : V g mL_nobody 14 rtI 0 [(0, rf g a0), (1, .int x1), (2, rf g a2)] [] (f_L_nobody a0 x1 a2) := by
  unfold f_L_nobody
  refine v_aload_n (pc' := 1) 2 dL_nobody_0 rfl rfl rfl ?_
  refine v_iconst (v := 0) (pc' := 2) dL_nobody_1 rfl rfl ?_
  refine v_aload_n (pc' := 3) 0 dL_nobody_2 rfl rfl rfl ?_
  refine v_iload_n (pc' := 4) 1 dL_nobody_3 rfl rfl rfl ?_
  refine v_callH (vs := [.int x1]) (pc' := 7) (h_X11_nobody g a0 x1) mv_X11_nobody wl_L_56 rfl (Nat.le_of_ble_eq_true rfl) (by omega) (by decide) (Nat.le_of_ble_eq_true rfl) dL_nobody_4 rfl (fun v1 => ?_) (kh1 12 (Or.inr (Or.inl ⟨rfl, 0, 9, 13, [], rfl, ⟨by decide, by decide⟩, by decide, (tg3 57 (by decide +kernel) (by decide +kernel))⟩)) fun b2 => ?_)
  · refine v_i2l (pc' := 8) dL_nobody_7 rfl ?_
    refine v_last (pc' := 9) dL_nobody_8 rfl ?_
    refine v_goto (t := 15) dL_nobody_9 (by decide) ?_
    refine v_iconst (v := 0) (pc' := 16) dL_nobody_15 rfl rfl ?_
    exact v_ireturn rfl dL_nobody_16
  · refine v_astore_n (lv' := [(3, rf g b2), (0, rf g a0), (1, .int x1), (2, rf g a2)]) (pc' := 13) dL_nobody_12 rfl (by decide) rfl rfl ?_
    refine v_iconst (v := 1) (pc' := 14) dL_nobody_13 rfl rfl ?_
    exact v_ireturn rfl dL_nobody_14
-- ring
def f_L_ring (a0 : Nat) (x1 : Int32) (x2 : Int32) (a3 : Nat) : Mo Int32 := tc (cv 11 a0 (f_X11_ring a0 x1 x2)) (fun v1 => bd (ls_ a3 0 (Int32.toInt64 v1)) fun _ => pu 0) (hn1 14 (pu 1))
set_option maxRecDepth 20000 in
theorem h_L_ring (g : GW) (a0 : Nat) (x1 : Int32) (x2 : Int32) (a3 : Nat) : V g mL_ring 23 rtI 0 [(0, rf g a0), (1, .int x1), (2, .int x2), (3, rf g a3)] [] (f_L_ring a0 x1 x2 a3) := by
  unfold f_L_ring
  refine v_aload_n (pc' := 1) 3 dL_ring_0 rfl rfl rfl ?_
  refine v_iconst (v := 0) (pc' := 2) dL_ring_1 rfl rfl ?_
  refine v_aload_n (pc' := 3) 0 dL_ring_2 rfl rfl rfl ?_
  refine v_iload_n (pc' := 4) 1 dL_ring_3 rfl rfl rfl ?_
  refine v_iload_n (pc' := 5) 2 dL_ring_4 rfl rfl rfl ?_
  refine v_callH (vs := [.int x1, .int x2]) (pc' := 8) (h_X11_ring g a0 x1 x2) mv_X11_ring wl_L_59 rfl (Nat.le_of_ble_eq_true rfl) (by omega) (by decide) (Nat.le_of_ble_eq_true rfl) dL_ring_5 rfl (fun v1 => ?_) (kh1 13 (Or.inr (Or.inl ⟨rfl, 0, 10, 13, [], rfl, ⟨by decide, by decide⟩, by decide, (tg3 57 (by decide +kernel) (by decide +kernel))⟩)) fun b2 => ?_)
  · refine v_i2l (pc' := 9) dL_ring_8 rfl ?_
    refine v_last (pc' := 10) dL_ring_9 rfl ?_
    refine v_goto (t := 17) dL_ring_10 (by decide) ?_
    refine v_iconst (v := 0) (pc' := 18) dL_ring_17 rfl rfl ?_
    exact v_ireturn rfl dL_ring_18
  · refine v_astore (lv' := [(4, rf g b2), (0, rf g a0), (1, .int x1), (2, .int x2), (3, rf g a3)]) (pc' := 15) dL_ring_13 (by decide) rfl rfl ?_
    refine v_iconst (v := 1) (pc' := 16) dL_ring_15 rfl rfl ?_
    exact v_ireturn rfl dL_ring_16
-- who
def f_L_who (a0 : Nat) (x1 : Int32) (x2 : Int32) (a3 : Nat) : Mo Int32 := tc (cv 11 a0 (f_X11_who a0 x1 x2)) (fun v1 => bd (ls_ a3 0 (Int32.toInt64 v1)) fun _ => pu 0) (hn2 (pu 1) (pu 2))
set_option maxRecDepth 20000 in
theorem h_L_who (g : GW) (a0 : Nat) (x1 : Int32) (x2 : Int32) (a3 : Nat) : V g mL_who 12 rtI 0 [(0, rf g a0), (1, .int x1), (2, .int x2), (3, rf g a3)] [] (f_L_who a0 x1 x2 a3) := by
  unfold f_L_who
  refine v_aload_n (pc' := 1) 3 dL_who_0 rfl rfl rfl ?_
  refine v_iconst (v := 0) (pc' := 2) dL_who_1 rfl rfl ?_
  refine v_aload_n (pc' := 3) 0 dL_who_2 rfl rfl rfl ?_
  refine v_iload_n (pc' := 4) 1 dL_who_3 rfl rfl rfl ?_
  refine v_iload_n (pc' := 5) 2 dL_who_4 rfl rfl rfl ?_
  refine v_callH (vs := [.int x1, .int x2]) (pc' := 8) (h_X11_who g a0 x1 x2) mv_X11_who wl_L_62 rfl (Nat.le_of_ble_eq_true rfl) (by omega) (by decide) (Nat.le_of_ble_eq_true rfl) dL_who_5 rfl (fun v1 => ?_) (kh2 13 17 (Or.inl ⟨rfl, 0, 10, 31, _, rfl, ⟨by decide, by decide⟩, by decide, (tg4 215 (by decide +kernel) (by decide +kernel))⟩) (Or.inr (Or.inr ⟨rfl, 0, 10, 13, 0, 10, 13, 31, [], rfl, ⟨by decide, by decide⟩, by decide, (tg3 57 (by decide +kernel) (by decide +kernel)), by decide, (tg4 215 (by decide +kernel) (by decide +kernel))⟩)) (fun b2 => ?_) (fun b2 => ?_))
  · refine v_i2l (pc' := 9) dL_who_8 rfl ?_
    refine v_last (pc' := 10) dL_who_9 rfl ?_
    refine v_goto (t := 21) dL_who_10 (by decide) ?_
    refine v_iconst (v := 0) (pc' := 22) dL_who_21 rfl rfl ?_
    exact v_ireturn rfl dL_who_22
  · refine v_astore (lv' := [(4, rf g b2), (0, rf g a0), (1, .int x1), (2, .int x2), (3, rf g a3)]) (pc' := 15) dL_who_13 (by decide) rfl rfl ?_
    refine v_iconst (v := 1) (pc' := 16) dL_who_15 rfl rfl ?_
    exact v_ireturn rfl dL_who_16
  · refine v_astore (lv' := [(4, rf g b2), (0, rf g a0), (1, .int x1), (2, .int x2), (3, rf g a3)]) (pc' := 19) dL_who_17 (by decide) rfl rfl ?_
    refine v_iconst (v := 2) (pc' := 20) dL_who_19 rfl rfl ?_
    exact v_ireturn rfl dL_who_20
-- made
def f_L_made (a0 : Nat) (x1 : Int32) (a2 : Nat) : Mo Int32 := tc (cv 11 a0 (f_X11_made a0 x1)) (fun v1 => bd (ls_ a2 0 (Int32.toInt64 v1)) fun _ => pu 0) (hn1 14 (pu 1))
set_option maxRecDepth 20000 in
theorem h_L_made (g : GW) (a0 : Nat) (x1 : Int32) (a2 : Nat) : V g mL_made 11 rtI 0 [(0, rf g a0), (1, .int x1), (2, rf g a2)] [] (f_L_made a0 x1 a2) := by
  unfold f_L_made
  refine v_aload_n (pc' := 1) 2 dL_made_0 rfl rfl rfl ?_
  refine v_iconst (v := 0) (pc' := 2) dL_made_1 rfl rfl ?_
  refine v_aload_n (pc' := 3) 0 dL_made_2 rfl rfl rfl ?_
  refine v_iload_n (pc' := 4) 1 dL_made_3 rfl rfl rfl ?_
  refine v_callH (vs := [.int x1]) (pc' := 7) (h_X11_made g a0 x1) mv_X11_made wl_L_65 rfl (Nat.le_of_ble_eq_true rfl) (by omega) (by decide) (Nat.le_of_ble_eq_true rfl) dL_made_4 rfl (fun v1 => ?_) (kh1 12 (Or.inr (Or.inl ⟨rfl, 0, 9, 13, [], rfl, ⟨by decide, by decide⟩, by decide, (tg3 57 (by decide +kernel) (by decide +kernel))⟩)) fun b2 => ?_)
  · refine v_i2l (pc' := 8) dL_made_7 rfl ?_
    refine v_last (pc' := 9) dL_made_8 rfl ?_
    refine v_goto (t := 15) dL_made_9 (by decide) ?_
    refine v_iconst (v := 0) (pc' := 16) dL_made_15 rfl rfl ?_
    exact v_ireturn rfl dL_made_16
  · refine v_astore_n (lv' := [(3, rf g b2), (0, rf g a0), (1, .int x1), (2, rf g a2)]) (pc' := 13) dL_made_12 rfl (by decide) rfl rfl ?_
    refine v_iconst (v := 1) (pc' := 14) dL_made_13 rfl rfl ?_
    exact v_ireturn rfl dL_made_14
-- unknown
def f_L_unknown (a0 : Nat) (x1 : Int32) (a2 : Nat) : Mo Int32 := tc (cv 11 a0 (f_X11_unknown a0 x1)) (fun v1 => bd (ls_ a2 0 (Int32.toInt64 v1)) fun _ => pu 0) (hn1 14 (pu 1))
set_option maxRecDepth 20000 in
theorem h_L_unknown (g : GW) (a0 : Nat) (x1 : Int32) (a2 : Nat) : V g mL_unknown 11 rtI 0 [(0, rf g a0), (1, .int x1), (2, rf g a2)] [] (f_L_unknown a0 x1 a2) := by
  unfold f_L_unknown
  refine v_aload_n (pc' := 1) 2 dL_unknown_0 rfl rfl rfl ?_
  refine v_iconst (v := 0) (pc' := 2) dL_unknown_1 rfl rfl ?_
  refine v_aload_n (pc' := 3) 0 dL_unknown_2 rfl rfl rfl ?_
  refine v_iload_n (pc' := 4) 1 dL_unknown_3 rfl rfl rfl ?_
  refine v_callH (vs := [.int x1]) (pc' := 7) (h_X11_unknown g a0 x1) mv_X11_unknown wl_L_68 rfl (Nat.le_of_ble_eq_true rfl) (by omega) (by decide) (Nat.le_of_ble_eq_true rfl) dL_unknown_4 rfl (fun v1 => ?_) (kh1 12 (Or.inr (Or.inl ⟨rfl, 0, 9, 13, [], rfl, ⟨by decide, by decide⟩, by decide, (tg3 57 (by decide +kernel) (by decide +kernel))⟩)) fun b2 => ?_)
  · refine v_i2l (pc' := 8) dL_unknown_7 rfl ?_
    refine v_last (pc' := 9) dL_unknown_8 rfl ?_
    refine v_goto (t := 15) dL_unknown_9 (by decide) ?_
    refine v_iconst (v := 0) (pc' := 16) dL_unknown_15 rfl rfl ?_
    exact v_ireturn rfl dL_unknown_16
  · refine v_astore_n (lv' := [(3, rf g b2), (0, rf g a0), (1, .int x1), (2, rf g a2)]) (pc' := 13) dL_unknown_12 rfl (by decide) rfl rfl ?_
    refine v_iconst (v := 1) (pc' := 14) dL_unknown_13 rfl rfl ?_
    exact v_ireturn rfl dL_unknown_14
-- hold
def f_L_hold (a0 : Nat) (x1 : Int32) (a2 : Nat) : Mo Int32 := tc (cv 11 a0 (f_X11_hold a0 x1)) (fun v1 => bd (ls_ a2 0 (Int32.toInt64 v1)) fun _ => pu 0) (hn1 14 (pu 1))
set_option maxRecDepth 20000 in
theorem h_L_hold (g : GW) (a0 : Nat) (x1 : Int32) (a2 : Nat) : V g mL_hold 11 rtI 0 [(0, rf g a0), (1, .int x1), (2, rf g a2)] [] (f_L_hold a0 x1 a2) := by
  unfold f_L_hold
  refine v_aload_n (pc' := 1) 2 dL_hold_0 rfl rfl rfl ?_
  refine v_iconst (v := 0) (pc' := 2) dL_hold_1 rfl rfl ?_
  refine v_aload_n (pc' := 3) 0 dL_hold_2 rfl rfl rfl ?_
  refine v_iload_n (pc' := 4) 1 dL_hold_3 rfl rfl rfl ?_
  refine v_callH (vs := [.int x1]) (pc' := 7) (h_X11_hold g a0 x1) mv_X11_hold wl_L_71 rfl (Nat.le_of_ble_eq_true rfl) (by omega) (by decide) (Nat.le_of_ble_eq_true rfl) dL_hold_4 rfl (fun v1 => ?_) (kh1 12 (Or.inr (Or.inl ⟨rfl, 0, 9, 13, [], rfl, ⟨by decide, by decide⟩, by decide, (tg3 57 (by decide +kernel) (by decide +kernel))⟩)) fun b2 => ?_)
  · refine v_i2l (pc' := 8) dL_hold_7 rfl ?_
    refine v_last (pc' := 9) dL_hold_8 rfl ?_
    refine v_goto (t := 15) dL_hold_9 (by decide) ?_
    refine v_iconst (v := 0) (pc' := 16) dL_hold_15 rfl rfl ?_
    exact v_ireturn rfl dL_hold_16
  · refine v_astore_n (lv' := [(3, rf g b2), (0, rf g a0), (1, .int x1), (2, rf g a2)]) (pc' := 13) dL_hold_12 rfl (by decide) rfl rfl ?_
    refine v_iconst (v := 1) (pc' := 14) dL_hold_13 rfl rfl ?_
    exact v_ireturn rfl dL_hold_14
-- paper
def f_L_paper (a0 : Nat) (x1 : Int32) (a2 : Nat) : Mo Int32 := tc (cv 11 a0 (f_X11_paper a0 x1)) (fun v1 => bd (ls_ a2 0 (Int32.toInt64 v1)) fun _ => pu 0) (hn1 13 (pu 1))
set_option maxRecDepth 20000 in
theorem h_L_paper (g : GW) (a0 : Nat) (x1 : Int32) (a2 : Nat) : V g mL_paper 25 rtI 0 [(0, rf g a0), (1, .int x1), (2, rf g a2)] [] (f_L_paper a0 x1 a2) := by
  unfold f_L_paper
  refine v_aload_n (pc' := 1) 2 dL_paper_0 rfl rfl rfl ?_
  refine v_iconst (v := 0) (pc' := 2) dL_paper_1 rfl rfl ?_
  refine v_aload_n (pc' := 3) 0 dL_paper_2 rfl rfl rfl ?_
  refine v_iload_n (pc' := 4) 1 dL_paper_3 rfl rfl rfl ?_
  refine v_callH (vs := [.int x1]) (pc' := 7) (h_X11_paper g a0 x1) mv_X11_paper wl_L_74 rfl (Nat.le_of_ble_eq_true rfl) (by omega) (by decide) (Nat.le_of_ble_eq_true rfl) dL_paper_4 rfl (fun v1 => ?_) (kh1 12 (Or.inl ⟨rfl, 0, 9, 31, [], rfl, ⟨by decide, by decide⟩, by decide, (tg4 215 (by decide +kernel) (by decide +kernel))⟩) fun b2 => ?_)
  · refine v_i2l (pc' := 8) dL_paper_7 rfl ?_
    refine v_last (pc' := 9) dL_paper_8 rfl ?_
    refine v_goto (t := 15) dL_paper_9 (by decide) ?_
    refine v_iconst (v := 0) (pc' := 16) dL_paper_15 rfl rfl ?_
    exact v_ireturn rfl dL_paper_16
  · refine v_astore_n (lv' := [(3, rf g b2), (0, rf g a0), (1, .int x1), (2, rf g a2)]) (pc' := 13) dL_paper_12 rfl (by decide) rfl rfl ?_
    refine v_iconst (v := 1) (pc' := 14) dL_paper_13 rfl rfl ?_
    exact v_ireturn rfl dL_paper_14
-- bids
def f_L_bids (a0 : Nat) (x1 : Int32) (x2 : Int32) (x3 : Int32) (x4 : Int32) (a5 : Nat) : Mo Int32 := tc (cv 11 a0 (f_X11_bids a0 x1 x2 x3 x4)) (fun v1 => bd (ls_ a5 0 (Int32.toInt64 v1)) fun _ => pu 0) (hn1 14 (pu 1))
set_option maxRecDepth 20000 in
theorem h_L_bids (g : GW) (a0 : Nat) (x1 : Int32) (x2 : Int32) (x3 : Int32) (x4 : Int32) (a5 : Nat) : V g mL_bids 11 rtI 0 [(0, rf g a0), (1, .int x1), (2, .int x2), (3, .int x3), (4, .int x4), (5, rf g a5)] [] (f_L_bids a0 x1 x2 x3 x4 a5) := by
  unfold f_L_bids
  refine v_aload (pc' := 2) 5 dL_bids_0 rfl rfl ?_
  refine v_iconst (v := 0) (pc' := 3) dL_bids_2 rfl rfl ?_
  refine v_aload_n (pc' := 4) 0 dL_bids_3 rfl rfl rfl ?_
  refine v_iload_n (pc' := 5) 1 dL_bids_4 rfl rfl rfl ?_
  refine v_iload_n (pc' := 6) 2 dL_bids_5 rfl rfl rfl ?_
  refine v_iload_n (pc' := 7) 3 dL_bids_6 rfl rfl rfl ?_
  refine v_iload (pc' := 9) 4 dL_bids_7 rfl rfl ?_
  refine v_callH (vs := [.int x1, .int x2, .int x3, .int x4]) (pc' := 12) (h_X11_bids g a0 x1 x2 x3 x4) mv_X11_bids wl_L_77 rfl (Nat.le_of_ble_eq_true rfl) (by omega) (by decide) (Nat.le_of_ble_eq_true rfl) dL_bids_9 rfl (fun v1 => ?_) (kh1 17 (Or.inr (Or.inl ⟨rfl, 0, 14, 13, [], rfl, ⟨by decide, by decide⟩, by decide, (tg3 57 (by decide +kernel) (by decide +kernel))⟩)) fun b2 => ?_)
  · refine v_i2l (pc' := 13) dL_bids_12 rfl ?_
    refine v_last (pc' := 14) dL_bids_13 rfl ?_
    refine v_goto (t := 21) dL_bids_14 (by decide) ?_
    refine v_iconst (v := 0) (pc' := 22) dL_bids_21 rfl rfl ?_
    exact v_ireturn rfl dL_bids_22
  · refine v_astore (lv' := [(6, rf g b2), (0, rf g a0), (1, .int x1), (2, .int x2), (3, .int x3), (4, .int x4), (5, rf g a5)]) (pc' := 19) dL_bids_17 (by decide) rfl rfl ?_
    refine v_iconst (v := 1) (pc' := 20) dL_bids_19 rfl rfl ?_
    exact v_ireturn rfl dL_bids_20
-- share
def f_L_share (a0 : Nat) (x1 : Int32) (x2 : Int32) (x3 : Int32) (a4 : Nat) : Mo Int32 := tc (cv 11 a0 (f_X11_share a0 x1 x2 x3)) (fun v1 => bd (ls_ a4 0 (Int32.toInt64 v1)) fun _ => pu 0) (hn2 (pu 1) (pu 2))
set_option maxRecDepth 20000 in
theorem h_L_share (g : GW) (a0 : Nat) (x1 : Int32) (x2 : Int32) (x3 : Int32) (a4 : Nat) : V g mL_share 11 rtI 0 [(0, rf g a0), (1, .int x1), (2, .int x2), (3, .int x3), (4, rf g a4)] [] (f_L_share a0 x1 x2 x3 a4) := by
  unfold f_L_share
  refine v_aload (pc' := 2) 4 dL_share_0 rfl rfl ?_
  refine v_iconst (v := 0) (pc' := 3) dL_share_2 rfl rfl ?_
  refine v_aload_n (pc' := 4) 0 dL_share_3 rfl rfl rfl ?_
  refine v_iload_n (pc' := 5) 1 dL_share_4 rfl rfl rfl ?_
  refine v_iload_n (pc' := 6) 2 dL_share_5 rfl rfl rfl ?_
  refine v_iload_n (pc' := 7) 3 dL_share_6 rfl rfl rfl ?_
  refine v_callH (vs := [.int x1, .int x2, .int x3]) (pc' := 10) (h_X11_share g a0 x1 x2 x3) mv_X11_share wl_L_81 rfl (Nat.le_of_ble_eq_true rfl) (by omega) (by decide) (Nat.le_of_ble_eq_true rfl) dL_share_7 rfl (fun v1 => ?_) (kh2 15 19 (Or.inl ⟨rfl, 0, 12, 31, _, rfl, ⟨by decide, by decide⟩, by decide, (tg4 215 (by decide +kernel) (by decide +kernel))⟩) (Or.inr (Or.inr ⟨rfl, 0, 12, 13, 0, 12, 15, 31, [], rfl, ⟨by decide, by decide⟩, by decide, (tg3 57 (by decide +kernel) (by decide +kernel)), by decide, (tg4 215 (by decide +kernel) (by decide +kernel))⟩)) (fun b2 => ?_) (fun b2 => ?_))
  · refine v_i2l (pc' := 11) dL_share_10 rfl ?_
    refine v_last (pc' := 12) dL_share_11 rfl ?_
    refine v_goto (t := 23) dL_share_12 (by decide) ?_
    refine v_iconst (v := 0) (pc' := 24) dL_share_23 rfl rfl ?_
    exact v_ireturn rfl dL_share_24
  · refine v_astore (lv' := [(5, rf g b2), (0, rf g a0), (1, .int x1), (2, .int x2), (3, .int x3), (4, rf g a4)]) (pc' := 17) dL_share_15 (by decide) rfl rfl ?_
    refine v_iconst (v := 1) (pc' := 18) dL_share_17 rfl rfl ?_
    exact v_ireturn rfl dL_share_18
  · refine v_astore (lv' := [(5, rf g b2), (0, rf g a0), (1, .int x1), (2, .int x2), (3, .int x3), (4, rf g a4)]) (pc' := 21) dL_share_19 (by decide) rfl rfl ?_
    refine v_iconst (v := 2) (pc' := 22) dL_share_21 rfl rfl ?_
    exact v_ireturn rfl dL_share_22
-- busiest
def f_L_busiest (a0 : Nat) (x1 : Int32) (a2 : Nat) : Mo Int32 := tc (cv 11 a0 (f_X11_busiest a0 x1)) (fun v1 => bd (ls_ a2 0 (Int32.toInt64 v1)) fun _ => pu 0) (hn1 14 (pu 1))
set_option maxRecDepth 20000 in
theorem h_L_busiest (g : GW) (a0 : Nat) (x1 : Int32) (a2 : Nat) : V g mL_busiest 11 rtI 0 [(0, rf g a0), (1, .int x1), (2, rf g a2)] [] (f_L_busiest a0 x1 a2) := by
  unfold f_L_busiest
  refine v_aload_n (pc' := 1) 2 dL_busiest_0 rfl rfl rfl ?_
  refine v_iconst (v := 0) (pc' := 2) dL_busiest_1 rfl rfl ?_
  refine v_aload_n (pc' := 3) 0 dL_busiest_2 rfl rfl rfl ?_
  refine v_iload_n (pc' := 4) 1 dL_busiest_3 rfl rfl rfl ?_
  refine v_callH (vs := [.int x1]) (pc' := 7) (h_X11_busiest g a0 x1) mv_X11_busiest wl_L_84 rfl (Nat.le_of_ble_eq_true rfl) (by omega) (by decide) (Nat.le_of_ble_eq_true rfl) dL_busiest_4 rfl (fun v1 => ?_) (kh1 12 (Or.inr (Or.inl ⟨rfl, 0, 9, 13, [], rfl, ⟨by decide, by decide⟩, by decide, (tg3 57 (by decide +kernel) (by decide +kernel))⟩)) fun b2 => ?_)
  · refine v_i2l (pc' := 8) dL_busiest_7 rfl ?_
    refine v_last (pc' := 9) dL_busiest_8 rfl ?_
    refine v_goto (t := 15) dL_busiest_9 (by decide) ?_
    refine v_iconst (v := 0) (pc' := 16) dL_busiest_15 rfl rfl ?_
    exact v_ireturn rfl dL_busiest_16
  · refine v_astore_n (lv' := [(3, rf g b2), (0, rf g a0), (1, .int x1), (2, rf g a2)]) (pc' := 13) dL_busiest_12 rfl (by decide) rfl rfl ?_
    refine v_iconst (v := 1) (pc' := 14) dL_busiest_13 rfl rfl ?_
    exact v_ireturn rfl dL_busiest_14
-- where
def f_L_where (a0 : Nat) (x1 : Int32) (a2 : Nat) : Mo Int32 := tc (cv 11 a0 (f_X11_where a0 x1)) (fun v1 => bd (ls_ a2 0 (Int32.toInt64 v1)) fun _ => pu 0) (hn1 13 (pu 1))
set_option maxRecDepth 20000 in
theorem h_L_where (g : GW) (a0 : Nat) (x1 : Int32) (a2 : Nat) : V g mL_where 11 rtI 0 [(0, rf g a0), (1, .int x1), (2, rf g a2)] [] (f_L_where a0 x1 a2) := by
  unfold f_L_where
  refine v_aload_n (pc' := 1) 2 dL_where_0 rfl rfl rfl ?_
  refine v_iconst (v := 0) (pc' := 2) dL_where_1 rfl rfl ?_
  refine v_aload_n (pc' := 3) 0 dL_where_2 rfl rfl rfl ?_
  refine v_iload_n (pc' := 4) 1 dL_where_3 rfl rfl rfl ?_
  refine v_callH (vs := [.int x1]) (pc' := 7) (h_X11_where g a0 x1) mv_X11_where wl_L_87 rfl (Nat.le_of_ble_eq_true rfl) (by omega) (by decide) (Nat.le_of_ble_eq_true rfl) dL_where_4 rfl (fun v1 => ?_) (kh1 12 (Or.inl ⟨rfl, 0, 9, 31, [], rfl, ⟨by decide, by decide⟩, by decide, (tg4 215 (by decide +kernel) (by decide +kernel))⟩) fun b2 => ?_)
  · refine v_i2l (pc' := 8) dL_where_7 rfl ?_
    refine v_last (pc' := 9) dL_where_8 rfl ?_
    refine v_goto (t := 15) dL_where_9 (by decide) ?_
    refine v_iconst (v := 0) (pc' := 16) dL_where_15 rfl rfl ?_
    exact v_ireturn rfl dL_where_16
  · refine v_astore_n (lv' := [(3, rf g b2), (0, rf g a0), (1, .int x1), (2, rf g a2)]) (pc' := 13) dL_where_12 rfl (by decide) rfl rfl ?_
    refine v_iconst (v := 1) (pc' := 14) dL_where_13 rfl rfl ?_
    exact v_ireturn rfl dL_where_14
-- twins
def f_L_twins (a0 : Nat) (x1 : Int32) (a2 : Nat) : Mo Int32 := tc (cv 11 a0 (f_X11_twins a0 x1)) (fun v1 => bd (ls_ a2 0 (Int32.toInt64 v1)) fun _ => pu 0) (hn1 13 (pu 1))
set_option maxRecDepth 20000 in
theorem h_L_twins (g : GW) (a0 : Nat) (x1 : Int32) (a2 : Nat) : V g mL_twins 11 rtI 0 [(0, rf g a0), (1, .int x1), (2, rf g a2)] [] (f_L_twins a0 x1 a2) := by
  unfold f_L_twins
  refine v_aload_n (pc' := 1) 2 dL_twins_0 rfl rfl rfl ?_
  refine v_iconst (v := 0) (pc' := 2) dL_twins_1 rfl rfl ?_
  refine v_aload_n (pc' := 3) 0 dL_twins_2 rfl rfl rfl ?_
  refine v_iload_n (pc' := 4) 1 dL_twins_3 rfl rfl rfl ?_
  refine v_callH (vs := [.int x1]) (pc' := 7) (h_X11_twins g a0 x1) mv_X11_twins wl_L_90 rfl (Nat.le_of_ble_eq_true rfl) (by omega) (by decide) (Nat.le_of_ble_eq_true rfl) dL_twins_4 rfl (fun v1 => ?_) (kh1 12 (Or.inl ⟨rfl, 0, 9, 31, [], rfl, ⟨by decide, by decide⟩, by decide, (tg4 215 (by decide +kernel) (by decide +kernel))⟩) fun b2 => ?_)
  · refine v_i2l (pc' := 8) dL_twins_7 rfl ?_
    refine v_last (pc' := 9) dL_twins_8 rfl ?_
    refine v_goto (t := 15) dL_twins_9 (by decide) ?_
    refine v_iconst (v := 0) (pc' := 16) dL_twins_15 rfl rfl ?_
    exact v_ireturn rfl dL_twins_16
  · refine v_astore_n (lv' := [(3, rf g b2), (0, rf g a0), (1, .int x1), (2, rf g a2)]) (pc' := 13) dL_twins_12 rfl (by decide) rfl rfl ?_
    refine v_iconst (v := 1) (pc' := 14) dL_twins_13 rfl rfl ?_
    exact v_ireturn rfl dL_twins_14
-- chain
def f_L_chain (a0 : Nat) (x1 : Int32) (x2 : Int32) (a3 : Nat) : Mo Int32 := tc (cv 11 a0 (f_X11_chain a0 x1 x2)) (fun v1 => bd (ls_ a3 0 (Int32.toInt64 v1)) fun _ => pu 0) (hn1 13 (pu 1))
set_option maxRecDepth 20000 in
theorem h_L_chain (g : GW) (a0 : Nat) (x1 : Int32) (x2 : Int32) (a3 : Nat) : V g mL_chain 15 rtI 0 [(0, rf g a0), (1, .int x1), (2, .int x2), (3, rf g a3)] [] (f_L_chain a0 x1 x2 a3) := by
  unfold f_L_chain
  refine v_aload_n (pc' := 1) 3 dL_chain_0 rfl rfl rfl ?_
  refine v_iconst (v := 0) (pc' := 2) dL_chain_1 rfl rfl ?_
  refine v_aload_n (pc' := 3) 0 dL_chain_2 rfl rfl rfl ?_
  refine v_iload_n (pc' := 4) 1 dL_chain_3 rfl rfl rfl ?_
  refine v_iload_n (pc' := 5) 2 dL_chain_4 rfl rfl rfl ?_
  refine v_callH (vs := [.int x1, .int x2]) (pc' := 8) (h_X11_chain g a0 x1 x2) mv_X11_chain wl_L_93 rfl (Nat.le_of_ble_eq_true rfl) (by omega) (by decide) (Nat.le_of_ble_eq_true rfl) dL_chain_5 rfl (fun v1 => ?_) (kh1 13 (Or.inl ⟨rfl, 0, 10, 31, [], rfl, ⟨by decide, by decide⟩, by decide, (tg4 215 (by decide +kernel) (by decide +kernel))⟩) fun b2 => ?_)
  · refine v_i2l (pc' := 9) dL_chain_8 rfl ?_
    refine v_last (pc' := 10) dL_chain_9 rfl ?_
    refine v_goto (t := 17) dL_chain_10 (by decide) ?_
    refine v_iconst (v := 0) (pc' := 18) dL_chain_17 rfl rfl ?_
    exact v_ireturn rfl dL_chain_18
  · refine v_astore (lv' := [(4, rf g b2), (0, rf g a0), (1, .int x1), (2, .int x2), (3, rf g a3)]) (pc' := 15) dL_chain_13 (by decide) rfl rfl ?_
    refine v_iconst (v := 1) (pc' := 16) dL_chain_15 rfl rfl ?_
    exact v_ireturn rfl dL_chain_16
-- looks
def f_L_looks (a0 : Nat) (x1 : Int32) (x2 : Int32) (a3 : Nat) : Mo Int32 := tc (cv 11 a0 (f_X11_looks a0 x1 x2)) (fun v1 => bd (ls_ a3 0 (Int32.toInt64 v1)) fun _ => pu 0) (hn2 (pu 1) (pu 2))
set_option maxRecDepth 20000 in
theorem h_L_looks (g : GW) (a0 : Nat) (x1 : Int32) (x2 : Int32) (a3 : Nat) : V g mL_looks 11 rtI 0 [(0, rf g a0), (1, .int x1), (2, .int x2), (3, rf g a3)] [] (f_L_looks a0 x1 x2 a3) := by
  unfold f_L_looks
  refine v_aload_n (pc' := 1) 3 dL_looks_0 rfl rfl rfl ?_
  refine v_iconst (v := 0) (pc' := 2) dL_looks_1 rfl rfl ?_
  refine v_aload_n (pc' := 3) 0 dL_looks_2 rfl rfl rfl ?_
  refine v_iload_n (pc' := 4) 1 dL_looks_3 rfl rfl rfl ?_
  refine v_iload_n (pc' := 5) 2 dL_looks_4 rfl rfl rfl ?_
  refine v_callH (vs := [.int x1, .int x2]) (pc' := 8) (h_X11_looks g a0 x1 x2) mv_X11_looks wl_L_96 rfl (Nat.le_of_ble_eq_true rfl) (by omega) (by decide) (Nat.le_of_ble_eq_true rfl) dL_looks_5 rfl (fun v1 => ?_) (kh2 13 17 (Or.inl ⟨rfl, 0, 10, 31, _, rfl, ⟨by decide, by decide⟩, by decide, (tg4 215 (by decide +kernel) (by decide +kernel))⟩) (Or.inr (Or.inr ⟨rfl, 0, 10, 13, 0, 10, 13, 31, [], rfl, ⟨by decide, by decide⟩, by decide, (tg3 57 (by decide +kernel) (by decide +kernel)), by decide, (tg4 215 (by decide +kernel) (by decide +kernel))⟩)) (fun b2 => ?_) (fun b2 => ?_))
  · refine v_i2l (pc' := 9) dL_looks_8 rfl ?_
    refine v_last (pc' := 10) dL_looks_9 rfl ?_
    refine v_goto (t := 21) dL_looks_10 (by decide) ?_
    refine v_iconst (v := 0) (pc' := 22) dL_looks_21 rfl rfl ?_
    exact v_ireturn rfl dL_looks_22
  · refine v_astore (lv' := [(4, rf g b2), (0, rf g a0), (1, .int x1), (2, .int x2), (3, rf g a3)]) (pc' := 15) dL_looks_13 (by decide) rfl rfl ?_
    refine v_iconst (v := 1) (pc' := 16) dL_looks_15 rfl rfl ?_
    exact v_ireturn rfl dL_looks_16
  · refine v_astore (lv' := [(4, rf g b2), (0, rf g a0), (1, .int x1), (2, .int x2), (3, rf g a3)]) (pc' := 19) dL_looks_17 (by decide) rfl rfl ?_
    refine v_iconst (v := 2) (pc' := 20) dL_looks_19 rfl rfl ?_
    exact v_ireturn rfl dL_looks_20
-- cheapest
def f_L_cheapest (a0 : Nat) (x1 : Int32) (x2 : Int32) (a3 : Nat) : Mo Int32 := tc (cv 11 a0 (f_X11_cheapest a0 x1 x2)) (fun v1 => bd (ls_ a3 0 (Int32.toInt64 v1)) fun _ => pu 0) (hn1 14 (pu 1))
set_option maxRecDepth 20000 in
theorem h_L_cheapest (g : GW) (a0 : Nat) (x1 : Int32) (x2 : Int32) (a3 : Nat) : V g mL_cheapest 15 rtI 0 [(0, rf g a0), (1, .int x1), (2, .int x2), (3, rf g a3)] [] (f_L_cheapest a0 x1 x2 a3) := by
  unfold f_L_cheapest
  refine v_aload_n (pc' := 1) 3 dL_cheapest_0 rfl rfl rfl ?_
  refine v_iconst (v := 0) (pc' := 2) dL_cheapest_1 rfl rfl ?_
  refine v_aload_n (pc' := 3) 0 dL_cheapest_2 rfl rfl rfl ?_
  refine v_iload_n (pc' := 4) 1 dL_cheapest_3 rfl rfl rfl ?_
  refine v_iload_n (pc' := 5) 2 dL_cheapest_4 rfl rfl rfl ?_
  refine v_callH (vs := [.int x1, .int x2]) (pc' := 8) (h_X11_cheapest g a0 x1 x2) mv_X11_cheapest wl_L_99 rfl (Nat.le_of_ble_eq_true rfl) (by omega) (by decide) (Nat.le_of_ble_eq_true rfl) dL_cheapest_5 rfl (fun v1 => ?_) (kh1 13 (Or.inr (Or.inl ⟨rfl, 0, 10, 13, [], rfl, ⟨by decide, by decide⟩, by decide, (tg3 57 (by decide +kernel) (by decide +kernel))⟩)) fun b2 => ?_)
  · refine v_i2l (pc' := 9) dL_cheapest_8 rfl ?_
    refine v_last (pc' := 10) dL_cheapest_9 rfl ?_
    refine v_goto (t := 17) dL_cheapest_10 (by decide) ?_
    refine v_iconst (v := 0) (pc' := 18) dL_cheapest_17 rfl rfl ?_
    exact v_ireturn rfl dL_cheapest_18
  · refine v_astore (lv' := [(4, rf g b2), (0, rf g a0), (1, .int x1), (2, .int x2), (3, rf g a3)]) (pc' := 15) dL_cheapest_13 (by decide) rfl rfl ?_
    refine v_iconst (v := 1) (pc' := 16) dL_cheapest_15 rfl rfl ?_
    exact v_ireturn rfl dL_cheapest_16
-- common
def f_L_common (a0 : Nat) (x1 : Int32) (a2 : Nat) : Mo Int32 := tc (cv 11 a0 (f_X11_common a0 x1)) (fun v1 => bd (ls_ a2 0 (Int32.toInt64 v1)) fun _ => pu 0) (hn1 14 (pu 1))
set_option maxRecDepth 20000 in
theorem h_L_common (g : GW) (a0 : Nat) (x1 : Int32) (a2 : Nat) : V g mL_common 11 rtI 0 [(0, rf g a0), (1, .int x1), (2, rf g a2)] [] (f_L_common a0 x1 a2) := by
  unfold f_L_common
  refine v_aload_n (pc' := 1) 2 dL_common_0 rfl rfl rfl ?_
  refine v_iconst (v := 0) (pc' := 2) dL_common_1 rfl rfl ?_
  refine v_aload_n (pc' := 3) 0 dL_common_2 rfl rfl rfl ?_
  refine v_iload_n (pc' := 4) 1 dL_common_3 rfl rfl rfl ?_
  refine v_callH (vs := [.int x1]) (pc' := 7) (h_X11_common g a0 x1) mv_X11_common wl_L_102 rfl (Nat.le_of_ble_eq_true rfl) (by omega) (by decide) (Nat.le_of_ble_eq_true rfl) dL_common_4 rfl (fun v1 => ?_) (kh1 12 (Or.inr (Or.inl ⟨rfl, 0, 9, 13, [], rfl, ⟨by decide, by decide⟩, by decide, (tg3 57 (by decide +kernel) (by decide +kernel))⟩)) fun b2 => ?_)
  · refine v_i2l (pc' := 8) dL_common_7 rfl ?_
    refine v_last (pc' := 9) dL_common_8 rfl ?_
    refine v_goto (t := 15) dL_common_9 (by decide) ?_
    refine v_iconst (v := 0) (pc' := 16) dL_common_15 rfl rfl ?_
    exact v_ireturn rfl dL_common_16
  · refine v_astore_n (lv' := [(3, rf g b2), (0, rf g a0), (1, .int x1), (2, rf g a2)]) (pc' := 13) dL_common_12 rfl (by decide) rfl rfl ?_
    refine v_iconst (v := 1) (pc' := 14) dL_common_13 rfl rfl ?_
    exact v_ireturn rfl dL_common_14
-- moodFor
def f_L_moodFor (a0 : Nat) (x1 : Int32) (x2 : Int32) (a3 : Nat) : Mo Int32 := tc (cv 11 a0 (f_X11_moodFor a0 x1 x2)) (fun v1 => bd (ls_ a3 0 (Int32.toInt64 v1)) fun _ => pu 0) (hn1 13 (pu 1))
set_option maxRecDepth 20000 in
theorem h_L_moodFor (g : GW) (a0 : Nat) (x1 : Int32) (x2 : Int32) (a3 : Nat) : V g mL_moodFor 13 rtI 0 [(0, rf g a0), (1, .int x1), (2, .int x2), (3, rf g a3)] [] (f_L_moodFor a0 x1 x2 a3) := by
  unfold f_L_moodFor
  refine v_aload_n (pc' := 1) 3 dL_moodFor_0 rfl rfl rfl ?_
  refine v_iconst (v := 0) (pc' := 2) dL_moodFor_1 rfl rfl ?_
  refine v_aload_n (pc' := 3) 0 dL_moodFor_2 rfl rfl rfl ?_
  refine v_iload_n (pc' := 4) 1 dL_moodFor_3 rfl rfl rfl ?_
  refine v_iload_n (pc' := 5) 2 dL_moodFor_4 rfl rfl rfl ?_
  refine v_callH (vs := [.int x1, .int x2]) (pc' := 8) (h_X11_moodFor g a0 x1 x2) mv_X11_moodFor wl_L_105 rfl (Nat.le_of_ble_eq_true rfl) (by omega) (by decide) (Nat.le_of_ble_eq_true rfl) dL_moodFor_5 rfl (fun v1 => ?_) (kh1 13 (Or.inl ⟨rfl, 0, 10, 31, [], rfl, ⟨by decide, by decide⟩, by decide, (tg4 215 (by decide +kernel) (by decide +kernel))⟩) fun b2 => ?_)
  · refine v_i2l (pc' := 9) dL_moodFor_8 rfl ?_
    refine v_last (pc' := 10) dL_moodFor_9 rfl ?_
    refine v_goto (t := 17) dL_moodFor_10 (by decide) ?_
    refine v_iconst (v := 0) (pc' := 18) dL_moodFor_17 rfl rfl ?_
    exact v_ireturn rfl dL_moodFor_18
  · refine v_astore (lv' := [(4, rf g b2), (0, rf g a0), (1, .int x1), (2, .int x2), (3, rf g a3)]) (pc' := 15) dL_moodFor_13 (by decide) rfl rfl ?_
    refine v_iconst (v := 1) (pc' := 16) dL_moodFor_15 rfl rfl ?_
    exact v_ireturn rfl dL_moodFor_16
-- lost
def f_L_lost (a0 : Nat) (x1 : Int32) (a2 : Nat) : Mo Int32 := tc (cv 11 a0 (f_X11_lost a0 x1)) (fun v1 => bd (ls_ a2 0 (Int32.toInt64 v1)) fun _ => pu 0) (hn1 13 (pu 1))
set_option maxRecDepth 20000 in
theorem h_L_lost (g : GW) (a0 : Nat) (x1 : Int32) (a2 : Nat) : V g mL_lost 11 rtI 0 [(0, rf g a0), (1, .int x1), (2, rf g a2)] [] (f_L_lost a0 x1 a2) := by
  unfold f_L_lost
  refine v_aload_n (pc' := 1) 2 dL_lost_0 rfl rfl rfl ?_
  refine v_iconst (v := 0) (pc' := 2) dL_lost_1 rfl rfl ?_
  refine v_aload_n (pc' := 3) 0 dL_lost_2 rfl rfl rfl ?_
  refine v_iload_n (pc' := 4) 1 dL_lost_3 rfl rfl rfl ?_
  refine v_callH (vs := [.int x1]) (pc' := 7) (h_X11_lost g a0 x1) mv_X11_lost wl_L_108 rfl (Nat.le_of_ble_eq_true rfl) (by omega) (by decide) (Nat.le_of_ble_eq_true rfl) dL_lost_4 rfl (fun v1 => ?_) (kh1 12 (Or.inl ⟨rfl, 0, 9, 31, [], rfl, ⟨by decide, by decide⟩, by decide, (tg4 215 (by decide +kernel) (by decide +kernel))⟩) fun b2 => ?_)
  · refine v_i2l (pc' := 8) dL_lost_7 rfl ?_
    refine v_last (pc' := 9) dL_lost_8 rfl ?_
    refine v_goto (t := 15) dL_lost_9 (by decide) ?_
    refine v_iconst (v := 0) (pc' := 16) dL_lost_15 rfl rfl ?_
    exact v_ireturn rfl dL_lost_16
  · refine v_astore_n (lv' := [(3, rf g b2), (0, rf g a0), (1, .int x1), (2, rf g a2)]) (pc' := 13) dL_lost_12 rfl (by decide) rfl rfl ?_
    refine v_iconst (v := 1) (pc' := 14) dL_lost_13 rfl rfl ?_
    exact v_ireturn rfl dL_lost_14
-- faces
def f_L_faces (a0 : Nat) (x1 : Int32) (x2 : Int32) (a3 : Nat) : Mo Int32 := tc (cv 11 a0 (f_X11_faces a0 x1 x2)) (fun v1 => bd (ls_ a3 0 (Int32.toInt64 v1)) fun _ => pu 0) (hn2 (pu 1) (pu 2))
set_option maxRecDepth 20000 in
theorem h_L_faces (g : GW) (a0 : Nat) (x1 : Int32) (x2 : Int32) (a3 : Nat) : V g mL_faces 11 rtI 0 [(0, rf g a0), (1, .int x1), (2, .int x2), (3, rf g a3)] [] (f_L_faces a0 x1 x2 a3) := by
  unfold f_L_faces
  refine v_aload_n (pc' := 1) 3 dL_faces_0 rfl rfl rfl ?_
  refine v_iconst (v := 0) (pc' := 2) dL_faces_1 rfl rfl ?_
  refine v_aload_n (pc' := 3) 0 dL_faces_2 rfl rfl rfl ?_
  refine v_iload_n (pc' := 4) 1 dL_faces_3 rfl rfl rfl ?_
  refine v_iload_n (pc' := 5) 2 dL_faces_4 rfl rfl rfl ?_
  refine v_callH (vs := [.int x1, .int x2]) (pc' := 8) (h_X11_faces g a0 x1 x2) mv_X11_faces wl_L_111 rfl (Nat.le_of_ble_eq_true rfl) (by omega) (by decide) (Nat.le_of_ble_eq_true rfl) dL_faces_5 rfl (fun v1 => ?_) (kh2 13 17 (Or.inl ⟨rfl, 0, 10, 31, _, rfl, ⟨by decide, by decide⟩, by decide, (tg4 215 (by decide +kernel) (by decide +kernel))⟩) (Or.inr (Or.inr ⟨rfl, 0, 10, 13, 0, 10, 13, 31, [], rfl, ⟨by decide, by decide⟩, by decide, (tg3 57 (by decide +kernel) (by decide +kernel)), by decide, (tg4 215 (by decide +kernel) (by decide +kernel))⟩)) (fun b2 => ?_) (fun b2 => ?_))
  · refine v_i2l (pc' := 9) dL_faces_8 rfl ?_
    refine v_last (pc' := 10) dL_faces_9 rfl ?_
    refine v_goto (t := 21) dL_faces_10 (by decide) ?_
    refine v_iconst (v := 0) (pc' := 22) dL_faces_21 rfl rfl ?_
    exact v_ireturn rfl dL_faces_22
  · refine v_astore (lv' := [(4, rf g b2), (0, rf g a0), (1, .int x1), (2, .int x2), (3, rf g a3)]) (pc' := 15) dL_faces_13 (by decide) rfl rfl ?_
    refine v_iconst (v := 1) (pc' := 16) dL_faces_15 rfl rfl ?_
    exact v_ireturn rfl dL_faces_16
  · refine v_astore (lv' := [(4, rf g b2), (0, rf g a0), (1, .int x1), (2, .int x2), (3, rf g a3)]) (pc' := 19) dL_faces_17 (by decide) rfl rfl ?_
    refine v_iconst (v := 2) (pc' := 20) dL_faces_19 rfl rfl ?_
    exact v_ireturn rfl dL_faces_20
-- years
def f_L_years (a0 : Nat) (x1 : Int32) (x2 : Int32) (x3 : Int32) (x4 : Int32) (a5 : Nat) : Mo Int32 := tc (cv 11 a0 (f_X11_years a0 x1 x2 x3 x4)) (fun v1 => bd (ls_ a5 0 (Int32.toInt64 v1)) fun _ => pu 0) (hn1 14 (pu 1))
set_option maxRecDepth 20000 in
theorem h_L_years (g : GW) (a0 : Nat) (x1 : Int32) (x2 : Int32) (x3 : Int32) (x4 : Int32) (a5 : Nat) : V g mL_years 15 rtI 0 [(0, rf g a0), (1, .int x1), (2, .int x2), (3, .int x3), (4, .int x4), (5, rf g a5)] [] (f_L_years a0 x1 x2 x3 x4 a5) := by
  unfold f_L_years
  refine v_aload (pc' := 2) 5 dL_years_0 rfl rfl ?_
  refine v_iconst (v := 0) (pc' := 3) dL_years_2 rfl rfl ?_
  refine v_aload_n (pc' := 4) 0 dL_years_3 rfl rfl rfl ?_
  refine v_iload_n (pc' := 5) 1 dL_years_4 rfl rfl rfl ?_
  refine v_iload_n (pc' := 6) 2 dL_years_5 rfl rfl rfl ?_
  refine v_iload_n (pc' := 7) 3 dL_years_6 rfl rfl rfl ?_
  refine v_iload (pc' := 9) 4 dL_years_7 rfl rfl ?_
  refine v_callH (vs := [.int x1, .int x2, .int x3, .int x4]) (pc' := 12) (h_X11_years g a0 x1 x2 x3 x4) mv_X11_years wl_L_114 rfl (Nat.le_of_ble_eq_true rfl) (by omega) (by decide) (Nat.le_of_ble_eq_true rfl) dL_years_9 rfl (fun v1 => ?_) (kh1 17 (Or.inr (Or.inl ⟨rfl, 0, 14, 13, [], rfl, ⟨by decide, by decide⟩, by decide, (tg3 57 (by decide +kernel) (by decide +kernel))⟩)) fun b2 => ?_)
  · refine v_i2l (pc' := 13) dL_years_12 rfl ?_
    refine v_last (pc' := 14) dL_years_13 rfl ?_
    refine v_goto (t := 21) dL_years_14 (by decide) ?_
    refine v_iconst (v := 0) (pc' := 22) dL_years_21 rfl rfl ?_
    exact v_ireturn rfl dL_years_22
  · refine v_astore (lv' := [(6, rf g b2), (0, rf g a0), (1, .int x1), (2, .int x2), (3, .int x3), (4, .int x4), (5, rf g a5)]) (pc' := 19) dL_years_17 (by decide) rfl rfl ?_
    refine v_iconst (v := 1) (pc' := 20) dL_years_19 rfl rfl ?_
    exact v_ireturn rfl dL_years_20
-- span
def f_L_span (a0 : Nat) (x1 : Int32) (x2 : Int32) (x3 : Int32) (x4 : Int32) (x5 : Int32) (x6 : Int32) (a7 : Nat) : Mo Int32 := tc (cv 11 a0 (f_X11_span a0 x1 x2 x3 x4 x5 x6)) (fun v1 => bd (ls_ a7 0 (Int32.toInt64 v1)) fun _ => pu 0) (hn1 14 (pu 1))
set_option maxRecDepth 20000 in
theorem h_L_span (g : GW) (a0 : Nat) (x1 : Int32) (x2 : Int32) (x3 : Int32) (x4 : Int32) (x5 : Int32) (x6 : Int32) (a7 : Nat) : V g mL_span 15 rtI 0 [(0, rf g a0), (1, .int x1), (2, .int x2), (3, .int x3), (4, .int x4), (5, .int x5), (6, .int x6), (7, rf g a7)] [] (f_L_span a0 x1 x2 x3 x4 x5 x6 a7) := by
  unfold f_L_span
  refine v_aload (pc' := 2) 7 dL_span_0 rfl rfl ?_
  refine v_iconst (v := 0) (pc' := 3) dL_span_2 rfl rfl ?_
  refine v_aload_n (pc' := 4) 0 dL_span_3 rfl rfl rfl ?_
  refine v_iload_n (pc' := 5) 1 dL_span_4 rfl rfl rfl ?_
  refine v_iload_n (pc' := 6) 2 dL_span_5 rfl rfl rfl ?_
  refine v_iload_n (pc' := 7) 3 dL_span_6 rfl rfl rfl ?_
  refine v_iload (pc' := 9) 4 dL_span_7 rfl rfl ?_
  refine v_iload (pc' := 11) 5 dL_span_9 rfl rfl ?_
  refine v_iload (pc' := 13) 6 dL_span_11 rfl rfl ?_
  refine v_callH (vs := [.int x1, .int x2, .int x3, .int x4, .int x5, .int x6]) (pc' := 16) (h_X11_span g a0 x1 x2 x3 x4 x5 x6) mv_X11_span wl_L_117 rfl (Nat.le_of_ble_eq_true rfl) (by omega) (by decide) (Nat.le_of_ble_eq_true rfl) dL_span_13 rfl (fun v1 => ?_) (kh1 21 (Or.inr (Or.inl ⟨rfl, 0, 18, 13, [], rfl, ⟨by decide, by decide⟩, by decide, (tg3 57 (by decide +kernel) (by decide +kernel))⟩)) fun b2 => ?_)
  · refine v_i2l (pc' := 17) dL_span_16 rfl ?_
    refine v_last (pc' := 18) dL_span_17 rfl ?_
    refine v_goto (t := 25) dL_span_18 (by decide) ?_
    refine v_iconst (v := 0) (pc' := 26) dL_span_25 rfl rfl ?_
    exact v_ireturn rfl dL_span_26
  · refine v_astore (lv' := [(8, rf g b2), (0, rf g a0), (1, .int x1), (2, .int x2), (3, .int x3), (4, .int x4), (5, .int x5), (6, .int x6), (7, rf g a7)]) (pc' := 23) dL_span_21 (by decide) rfl rfl ?_
    refine v_iconst (v := 1) (pc' := 24) dL_span_23 rfl rfl ?_
    exact v_ireturn rfl dL_span_24
