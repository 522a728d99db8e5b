theorem dL_town_0 : decode cL_town 0 = .ok (.aload_n 2, 1) := by decide +kernel
theorem dL_town_1 : decode cL_town 1 = .ok (.iconst 0, 1) := by decide +kernel
theorem dL_town_2 : decode cL_town 2 = .ok (.aload_n 0, 1) := by decide +kernel
theorem dL_town_3 : decode cL_town 3 = .ok (.iload_n 1, 1) := by decide +kernel
theorem dL_town_4 : decode cL_town 4 = .ok (.invokevirtual 7, 3) := by decide +kernel
theorem dL_town_7 : decode cL_town 7 = .ok (.i2l, 1) := by decide +kernel
theorem dL_town_8 : decode cL_town 8 = .ok (.lastore, 1) := by decide +kernel
theorem dL_town_9 : decode cL_town 9 = .ok (.goto 6, 3) := by decide +kernel
theorem dL_town_12 : decode cL_town 12 = .ok (.astore_n 3, 1) := by decide +kernel
theorem dL_town_13 : decode cL_town 13 = .ok (.iconst 1, 1) := by decide +kernel
theorem dL_town_14 : decode cL_town 14 = .ok (.ireturn, 1) := by decide +kernel
theorem dL_town_15 : decode cL_town 15 = .ok (.iconst 0, 1) := by decide +kernel
theorem dL_town_16 : decode cL_town 16 = .ok (.ireturn, 1) := by decide +kernel
theorem dL_law_0 : decode cL_law 0 = .ok (.aload_n 2, 1) := by decide +kernel
theorem dL_law_1 : decode cL_law 1 = .ok (.iconst 0, 1) := by decide +kernel
theorem dL_law_2 : decode cL_law 2 = .ok (.aload_n 0, 1) := by decide +kernel
theorem dL_law_3 : decode cL_law 3 = .ok (.iload_n 1, 1) := by decide +kernel
theorem dL_law_4 : decode cL_law 4 = .ok (.invokevirtual 15, 3) := by decide +kernel
theorem dL_law_7 : decode cL_law 7 = .ok (.i2l, 1) := by decide +kernel
theorem dL_law_8 : decode cL_law 8 = .ok (.lastore, 1) := by decide +kernel
theorem dL_law_9 : decode cL_law 9 = .ok (.goto 6, 3) := by decide +kernel
theorem dL_law_12 : decode cL_law 12 = .ok (.astore_n 3, 1) := by decide +kernel
theorem dL_law_13 : decode cL_law 13 = .ok (.iconst 1, 1) := by decide +kernel
theorem dL_law_14 : decode cL_law 14 = .ok (.ireturn, 1) := by decide +kernel
theorem dL_law_15 : decode cL_law 15 = .ok (.iconst 0, 1) := by decide +kernel
theorem dL_law_16 : decode cL_law 16 = .ok (.ireturn, 1) := by decide +kernel
theorem dL_work_0 : decode cL_work 0 = .ok (.aload_n 2, 1) := by decide +kernel
theorem dL_work_1 : decode cL_work 1 = .ok (.iconst 0, 1) := by decide +kernel
theorem dL_work_2 : decode cL_work 2 = .ok (.aload_n 0, 1) := by decide +kernel
theorem dL_work_3 : decode cL_work 3 = .ok (.iload_n 1, 1) := by decide +kernel
theorem dL_work_4 : decode cL_work 4 = .ok (.invokevirtual 18, 3) := by decide +kernel
theorem dL_work_7 : decode cL_work 7 = .ok (.i2l, 1) := by decide +kernel
theorem dL_work_8 : decode cL_work 8 = .ok (.lastore, 1) := by decide +kernel
theorem dL_work_9 : decode cL_work 9 = .ok (.goto 6, 3) := by decide +kernel
theorem dL_work_12 : decode cL_work 12 = .ok (.astore_n 3, 1) := by decide +kernel
theorem dL_work_13 : decode cL_work 13 = .ok (.iconst 1, 1) := by decide +kernel
theorem dL_work_14 : decode cL_work 14 = .ok (.ireturn, 1) := by decide +kernel
theorem dL_work_15 : decode cL_work 15 = .ok (.iconst 0, 1) := by decide +kernel
theorem dL_work_16 : decode cL_work 16 = .ok (.ireturn, 1) := by decide +kernel
theorem dL_words_0 : decode cL_words 0 = .ok (.aload_n 2, 1) := by decide +kernel
theorem dL_words_1 : decode cL_words 1 = .ok (.iconst 0, 1) := by decide +kernel
theorem dL_words_2 : decode cL_words 2 = .ok (.aload_n 0, 1) := by decide +kernel
theorem dL_words_3 : decode cL_words 3 = .ok (.iload_n 1, 1) := by decide +kernel
theorem dL_words_4 : decode cL_words 4 = .ok (.invokevirtual 21, 3) := by decide +kernel
theorem dL_words_7 : decode cL_words 7 = .ok (.i2l, 1) := by decide +kernel
theorem dL_words_8 : decode cL_words 8 = .ok (.lastore, 1) := by decide +kernel
theorem dL_words_9 : decode cL_words 9 = .ok (.goto 6, 3) := by decide +kernel
theorem dL_words_12 : decode cL_words 12 = .ok (.astore_n 3, 1) := by decide +kernel
theorem dL_words_13 : decode cL_words 13 = .ok (.iconst 1, 1) := by decide +kernel
theorem dL_words_14 : decode cL_words 14 = .ok (.ireturn, 1) := by decide +kernel
theorem dL_words_15 : decode cL_words 15 = .ok (.iconst 0, 1) := by decide +kernel
theorem dL_words_16 : decode cL_words 16 = .ok (.ireturn, 1) := by decide +kernel
theorem dL_told_0 : decode cL_told 0 = .ok (.aload_n 2, 1) := by decide +kernel
theorem dL_told_1 : decode cL_told 1 = .ok (.iconst 0, 1) := by decide +kernel
theorem dL_told_2 : decode cL_told 2 = .ok (.aload_n 0, 1) := by decide +kernel
theorem dL_told_3 : decode cL_told 3 = .ok (.iload_n 1, 1) := by decide +kernel
theorem dL_told_4 : decode cL_told 4 = .ok (.invokevirtual 24, 3) := by decide +kernel
theorem dL_told_7 : decode cL_told 7 = .ok (.i2l, 1) := by decide +kernel
theorem dL_told_8 : decode cL_told 8 = .ok (.lastore, 1) := by decide +kernel
theorem dL_told_9 : decode cL_told 9 = .ok (.goto 6, 3) := by decide +kernel
theorem dL_told_12 : decode cL_told 12 = .ok (.astore_n 3, 1) := by decide +kernel
theorem dL_told_13 : decode cL_told 13 = .ok (.iconst 1, 1) := by decide +kernel
theorem dL_told_14 : decode cL_told 14 = .ok (.ireturn, 1) := by decide +kernel
theorem dL_told_15 : decode cL_told 15 = .ok (.iconst 0, 1) := by decide +kernel
theorem dL_told_16 : decode cL_told 16 = .ok (.ireturn, 1) := by decide +kernel
theorem dL_person_0 : decode cL_person 0 = .ok (.aload_n 3, 1) := by decide +kernel
theorem dL_person_1 : decode cL_person 1 = .ok (.iconst 0, 1) := by decide +kernel
theorem dL_person_2 : decode cL_person 2 = .ok (.aload_n 0, 1) := by decide +kernel
theorem dL_person_3 : decode cL_person 3 = .ok (.iload_n 1, 1) := by decide +kernel
theorem dL_person_4 : decode cL_person 4 = .ok (.iload_n 2, 1) := by decide +kernel
theorem dL_person_5 : decode cL_person 5 = .ok (.invokevirtual 27, 3) := by decide +kernel
theorem dL_person_8 : decode cL_person 8 = .ok (.i2l, 1) := by decide +kernel
theorem dL_person_9 : decode cL_person 9 = .ok (.lastore, 1) := by decide +kernel
theorem dL_person_10 : decode cL_person 10 = .ok (.goto 11, 3) := by decide +kernel
theorem dL_person_13 : decode cL_person 13 = .ok (.astore 4, 2) := by decide +kernel
theorem dL_person_15 : decode cL_person 15 = .ok (.iconst 1, 1) := by decide +kernel
theorem dL_person_16 : decode cL_person 16 = .ok (.ireturn, 1) := by decide +kernel
theorem dL_person_17 : decode cL_person 17 = .ok (.astore 4, 2) := by decide +kernel
theorem dL_person_19 : decode cL_person 19 = .ok (.iconst 2, 1) := by decide +kernel
theorem dL_person_20 : decode cL_person 20 = .ok (.ireturn, 1) := by decide +kernel
theorem dL_person_21 : decode cL_person 21 = .ok (.iconst 0, 1) := by decide +kernel
theorem dL_person_22 : decode cL_person 22 = .ok (.ireturn, 1) := by decide +kernel
theorem dL_plate_0 : decode cL_plate 0 = .ok (.aload_n 3, 1) := by decide +kernel
theorem dL_plate_1 : decode cL_plate 1 = .ok (.iconst 0, 1) := by decide +kernel
theorem dL_plate_2 : decode cL_plate 2 = .ok (.aload_n 0, 1) := by decide +kernel
theorem dL_plate_3 : decode cL_plate 3 = .ok (.iload_n 1, 1) := by decide +kernel
theorem dL_plate_4 : decode cL_plate 4 = .ok (.iload_n 2, 1) := by decide +kernel
theorem dL_plate_5 : decode cL_plate 5 = .ok (.invokevirtual 33, 3) := by decide +kernel
theorem dL_plate_8 : decode cL_plate 8 = .ok (.i2l, 1) := by decide +kernel
theorem dL_plate_9 : decode cL_plate 9 = .ok (.lastore, 1) := by decide +kernel
theorem dL_plate_10 : decode cL_plate 10 = .ok (.goto 11, 3) := by decide +kernel
theorem dL_plate_13 : decode cL_plate 13 = .ok (.astore 4, 2) := by decide +kernel
theorem dL_plate_15 : decode cL_plate 15 = .ok (.iconst 1, 1) := by decide +kernel
theorem dL_plate_16 : decode cL_plate 16 = .ok (.ireturn, 1) := by decide +kernel
theorem dL_plate_17 : decode cL_plate 17 = .ok (.astore 4, 2) := by decide +kernel
theorem dL_plate_19 : decode cL_plate 19 = .ok (.iconst 2, 1) := by decide +kernel
theorem dL_plate_20 : decode cL_plate 20 = .ok (.ireturn, 1) := by decide +kernel
theorem dL_plate_21 : decode cL_plate 21 = .ok (.iconst 0, 1) := by decide +kernel
theorem dL_plate_22 : decode cL_plate 22 = .ok (.ireturn, 1) := by decide +kernel
theorem dL_hall_0 : decode cL_hall 0 = .ok (.aload_n 3, 1) := by decide +kernel
theorem dL_hall_1 : decode cL_hall 1 = .ok (.iconst 0, 1) := by decide +kernel
theorem dL_hall_2 : decode cL_hall 2 = .ok (.aload_n 0, 1) := by decide +kernel
theorem dL_hall_3 : decode cL_hall 3 = .ok (.iload_n 1, 1) := by decide +kernel
theorem dL_hall_4 : decode cL_hall 4 = .ok (.iload_n 2, 1) := by decide +kernel
theorem dL_hall_5 : decode cL_hall 5 = .ok (.invokevirtual 36, 3) := by decide +kernel
theorem dL_hall_8 : decode cL_hall 8 = .ok (.i2l, 1) := by decide +kernel
theorem dL_hall_9 : decode cL_hall 9 = .ok (.lastore, 1) := by decide +kernel
theorem dL_hall_10 : decode cL_hall 10 = .ok (.goto 11, 3) := by decide +kernel
theorem dL_hall_13 : decode cL_hall 13 = .ok (.astore 4, 2) := by decide +kernel
theorem dL_hall_15 : decode cL_hall 15 = .ok (.iconst 1, 1) := by decide +kernel
theorem dL_hall_16 : decode cL_hall 16 = .ok (.ireturn, 1) := by decide +kernel
theorem dL_hall_17 : decode cL_hall 17 = .ok (.astore 4, 2) := by decide +kernel
theorem dL_hall_19 : decode cL_hall 19 = .ok (.iconst 2, 1) := by decide +kernel
theorem dL_hall_20 : decode cL_hall 20 = .ok (.ireturn, 1) := by decide +kernel
theorem dL_hall_21 : decode cL_hall 21 = .ok (.iconst 0, 1) := by decide +kernel
theorem dL_hall_22 : decode cL_hall 22 = .ok (.ireturn, 1) := by decide +kernel
theorem dL_shown_0 : decode cL_shown 0 = .ok (.aload 4, 2) := by decide +kernel
theorem dL_shown_2 : decode cL_shown 2 = .ok (.iconst 0, 1) := by decide +kernel
theorem dL_shown_3 : decode cL_shown 3 = .ok (.aload_n 0, 1) := by decide +kernel
theorem dL_shown_4 : decode cL_shown 4 = .ok (.iload_n 1, 1) := by decide +kernel
theorem dL_shown_5 : decode cL_shown 5 = .ok (.iload_n 2, 1) := by decide +kernel
theorem dL_shown_6 : decode cL_shown 6 = .ok (.iload_n 3, 1) := by decide +kernel
theorem dL_shown_7 : decode cL_shown 7 = .ok (.invokevirtual 39, 3) := by decide +kernel
theorem dL_shown_10 : decode cL_shown 10 = .ok (.i2l, 1) := by decide +kernel
theorem dL_shown_11 : decode cL_shown 11 = .ok (.lastore, 1) := by decide +kernel
theorem dL_shown_12 : decode cL_shown 12 = .ok (.goto 7, 3) := by decide +kernel
theorem dL_shown_15 : decode cL_shown 15 = .ok (.astore 5, 2) := by decide +kernel
theorem dL_shown_17 : decode cL_shown 17 = .ok (.iconst 1, 1) := by decide +kernel
theorem dL_shown_18 : decode cL_shown 18 = .ok (.ireturn, 1) := by decide +kernel
theorem dL_shown_19 : decode cL_shown 19 = .ok (.iconst 0, 1) := by decide +kernel
theorem dL_shown_20 : decode cL_shown 20 = .ok (.ireturn, 1) := by decide +kernel
theorem dL_would_0 : decode cL_would 0 = .ok (.aload 9, 2) := by decide +kernel
theorem dL_would_2 : decode cL_would 2 = .ok (.iconst 0, 1) := by decide +kernel
theorem dL_would_3 : decode cL_would 3 = .ok (.aload_n 0, 1) := by decide +kernel
theorem dL_would_4 : decode cL_would 4 = .ok (.iload_n 1, 1) := by decide +kernel
theorem dL_would_5 : decode cL_would 5 = .ok (.iload_n 2, 1) := by decide +kernel
theorem dL_would_6 : decode cL_would 6 = .ok (.iload_n 3, 1) := by decide +kernel
theorem dL_would_7 : decode cL_would 7 = .ok (.iload 4, 2) := by decide +kernel
theorem dL_would_9 : decode cL_would 9 = .ok (.iload 5, 2) := by decide +kernel
theorem dL_would_11 : decode cL_would 11 = .ok (.iload 6, 2) := by decide +kernel
theorem dL_would_13 : decode cL_would 13 = .ok (.iload 7, 2) := by decide +kernel
theorem dL_would_15 : decode cL_would 15 = .ok (.iload 8, 2) := by decide +kernel
theorem dL_would_17 : decode cL_would 17 = .ok (.invokevirtual 43, 3) := by decide +kernel
theorem dL_would_20 : decode cL_would 20 = .ok (.i2l, 1) := by decide +kernel
theorem dL_would_21 : decode cL_would 21 = .ok (.lastore, 1) := by decide +kernel
theorem dL_would_22 : decode cL_would 22 = .ok (.goto 7, 3) := by decide +kernel
theorem dL_would_25 : decode cL_would 25 = .ok (.astore 10, 2) := by decide +kernel
theorem dL_would_27 : decode cL_would 27 = .ok (.iconst 1, 1) := by decide +kernel
theorem dL_would_28 : decode cL_would 28 = .ok (.ireturn, 1) := by decide +kernel
theorem dL_would_29 : decode cL_would 29 = .ok (.iconst 0, 1) := by decide +kernel
theorem dL_would_30 : decode cL_would 30 = .ok (.ireturn, 1) := by decide +kernel
theorem dL_unlike_0 : decode cL_unlike 0 = .ok (.aload_n 3, 1) := by decide +kernel
theorem dL_unlike_1 : decode cL_unlike 1 = .ok (.iconst 0, 1) := by decide +kernel
theorem dL_unlike_2 : decode cL_unlike 2 = .ok (.aload_n 0, 1) := by decide +kernel
theorem dL_unlike_3 : decode cL_unlike 3 = .ok (.iload_n 1, 1) := by decide +kernel
theorem dL_unlike_4 : decode cL_unlike 4 = .ok (.iload_n 2, 1) := by decide +kernel
theorem dL_unlike_5 : decode cL_unlike 5 = .ok (.invokevirtual 47, 3) := by decide +kernel
theorem dL_unlike_8 : decode cL_unlike 8 = .ok (.i2l, 1) := by decide +kernel
theorem dL_unlike_9 : decode cL_unlike 9 = .ok (.lastore, 1) := by decide +kernel
theorem dL_unlike_10 : decode cL_unlike 10 = .ok (.goto 7, 3) := by decide +kernel
theorem dL_unlike_13 : decode cL_unlike 13 = .ok (.astore 4, 2) := by decide +kernel
theorem dL_unlike_15 : decode cL_unlike 15 = .ok (.iconst 1, 1) := by decide +kernel
theorem dL_unlike_16 : decode cL_unlike 16 = .ok (.ireturn, 1) := by decide +kernel
theorem dL_unlike_17 : decode cL_unlike 17 = .ok (.iconst 0, 1) := by decide +kernel
theorem dL_unlike_18 : decode cL_unlike 18 = .ok (.ireturn, 1) := by decide +kernel
theorem dL_can_0 : decode cL_can 0 = .ok (.aload_n 2, 1) := by decide +kernel
theorem dL_can_1 : decode cL_can 1 = .ok (.iconst 0, 1) := by decide +kernel
theorem dL_can_2 : decode cL_can 2 = .ok (.aload_n 0, 1) := by decide +kernel
theorem dL_can_3 : decode cL_can 3 = .ok (.iload_n 1, 1) := by decide +kernel
theorem dL_can_4 : decode cL_can 4 = .ok (.invokevirtual 50, 3) := by decide +kernel
theorem dL_can_7 : decode cL_can 7 = .ok (.i2l, 1) := by decide +kernel
theorem dL_can_8 : decode cL_can 8 = .ok (.lastore, 1) := by decide +kernel
theorem dL_can_9 : decode cL_can 9 = .ok (.goto 6, 3) := by decide +kernel
theorem dL_can_12 : decode cL_can 12 = .ok (.astore_n 3, 1) := by decide +kernel
theorem dL_can_13 : decode cL_can 13 = .ok (.iconst 1, 1) := by decide +kernel
theorem dL_can_14 : decode cL_can 14 = .ok (.ireturn, 1) := by decide +kernel
theorem dL_can_15 : decode cL_can 15 = .ok (.iconst 0, 1) := by decide +kernel
theorem dL_can_16 : decode cL_can 16 = .ok (.ireturn, 1) := by decide +kernel
theorem dL_fewest_0 : decode cL_fewest 0 = .ok (.aload_n 2, 1) := by decide +kernel
theorem dL_fewest_1 : decode cL_fewest 1 = .ok (.iconst 0, 1) := by decide +kernel
theorem dL_fewest_2 : decode cL_fewest 2 = .ok (.aload_n 0, 1) := by decide +kernel
theorem dL_fewest_3 : decode cL_fewest 3 = .ok (.iload_n 1, 1) := by decide +kernel
theorem dL_fewest_4 : decode cL_fewest 4 = .ok (.invokevirtual 53, 3) := by decide +kernel
theorem dL_fewest_7 : decode cL_fewest 7 = .ok (.i2l, 1) := by decide +kernel
theorem dL_fewest_8 : decode cL_fewest 8 = .ok (.lastore, 1) := by decide +kernel
theorem dL_fewest_9 : decode cL_fewest 9 = .ok (.goto 6, 3) := by decide +kernel
theorem dL_fewest_12 : decode cL_fewest 12 = .ok (.astore_n 3, 1) := by decide +kernel
theorem dL_fewest_13 : decode cL_fewest 13 = .ok (.iconst 1, 1) := by decide +kernel
theorem dL_fewest_14 : decode cL_fewest 14 = .ok (.ireturn, 1) := by decide +kernel
theorem dL_fewest_15 : decode cL_fewest 15 = .ok (.iconst 0, 1) := by decide +kernel
theorem dL_fewest_16 : decode cL_fewest 16 = .ok (.ireturn, 1) := by decide +kernel
theorem dL_nobody_0 : decode cL_nobody 0 = .ok (.aload_n 2, 1) := by decide +kernel
theorem dL_nobody_1 : decode cL_nobody 1 = .ok (.iconst 0, 1) := by decide +kernel
theorem dL_nobody_2 : decode cL_nobody 2 = .ok (.aload_n 0, 1) := by decide +kernel
theorem dL_nobody_3 : decode cL_nobody 3 = .ok (.iload_n 1, 1) := by decide +kernel
theorem dL_nobody_4 : decode cL_nobody 4 = .ok (.invokevirtual 56, 3) := by decide +kernel
theorem dL_nobody_7 : decode cL_nobody 7 = .ok (.i2l, 1) := by decide +kernel
theorem dL_nobody_8 : decode cL_nobody 8 = .ok (.lastore, 1) := by decide +kernel
theorem dL_nobody_9 : decode cL_nobody 9 = .ok (.goto 6, 3) := by decide +kernel
theorem dL_nobody_12 : decode cL_nobody 12 = .ok (.astore_n 3, 1) := by decide +kernel
theorem dL_nobody_13 : decode cL_nobody 13 = .ok (.iconst 1, 1) := by decide +kernel
theorem dL_nobody_14 : decode cL_nobody 14 = .ok (.ireturn, 1) := by decide +kernel
theorem dL_nobody_15 : decode cL_nobody 15 = .ok (.iconst 0, 1) := by decide +kernel
theorem dL_nobody_16 : decode cL_nobody 16 = .ok (.ireturn, 1) := by decide +kernel
theorem dL_ring_0 : decode cL_ring 0 = .ok (.aload_n 3, 1) := by decide +kernel
theorem dL_ring_1 : decode cL_ring 1 = .ok (.iconst 0, 1) := by decide +kernel
theorem dL_ring_2 : decode cL_ring 2 = .ok (.aload_n 0, 1) := by decide +kernel
theorem dL_ring_3 : decode cL_ring 3 = .ok (.iload_n 1, 1) := by decide +kernel
theorem dL_ring_4 : decode cL_ring 4 = .ok (.iload_n 2, 1) := by decide +kernel
theorem dL_ring_5 : decode cL_ring 5 = .ok (.invokevirtual 59, 3) := by decide +kernel
theorem dL_ring_8 : decode cL_ring 8 = .ok (.i2l, 1) := by decide +kernel
theorem dL_ring_9 : decode cL_ring 9 = .ok (.lastore, 1) := by decide +kernel
theorem dL_ring_10 : decode cL_ring 10 = .ok (.goto 7, 3) := by decide +kernel
theorem dL_ring_13 : decode cL_ring 13 = .ok (.astore 4, 2) := by decide +kernel
theorem dL_ring_15 : decode cL_ring 15 = .ok (.iconst 1, 1) := by decide +kernel
theorem dL_ring_16 : decode cL_ring 16 = .ok (.ireturn, 1) := by decide +kernel
theorem dL_ring_17 : decode cL_ring 17 = .ok (.iconst 0, 1) := by decide +kernel
theorem dL_ring_18 : decode cL_ring 18 = .ok (.ireturn, 1) := by decide +kernel
theorem dL_who_0 : decode cL_who 0 = .ok (.aload_n 3, 1) := by decide +kernel
theorem dL_who_1 : decode cL_who 1 = .ok (.iconst 0, 1) := by decide +kernel
theorem dL_who_2 : decode cL_who 2 = .ok (.aload_n 0, 1) := by decide +kernel
theorem dL_who_3 : decode cL_who 3 = .ok (.iload_n 1, 1) := by decide +kernel
theorem dL_who_4 : decode cL_who 4 = .ok (.iload_n 2, 1) := by decide +kernel
theorem dL_who_5 : decode cL_who 5 = .ok (.invokevirtual 62, 3) := by decide +kernel
theorem dL_who_8 : decode cL_who 8 = .ok (.i2l, 1) := by decide +kernel
theorem dL_who_9 : decode cL_who 9 = .ok (.lastore, 1) := by decide +kernel
theorem dL_who_10 : decode cL_who 10 = .ok (.goto 11, 3) := by decide +kernel
theorem dL_who_13 : decode cL_who 13 = .ok (.astore 4, 2) := by decide +kernel
theorem dL_who_15 : decode cL_who 15 = .ok (.iconst 1, 1) := by decide +kernel
theorem dL_who_16 : decode cL_who 16 = .ok (.ireturn, 1) := by decide +kernel
theorem dL_who_17 : decode cL_who 17 = .ok (.astore 4, 2) := by decide +kernel
theorem dL_who_19 : decode cL_who 19 = .ok (.iconst 2, 1) := by decide +kernel
theorem dL_who_20 : decode cL_who 20 = .ok (.ireturn, 1) := by decide +kernel
theorem dL_who_21 : decode cL_who 21 = .ok (.iconst 0, 1) := by decide +kernel
theorem dL_who_22 : decode cL_who 22 = .ok (.ireturn, 1) := by decide +kernel
theorem dL_made_0 : decode cL_made 0 = .ok (.aload_n 2, 1) := by decide +kernel
theorem dL_made_1 : decode cL_made 1 = .ok (.iconst 0, 1) := by decide +kernel
theorem dL_made_2 : decode cL_made 2 = .ok (.aload_n 0, 1) := by decide +kernel
theorem dL_made_3 : decode cL_made 3 = .ok (.iload_n 1, 1) := by decide +kernel
theorem dL_made_4 : decode cL_made 4 = .ok (.invokevirtual 65, 3) := by decide +kernel
theorem dL_made_7 : decode cL_made 7 = .ok (.i2l, 1) := by decide +kernel
theorem dL_made_8 : decode cL_made 8 = .ok (.lastore, 1) := by decide +kernel
theorem dL_made_9 : decode cL_made 9 = .ok (.goto 6, 3) := by decide +kernel
theorem dL_made_12 : decode cL_made 12 = .ok (.astore_n 3, 1) := by decide +kernel
theorem dL_made_13 : decode cL_made 13 = .ok (.iconst 1, 1) := by decide +kernel
theorem dL_made_14 : decode cL_made 14 = .ok (.ireturn, 1) := by decide +kernel
theorem dL_made_15 : decode cL_made 15 = .ok (.iconst 0, 1) := by decide +kernel
theorem dL_made_16 : decode cL_made 16 = .ok (.ireturn, 1) := by decide +kernel
theorem dL_unknown_0 : decode cL_unknown 0 = .ok (.aload_n 2, 1) := by decide +kernel
theorem dL_unknown_1 : decode cL_unknown 1 = .ok (.iconst 0, 1) := by decide +kernel
theorem dL_unknown_2 : decode cL_unknown 2 = .ok (.aload_n 0, 1) := by decide +kernel
theorem dL_unknown_3 : decode cL_unknown 3 = .ok (.iload_n 1, 1) := by decide +kernel
theorem dL_unknown_4 : decode cL_unknown 4 = .ok (.invokevirtual 68, 3) := by decide +kernel
theorem dL_unknown_7 : decode cL_unknown 7 = .ok (.i2l, 1) := by decide +kernel
theorem dL_unknown_8 : decode cL_unknown 8 = .ok (.lastore, 1) := by decide +kernel
theorem dL_unknown_9 : decode cL_unknown 9 = .ok (.goto 6, 3) := by decide +kernel
theorem dL_unknown_12 : decode cL_unknown 12 = .ok (.astore_n 3, 1) := by decide +kernel
theorem dL_unknown_13 : decode cL_unknown 13 = .ok (.iconst 1, 1) := by decide +kernel
theorem dL_unknown_14 : decode cL_unknown 14 = .ok (.ireturn, 1) := by decide +kernel
theorem dL_unknown_15 : decode cL_unknown 15 = .ok (.iconst 0, 1) := by decide +kernel
theorem dL_unknown_16 : decode cL_unknown 16 = .ok (.ireturn, 1) := by decide +kernel
theorem dL_hold_0 : decode cL_hold 0 = .ok (.aload_n 2, 1) := by decide +kernel
theorem dL_hold_1 : decode cL_hold 1 = .ok (.iconst 0, 1) := by decide +kernel
theorem dL_hold_2 : decode cL_hold 2 = .ok (.aload_n 0, 1) := by decide +kernel
theorem dL_hold_3 : decode cL_hold 3 = .ok (.iload_n 1, 1) := by decide +kernel
theorem dL_hold_4 : decode cL_hold 4 = .ok (.invokevirtual 71, 3) := by decide +kernel
theorem dL_hold_7 : decode cL_hold 7 = .ok (.i2l, 1) := by decide +kernel
theorem dL_hold_8 : decode cL_hold 8 = .ok (.lastore, 1) := by decide +kernel
theorem dL_hold_9 : decode cL_hold 9 = .ok (.goto 6, 3) := by decide +kernel
theorem dL_hold_12 : decode cL_hold 12 = .ok (.astore_n 3, 1) := by decide +kernel
theorem dL_hold_13 : decode cL_hold 13 = .ok (.iconst 1, 1) := by decide +kernel
theorem dL_hold_14 : decode cL_hold 14 = .ok (.ireturn, 1) := by decide +kernel
theorem dL_hold_15 : decode cL_hold 15 = .ok (.iconst 0, 1) := by decide +kernel
theorem dL_hold_16 : decode cL_hold 16 = .ok (.ireturn, 1) := by decide +kernel
theorem dL_paper_0 : decode cL_paper 0 = .ok (.aload_n 2, 1) := by decide +kernel
theorem dL_paper_1 : decode cL_paper 1 = .ok (.iconst 0, 1) := by decide +kernel
theorem dL_paper_2 : decode cL_paper 2 = .ok (.aload_n 0, 1) := by decide +kernel
theorem dL_paper_3 : decode cL_paper 3 = .ok (.iload_n 1, 1) := by decide +kernel
theorem dL_paper_4 : decode cL_paper 4 = .ok (.invokevirtual 74, 3) := by decide +kernel
theorem dL_paper_7 : decode cL_paper 7 = .ok (.i2l, 1) := by decide +kernel
theorem dL_paper_8 : decode cL_paper 8 = .ok (.lastore, 1) := by decide +kernel
theorem dL_paper_9 : decode cL_paper 9 = .ok (.goto 6, 3) := by decide +kernel
theorem dL_paper_12 : decode cL_paper 12 = .ok (.astore_n 3, 1) := by decide +kernel
theorem dL_paper_13 : decode cL_paper 13 = .ok (.iconst 1, 1) := by decide +kernel
theorem dL_paper_14 : decode cL_paper 14 = .ok (.ireturn, 1) := by decide +kernel
theorem dL_paper_15 : decode cL_paper 15 = .ok (.iconst 0, 1) := by decide +kernel
theorem dL_paper_16 : decode cL_paper 16 = .ok (.ireturn, 1) := by decide +kernel
theorem dL_bids_0 : decode cL_bids 0 = .ok (.aload 5, 2) := by decide +kernel
theorem dL_bids_2 : decode cL_bids 2 = .ok (.iconst 0, 1) := by decide +kernel
theorem dL_bids_3 : decode cL_bids 3 = .ok (.aload_n 0, 1) := by decide +kernel
theorem dL_bids_4 : decode cL_bids 4 = .ok (.iload_n 1, 1) := by decide +kernel
theorem dL_bids_5 : decode cL_bids 5 = .ok (.iload_n 2, 1) := by decide +kernel
theorem dL_bids_6 : decode cL_bids 6 = .ok (.iload_n 3, 1) := by decide +kernel
theorem dL_bids_7 : decode cL_bids 7 = .ok (.iload 4, 2) := by decide +kernel
theorem dL_bids_9 : decode cL_bids 9 = .ok (.invokevirtual 77, 3) := by decide +kernel
theorem dL_bids_12 : decode cL_bids 12 = .ok (.i2l, 1) := by decide +kernel
theorem dL_bids_13 : decode cL_bids 13 = .ok (.lastore, 1) := by decide +kernel
theorem dL_bids_14 : decode cL_bids 14 = .ok (.goto 7, 3) := by decide +kernel
theorem dL_bids_17 : decode cL_bids 17 = .ok (.astore 6, 2) := by decide +kernel
theorem dL_bids_19 : decode cL_bids 19 = .ok (.iconst 1, 1) := by decide +kernel
theorem dL_bids_20 : decode cL_bids 20 = .ok (.ireturn, 1) := by decide +kernel
theorem dL_bids_21 : decode cL_bids 21 = .ok (.iconst 0, 1) := by decide +kernel
theorem dL_bids_22 : decode cL_bids 22 = .ok (.ireturn, 1) := by decide +kernel
theorem dL_share_0 : decode cL_share 0 = .ok (.aload 4, 2) := by decide +kernel
theorem dL_share_2 : decode cL_share 2 = .ok (.iconst 0, 1) := by decide +kernel
theorem dL_share_3 : decode cL_share 3 = .ok (.aload_n 0, 1) := by decide +kernel
theorem dL_share_4 : decode cL_share 4 = .ok (.iload_n 1, 1) := by decide +kernel
theorem dL_share_5 : decode cL_share 5 = .ok (.iload_n 2, 1) := by decide +kernel
theorem dL_share_6 : decode cL_share 6 = .ok (.iload_n 3, 1) := by decide +kernel
theorem dL_share_7 : decode cL_share 7 = .ok (.invokevirtual 81, 3) := by decide +kernel
theorem dL_share_10 : decode cL_share 10 = .ok (.i2l, 1) := by decide +kernel
theorem dL_share_11 : decode cL_share 11 = .ok (.lastore, 1) := by decide +kernel
theorem dL_share_12 : decode cL_share 12 = .ok (.goto 11, 3) := by decide +kernel
theorem dL_share_15 : decode cL_share 15 = .ok (.astore 5, 2) := by decide +kernel
theorem dL_share_17 : decode cL_share 17 = .ok (.iconst 1, 1) := by decide +kernel
theorem dL_share_18 : decode cL_share 18 = .ok (.ireturn, 1) := by decide +kernel
theorem dL_share_19 : decode cL_share 19 = .ok (.astore 5, 2) := by decide +kernel
theorem dL_share_21 : decode cL_share 21 = .ok (.iconst 2, 1) := by decide +kernel
theorem dL_share_22 : decode cL_share 22 = .ok (.ireturn, 1) := by decide +kernel
theorem dL_share_23 : decode cL_share 23 = .ok (.iconst 0, 1) := by decide +kernel
theorem dL_share_24 : decode cL_share 24 = .ok (.ireturn, 1) := by decide +kernel
theorem dL_busiest_0 : decode cL_busiest 0 = .ok (.aload_n 2, 1) := by decide +kernel
theorem dL_busiest_1 : decode cL_busiest 1 = .ok (.iconst 0, 1) := by decide +kernel
theorem dL_busiest_2 : decode cL_busiest 2 = .ok (.aload_n 0, 1) := by decide +kernel
theorem dL_busiest_3 : decode cL_busiest 3 = .ok (.iload_n 1, 1) := by decide +kernel
theorem dL_busiest_4 : decode cL_busiest 4 = .ok (.invokevirtual 84, 3) := by decide +kernel
theorem dL_busiest_7 : decode cL_busiest 7 = .ok (.i2l, 1) := by decide +kernel
theorem dL_busiest_8 : decode cL_busiest 8 = .ok (.lastore, 1) := by decide +kernel
theorem dL_busiest_9 : decode cL_busiest 9 = .ok (.goto 6, 3) := by decide +kernel
theorem dL_busiest_12 : decode cL_busiest 12 = .ok (.astore_n 3, 1) := by decide +kernel
theorem dL_busiest_13 : decode cL_busiest 13 = .ok (.iconst 1, 1) := by decide +kernel
theorem dL_busiest_14 : decode cL_busiest 14 = .ok (.ireturn, 1) := by decide +kernel
theorem dL_busiest_15 : decode cL_busiest 15 = .ok (.iconst 0, 1) := by decide +kernel
theorem dL_busiest_16 : decode cL_busiest 16 = .ok (.ireturn, 1) := by decide +kernel
theorem dL_where_0 : decode cL_where 0 = .ok (.aload_n 2, 1) := by decide +kernel
theorem dL_where_1 : decode cL_where 1 = .ok (.iconst 0, 1) := by decide +kernel
theorem dL_where_2 : decode cL_where 2 = .ok (.aload_n 0, 1) := by decide +kernel
theorem dL_where_3 : decode cL_where 3 = .ok (.iload_n 1, 1) := by decide +kernel
theorem dL_where_4 : decode cL_where 4 = .ok (.invokevirtual 87, 3) := by decide +kernel
theorem dL_where_7 : decode cL_where 7 = .ok (.i2l, 1) := by decide +kernel
theorem dL_where_8 : decode cL_where 8 = .ok (.lastore, 1) := by decide +kernel
theorem dL_where_9 : decode cL_where 9 = .ok (.goto 6, 3) := by decide +kernel
theorem dL_where_12 : decode cL_where 12 = .ok (.astore_n 3, 1) := by decide +kernel
theorem dL_where_13 : decode cL_where 13 = .ok (.iconst 1, 1) := by decide +kernel
theorem dL_where_14 : decode cL_where 14 = .ok (.ireturn, 1) := by decide +kernel
theorem dL_where_15 : decode cL_where 15 = .ok (.iconst 0, 1) := by decide +kernel
theorem dL_where_16 : decode cL_where 16 = .ok (.ireturn, 1) := by decide +kernel
theorem dL_twins_0 : decode cL_twins 0 = .ok (.aload_n 2, 1) := by decide +kernel
theorem dL_twins_1 : decode cL_twins 1 = .ok (.iconst 0, 1) := by decide +kernel
theorem dL_twins_2 : decode cL_twins 2 = .ok (.aload_n 0, 1) := by decide +kernel
theorem dL_twins_3 : decode cL_twins 3 = .ok (.iload_n 1, 1) := by decide +kernel
theorem dL_twins_4 : decode cL_twins 4 = .ok (.invokevirtual 90, 3) := by decide +kernel
theorem dL_twins_7 : decode cL_twins 7 = .ok (.i2l, 1) := by decide +kernel
theorem dL_twins_8 : decode cL_twins 8 = .ok (.lastore, 1) := by decide +kernel
theorem dL_twins_9 : decode cL_twins 9 = .ok (.goto 6, 3) := by decide +kernel
theorem dL_twins_12 : decode cL_twins 12 = .ok (.astore_n 3, 1) := by decide +kernel
theorem dL_twins_13 : decode cL_twins 13 = .ok (.iconst 1, 1) := by decide +kernel
theorem dL_twins_14 : decode cL_twins 14 = .ok (.ireturn, 1) := by decide +kernel
theorem dL_twins_15 : decode cL_twins 15 = .ok (.iconst 0, 1) := by decide +kernel
theorem dL_twins_16 : decode cL_twins 16 = .ok (.ireturn, 1) := by decide +kernel
theorem dL_chain_0 : decode cL_chain 0 = .ok (.aload_n 3, 1) := by decide +kernel
theorem dL_chain_1 : decode cL_chain 1 = .ok (.iconst 0, 1) := by decide +kernel
theorem dL_chain_2 : decode cL_chain 2 = .ok (.aload_n 0, 1) := by decide +kernel
theorem dL_chain_3 : decode cL_chain 3 = .ok (.iload_n 1, 1) := by decide +kernel
theorem dL_chain_4 : decode cL_chain 4 = .ok (.iload_n 2, 1) := by decide +kernel
theorem dL_chain_5 : decode cL_chain 5 = .ok (.invokevirtual 93, 3) := by decide +kernel
theorem dL_chain_8 : decode cL_chain 8 = .ok (.i2l, 1) := by decide +kernel
theorem dL_chain_9 : decode cL_chain 9 = .ok (.lastore, 1) := by decide +kernel
theorem dL_chain_10 : decode cL_chain 10 = .ok (.goto 7, 3) := by decide +kernel
theorem dL_chain_13 : decode cL_chain 13 = .ok (.astore 4, 2) := by decide +kernel
theorem dL_chain_15 : decode cL_chain 15 = .ok (.iconst 1, 1) := by decide +kernel
theorem dL_chain_16 : decode cL_chain 16 = .ok (.ireturn, 1) := by decide +kernel
theorem dL_chain_17 : decode cL_chain 17 = .ok (.iconst 0, 1) := by decide +kernel
theorem dL_chain_18 : decode cL_chain 18 = .ok (.ireturn, 1) := by decide +kernel
theorem dL_looks_0 : decode cL_looks 0 = .ok (.aload_n 3, 1) := by decide +kernel
theorem dL_looks_1 : decode cL_looks 1 = .ok (.iconst 0, 1) := by decide +kernel
theorem dL_looks_2 : decode cL_looks 2 = .ok (.aload_n 0, 1) := by decide +kernel
theorem dL_looks_3 : decode cL_looks 3 = .ok (.iload_n 1, 1) := by decide +kernel
theorem dL_looks_4 : decode cL_looks 4 = .ok (.iload_n 2, 1) := by decide +kernel
theorem dL_looks_5 : decode cL_looks 5 = .ok (.invokevirtual 96, 3) := by decide +kernel
theorem dL_looks_8 : decode cL_looks 8 = .ok (.i2l, 1) := by decide +kernel
theorem dL_looks_9 : decode cL_looks 9 = .ok (.lastore, 1) := by decide +kernel
theorem dL_looks_10 : decode cL_looks 10 = .ok (.goto 11, 3) := by decide +kernel
theorem dL_looks_13 : decode cL_looks 13 = .ok (.astore 4, 2) := by decide +kernel
theorem dL_looks_15 : decode cL_looks 15 = .ok (.iconst 1, 1) := by decide +kernel
theorem dL_looks_16 : decode cL_looks 16 = .ok (.ireturn, 1) := by decide +kernel
theorem dL_looks_17 : decode cL_looks 17 = .ok (.astore 4, 2) := by decide +kernel
theorem dL_looks_19 : decode cL_looks 19 = .ok (.iconst 2, 1) := by decide +kernel
theorem dL_looks_20 : decode cL_looks 20 = .ok (.ireturn, 1) := by decide +kernel
theorem dL_looks_21 : decode cL_looks 21 = .ok (.iconst 0, 1) := by decide +kernel
theorem dL_looks_22 : decode cL_looks 22 = .ok (.ireturn, 1) := by decide +kernel
theorem dL_cheapest_0 : decode cL_cheapest 0 = .ok (.aload_n 3, 1) := by decide +kernel
theorem dL_cheapest_1 : decode cL_cheapest 1 = .ok (.iconst 0, 1) := by decide +kernel
theorem dL_cheapest_2 : decode cL_cheapest 2 = .ok (.aload_n 0, 1) := by decide +kernel
theorem dL_cheapest_3 : decode cL_cheapest 3 = .ok (.iload_n 1, 1) := by decide +kernel
theorem dL_cheapest_4 : decode cL_cheapest 4 = .ok (.iload_n 2, 1) := by decide +kernel
theorem dL_cheapest_5 : decode cL_cheapest 5 = .ok (.invokevirtual 99, 3) := by decide +kernel
theorem dL_cheapest_8 : decode cL_cheapest 8 = .ok (.i2l, 1) := by decide +kernel
theorem dL_cheapest_9 : decode cL_cheapest 9 = .ok (.lastore, 1) := by decide +kernel
theorem dL_cheapest_10 : decode cL_cheapest 10 = .ok (.goto 7, 3) := by decide +kernel
theorem dL_cheapest_13 : decode cL_cheapest 13 = .ok (.astore 4, 2) := by decide +kernel
theorem dL_cheapest_15 : decode cL_cheapest 15 = .ok (.iconst 1, 1) := by decide +kernel
theorem dL_cheapest_16 : decode cL_cheapest 16 = .ok (.ireturn, 1) := by decide +kernel
theorem dL_cheapest_17 : decode cL_cheapest 17 = .ok (.iconst 0, 1) := by decide +kernel
theorem dL_cheapest_18 : decode cL_cheapest 18 = .ok (.ireturn, 1) := by decide +kernel
theorem dL_common_0 : decode cL_common 0 = .ok (.aload_n 2, 1) := by decide +kernel
theorem dL_common_1 : decode cL_common 1 = .ok (.iconst 0, 1) := by decide +kernel
theorem dL_common_2 : decode cL_common 2 = .ok (.aload_n 0, 1) := by decide +kernel
theorem dL_common_3 : decode cL_common 3 = .ok (.iload_n 1, 1) := by decide +kernel
theorem dL_common_4 : decode cL_common 4 = .ok (.invokevirtual 102, 3) := by decide +kernel
theorem dL_common_7 : decode cL_common 7 = .ok (.i2l, 1) := by decide +kernel
theorem dL_common_8 : decode cL_common 8 = .ok (.lastore, 1) := by decide +kernel
theorem dL_common_9 : decode cL_common 9 = .ok (.goto 6, 3) := by decide +kernel
theorem dL_common_12 : decode cL_common 12 = .ok (.astore_n 3, 1) := by decide +kernel
theorem dL_common_13 : decode cL_common 13 = .ok (.iconst 1, 1) := by decide +kernel
theorem dL_common_14 : decode cL_common 14 = .ok (.ireturn, 1) := by decide +kernel
theorem dL_common_15 : decode cL_common 15 = .ok (.iconst 0, 1) := by decide +kernel
theorem dL_common_16 : decode cL_common 16 = .ok (.ireturn, 1) := by decide +kernel
theorem dL_moodFor_0 : decode cL_moodFor 0 = .ok (.aload_n 3, 1) := by decide +kernel
theorem dL_moodFor_1 : decode cL_moodFor 1 = .ok (.iconst 0, 1) := by decide +kernel
theorem dL_moodFor_2 : decode cL_moodFor 2 = .ok (.aload_n 0, 1) := by decide +kernel
theorem dL_moodFor_3 : decode cL_moodFor 3 = .ok (.iload_n 1, 1) := by decide +kernel
theorem dL_moodFor_4 : decode cL_moodFor 4 = .ok (.iload_n 2, 1) := by decide +kernel
theorem dL_moodFor_5 : decode cL_moodFor 5 = .ok (.invokevirtual 105, 3) := by decide +kernel
theorem dL_moodFor_8 : decode cL_moodFor 8 = .ok (.i2l, 1) := by decide +kernel
theorem dL_moodFor_9 : decode cL_moodFor 9 = .ok (.lastore, 1) := by decide +kernel
theorem dL_moodFor_10 : decode cL_moodFor 10 = .ok (.goto 7, 3) := by decide +kernel
theorem dL_moodFor_13 : decode cL_moodFor 13 = .ok (.astore 4, 2) := by decide +kernel
theorem dL_moodFor_15 : decode cL_moodFor 15 = .ok (.iconst 1, 1) := by decide +kernel
theorem dL_moodFor_16 : decode cL_moodFor 16 = .ok (.ireturn, 1) := by decide +kernel
theorem dL_moodFor_17 : decode cL_moodFor 17 = .ok (.iconst 0, 1) := by decide +kernel
theorem dL_moodFor_18 : decode cL_moodFor 18 = .ok (.ireturn, 1) := by decide +kernel
theorem dL_lost_0 : decode cL_lost 0 = .ok (.aload_n 2, 1) := by decide +kernel
theorem dL_lost_1 : decode cL_lost 1 = .ok (.iconst 0, 1) := by decide +kernel
theorem dL_lost_2 : decode cL_lost 2 = .ok (.aload_n 0, 1) := by decide +kernel
theorem dL_lost_3 : decode cL_lost 3 = .ok (.iload_n 1, 1) := by decide +kernel
theorem dL_lost_4 : decode cL_lost 4 = .ok (.invokevirtual 108, 3) := by decide +kernel
theorem dL_lost_7 : decode cL_lost 7 = .ok (.i2l, 1) := by decide +kernel
theorem dL_lost_8 : decode cL_lost 8 = .ok (.lastore, 1) := by decide +kernel
theorem dL_lost_9 : decode cL_lost 9 = .ok (.goto 6, 3) := by decide +kernel
theorem dL_lost_12 : decode cL_lost 12 = .ok (.astore_n 3, 1) := by decide +kernel
theorem dL_lost_13 : decode cL_lost 13 = .ok (.iconst 1, 1) := by decide +kernel
theorem dL_lost_14 : decode cL_lost 14 = .ok (.ireturn, 1) := by decide +kernel
theorem dL_lost_15 : decode cL_lost 15 = .ok (.iconst 0, 1) := by decide +kernel
theorem dL_lost_16 : decode cL_lost 16 = .ok (.ireturn, 1) := by decide +kernel
theorem dL_faces_0 : decode cL_faces 0 = .ok (.aload_n 3, 1) := by decide +kernel
theorem dL_faces_1 : decode cL_faces 1 = .ok (.iconst 0, 1) := by decide +kernel
theorem dL_faces_2 : decode cL_faces 2 = .ok (.aload_n 0, 1) := by decide +kernel
theorem dL_faces_3 : decode cL_faces 3 = .ok (.iload_n 1, 1) := by decide +kernel
theorem dL_faces_4 : decode cL_faces 4 = .ok (.iload_n 2, 1) := by decide +kernel
theorem dL_faces_5 : decode cL_faces 5 = .ok (.invokevirtual 111, 3) := by decide +kernel
theorem dL_faces_8 : decode cL_faces 8 = .ok (.i2l, 1) := by decide +kernel
theorem dL_faces_9 : decode cL_faces 9 = .ok (.lastore, 1) := by decide +kernel
theorem dL_faces_10 : decode cL_faces 10 = .ok (.goto 11, 3) := by decide +kernel
theorem dL_faces_13 : decode cL_faces 13 = .ok (.astore 4, 2) := by decide +kernel
theorem dL_faces_15 : decode cL_faces 15 = .ok (.iconst 1, 1) := by decide +kernel
theorem dL_faces_16 : decode cL_faces 16 = .ok (.ireturn, 1) := by decide +kernel
theorem dL_faces_17 : decode cL_faces 17 = .ok (.astore 4, 2) := by decide +kernel
theorem dL_faces_19 : decode cL_faces 19 = .ok (.iconst 2, 1) := by decide +kernel
theorem dL_faces_20 : decode cL_faces 20 = .ok (.ireturn, 1) := by decide +kernel
theorem dL_faces_21 : decode cL_faces 21 = .ok (.iconst 0, 1) := by decide +kernel
theorem dL_faces_22 : decode cL_faces 22 = .ok (.ireturn, 1) := by decide +kernel
theorem dL_years_0 : decode cL_years 0 = .ok (.aload 5, 2) := by decide +kernel
theorem dL_years_2 : decode cL_years 2 = .ok (.iconst 0, 1) := by decide +kernel
theorem dL_years_3 : decode cL_years 3 = .ok (.aload_n 0, 1) := by decide +kernel
theorem dL_years_4 : decode cL_years 4 = .ok (.iload_n 1, 1) := by decide +kernel
theorem dL_years_5 : decode cL_years 5 = .ok (.iload_n 2, 1) := by decide +kernel
theorem dL_years_6 : decode cL_years 6 = .ok (.iload_n 3, 1) := by decide +kernel
theorem dL_years_7 : decode cL_years 7 = .ok (.iload 4, 2) := by decide +kernel
theorem dL_years_9 : decode cL_years 9 = .ok (.invokevirtual 114, 3) := by decide +kernel
theorem dL_years_12 : decode cL_years 12 = .ok (.i2l, 1) := by decide +kernel
theorem dL_years_13 : decode cL_years 13 = .ok (.lastore, 1) := by decide +kernel
theorem dL_years_14 : decode cL_years 14 = .ok (.goto 7, 3) := by decide +kernel
theorem dL_years_17 : decode cL_years 17 = .ok (.astore 6, 2) := by decide +kernel
theorem dL_years_19 : decode cL_years 19 = .ok (.iconst 1, 1) := by decide +kernel
theorem dL_years_20 : decode cL_years 20 = .ok (.ireturn, 1) := by decide +kernel
theorem dL_years_21 : decode cL_years 21 = .ok (.iconst 0, 1) := by decide +kernel
theorem dL_years_22 : decode cL_years 22 = .ok (.ireturn, 1) := by decide +kernel
theorem dL_span_0 : decode cL_span 0 = .ok (.aload 7, 2) := by decide +kernel
theorem dL_span_2 : decode cL_span 2 = .ok (.iconst 0, 1) := by decide +kernel
theorem dL_span_3 : decode cL_span 3 = .ok (.aload_n 0, 1) := by decide +kernel
theorem dL_span_4 : decode cL_span 4 = .ok (.iload_n 1, 1) := by decide +kernel
theorem dL_span_5 : decode cL_span 5 = .ok (.iload_n 2, 1) := by decide +kernel
theorem dL_span_6 : decode cL_span 6 = .ok (.iload_n 3, 1) := by decide +kernel
theorem dL_span_7 : decode cL_span 7 = .ok (.iload 4, 2) := by decide +kernel
theorem dL_span_9 : decode cL_span 9 = .ok (.iload 5, 2) := by decide +kernel
theorem dL_span_11 : decode cL_span 11 = .ok (.iload 6, 2) := by decide +kernel
theorem dL_span_13 : decode cL_span 13 = .ok (.invokevirtual 117, 3) := by decide +kernel
theorem dL_span_16 : decode cL_span 16 = .ok (.i2l, 1) := by decide +kernel
theorem dL_span_17 : decode cL_span 17 = .ok (.lastore, 1) := by decide +kernel
theorem dL_span_18 : decode cL_span 18 = .ok (.goto 7, 3) := by decide +kernel
theorem dL_span_21 : decode cL_span 21 = .ok (.astore 8, 2) := by decide +kernel
theorem dL_span_23 : decode cL_span 23 = .ok (.iconst 1, 1) := by decide +kernel
theorem dL_span_24 : decode cL_span 24 = .ok (.ireturn, 1) := by decide +kernel
theorem dL_span_25 : decode cL_span 25 = .ok (.iconst 0, 1) := by decide +kernel
theorem dL_span_26 : decode cL_span 26 = .ok (.ireturn, 1) := by decide +kernel
theorem dL_law__0 : decode cL_law_ 0 = .ok (.new 8, 3) := by decide +kernel
theorem dL_law__3 : decode cL_law_ 3 = .ok (.dup, 1) := by decide +kernel
theorem dL_law__4 : decode cL_law_ 4 = .ok (.invokespecial 121, 3) := by decide +kernel
theorem dL_law__7 : decode cL_law_ 7 = .ok (.astore_n 1, 1) := by decide +kernel
theorem dL_law__8 : decode cL_law_ 8 = .ok (.new 122, 3) := by decide +kernel
theorem dL_law__11 : decode cL_law_ 11 = .ok (.dup, 1) := by decide +kernel
theorem dL_law__12 : decode cL_law_ 12 = .ok (.invokespecial 124, 3) := by decide +kernel
theorem dL_law__15 : decode cL_law_ 15 = .ok (.astore_n 2, 1) := by decide +kernel
theorem dL_law__16 : decode cL_law_ 16 = .ok (.iconst 1, 1) := by decide +kernel
theorem dL_law__17 : decode cL_law_ 17 = .ok (.newarray .long, 2) := by decide +kernel
theorem dL_law__19 : decode cL_law_ 19 = .ok (.astore_n 3, 1) := by decide +kernel
theorem dL_law__20 : decode cL_law_ 20 = .ok (.iconst 0, 1) := by decide +kernel
theorem dL_law__21 : decode cL_law_ 21 = .ok (.istore 4, 2) := by decide +kernel
theorem dL_law__23 : decode cL_law_ 23 = .ok (.iload 4, 2) := by decide +kernel
theorem dL_law__25 : decode cL_law_ 25 = .ok (.aload_n 0, 1) := by decide +kernel
theorem dL_law__26 : decode cL_law_ 26 = .ok (.arraylength, 1) := by decide +kernel
theorem dL_law__27 : decode cL_law_ 27 = .ok (.bipush 9, 2) := by decide +kernel
theorem dL_law__29 : decode cL_law_ 29 = .ok (.isub, 1) := by decide +kernel
theorem dL_law__30 : decode cL_law_ 30 = .ok (.if_icmp .gt 2747, 3) := by decide +kernel
theorem dL_law__33 : decode cL_law_ 33 = .ok (.aload_n 0, 1) := by decide +kernel
theorem dL_law__34 : decode cL_law_ 34 = .ok (.iload 4, 2) := by decide +kernel
theorem dL_law__36 : decode cL_law_ 36 = .ok (.iaload, 1) := by decide +kernel
theorem dL_law__37 : decode cL_law_ 37 = .ok (.bipush 63, 2) := by decide +kernel
theorem dL_law__39 : decode cL_law_ 39 = .ok (.iand, 1) := by decide +kernel
theorem dL_law__40 : decode cL_law_ 40 = .ok (.tableswitch 2731 0 44 #[196, 269, 325, 381, 437, 493, 506, 519, 575, 643, 711, 779, 859, 1005, 1073, 1086, 1099, 1155, 1211, 1267, 1335, 1403, 1459, 1515, 1571, 1584, 1640, 1732, 1812, 1868, 1881, 1937, 1993, 2061, 2129, 2197, 2253, 2321, 2377, 2445, 2537, 2655, 2668, 2681, 2706], 196) := by decide +kernel
theorem dL_law__236 : decode cL_law_ 236 = .ok (.aload_n 1, 1) := by decide +kernel
theorem dL_law__237 : decode cL_law_ 237 = .ok (.aload_n 0, 1) := by decide +kernel
theorem dL_law__238 : decode cL_law_ 238 = .ok (.iload 4, 2) := by decide +kernel
theorem dL_law__240 : decode cL_law_ 240 = .ok (.iconst 1, 1) := by decide +kernel
theorem dL_law__241 : decode cL_law_ 241 = .ok (.iadd, 1) := by decide +kernel
theorem dL_law__242 : decode cL_law_ 242 = .ok (.iaload, 1) := by decide +kernel
theorem dL_law__243 : decode cL_law_ 243 = .ok (.aload_n 0, 1) := by decide +kernel
theorem dL_law__244 : decode cL_law_ 244 = .ok (.iload 4, 2) := by decide +kernel
theorem dL_law__246 : decode cL_law_ 246 = .ok (.iconst 2, 1) := by decide +kernel
theorem dL_law__247 : decode cL_law_ 247 = .ok (.iadd, 1) := by decide +kernel
theorem dL_law__248 : decode cL_law_ 248 = .ok (.iaload, 1) := by decide +kernel
theorem dL_law__249 : decode cL_law_ 249 = .ok (.aload_n 0, 1) := by decide +kernel
theorem dL_law__250 : decode cL_law_ 250 = .ok (.iload 4, 2) := by decide +kernel
theorem dL_law__252 : decode cL_law_ 252 = .ok (.iconst 3, 1) := by decide +kernel
theorem dL_law__253 : decode cL_law_ 253 = .ok (.iadd, 1) := by decide +kernel
theorem dL_law__254 : decode cL_law_ 254 = .ok (.iaload, 1) := by decide +kernel
theorem dL_law__255 : decode cL_law_ 255 = .ok (.aload_n 0, 1) := by decide +kernel
theorem dL_law__256 : decode cL_law_ 256 = .ok (.iload 4, 2) := by decide +kernel
theorem dL_law__258 : decode cL_law_ 258 = .ok (.iconst 4, 1) := by decide +kernel
theorem dL_law__259 : decode cL_law_ 259 = .ok (.iadd, 1) := by decide +kernel
theorem dL_law__260 : decode cL_law_ 260 = .ok (.iaload, 1) := by decide +kernel
theorem dL_law__261 : decode cL_law_ 261 = .ok (.aload_n 0, 1) := by decide +kernel
theorem dL_law__262 : decode cL_law_ 262 = .ok (.iload 4, 2) := by decide +kernel
theorem dL_law__264 : decode cL_law_ 264 = .ok (.iconst 5, 1) := by decide +kernel
theorem dL_law__265 : decode cL_law_ 265 = .ok (.iadd, 1) := by decide +kernel
theorem dL_law__266 : decode cL_law_ 266 = .ok (.iaload, 1) := by decide +kernel
theorem dL_law__267 : decode cL_law_ 267 = .ok (.invokevirtual 125, 3) := by decide +kernel
theorem dL_law__270 : decode cL_law_ 270 = .ok (.aload_n 2, 1) := by decide +kernel
theorem dL_law__271 : decode cL_law_ 271 = .ok (.aload_n 0, 1) := by decide +kernel
theorem dL_law__272 : decode cL_law_ 272 = .ok (.iload 4, 2) := by decide +kernel
theorem dL_law__274 : decode cL_law_ 274 = .ok (.iconst 1, 1) := by decide +kernel
theorem dL_law__275 : decode cL_law_ 275 = .ok (.iadd, 1) := by decide +kernel
theorem dL_law__276 : decode cL_law_ 276 = .ok (.iaload, 1) := by decide +kernel
theorem dL_law__277 : decode cL_law_ 277 = .ok (.aload_n 0, 1) := by decide +kernel
theorem dL_law__278 : decode cL_law_ 278 = .ok (.iload 4, 2) := by decide +kernel
theorem dL_law__280 : decode cL_law_ 280 = .ok (.iconst 2, 1) := by decide +kernel
theorem dL_law__281 : decode cL_law_ 281 = .ok (.iadd, 1) := by decide +kernel
theorem dL_law__282 : decode cL_law_ 282 = .ok (.iaload, 1) := by decide +kernel
theorem dL_law__283 : decode cL_law_ 283 = .ok (.aload_n 0, 1) := by decide +kernel
theorem dL_law__284 : decode cL_law_ 284 = .ok (.iload 4, 2) := by decide +kernel
theorem dL_law__286 : decode cL_law_ 286 = .ok (.iconst 3, 1) := by decide +kernel
theorem dL_law__287 : decode cL_law_ 287 = .ok (.iadd, 1) := by decide +kernel
theorem dL_law__288 : decode cL_law_ 288 = .ok (.iaload, 1) := by decide +kernel
theorem dL_law__289 : decode cL_law_ 289 = .ok (.aload_n 0, 1) := by decide +kernel
theorem dL_law__290 : decode cL_law_ 290 = .ok (.iload 4, 2) := by decide +kernel
theorem dL_law__292 : decode cL_law_ 292 = .ok (.iconst 4, 1) := by decide +kernel
theorem dL_law__293 : decode cL_law_ 293 = .ok (.iadd, 1) := by decide +kernel
theorem dL_law__294 : decode cL_law_ 294 = .ok (.iaload, 1) := by decide +kernel
theorem dL_law__295 : decode cL_law_ 295 = .ok (.aload_n 0, 1) := by decide +kernel
theorem dL_law__296 : decode cL_law_ 296 = .ok (.iload 4, 2) := by decide +kernel
theorem dL_law__298 : decode cL_law_ 298 = .ok (.iconst 5, 1) := by decide +kernel
theorem dL_law__299 : decode cL_law_ 299 = .ok (.iadd, 1) := by decide +kernel
theorem dL_law__300 : decode cL_law_ 300 = .ok (.iaload, 1) := by decide +kernel
theorem dL_law__301 : decode cL_law_ 301 = .ok (.invokevirtual 129, 3) := by decide +kernel
theorem dL_law__304 : decode cL_law_ 304 = .ok (.if_icmp .eq 2467, 3) := by decide +kernel
theorem dL_law__307 : decode cL_law_ 307 = .ok (.iconst 0, 1) := by decide +kernel
theorem dL_law__308 : decode cL_law_ 308 = .ok (.ireturn, 1) := by decide +kernel
theorem dL_law__309 : decode cL_law_ 309 = .ok (.aload_n 1, 1) := by decide +kernel
theorem dL_law__310 : decode cL_law_ 310 = .ok (.aload_n 0, 1) := by decide +kernel
theorem dL_law__311 : decode cL_law_ 311 = .ok (.iload 4, 2) := by decide +kernel
theorem dL_law__313 : decode cL_law_ 313 = .ok (.iconst 1, 1) := by decide +kernel
theorem dL_law__314 : decode cL_law_ 314 = .ok (.iadd, 1) := by decide +kernel
theorem dL_law__315 : decode cL_law_ 315 = .ok (.iaload, 1) := by decide +kernel
theorem dL_law__316 : decode cL_law_ 316 = .ok (.aload_n 3, 1) := by decide +kernel
theorem dL_law__317 : decode cL_law_ 317 = .ok (.invokestatic 130, 3) := by decide +kernel
theorem dL_law__320 : decode cL_law_ 320 = .ok (.istore 5, 2) := by decide +kernel
theorem dL_law__322 : decode cL_law_ 322 = .ok (.aload_n 2, 1) := by decide +kernel
theorem dL_law__323 : decode cL_law_ 323 = .ok (.aload_n 0, 1) := by decide +kernel
theorem dL_law__324 : decode cL_law_ 324 = .ok (.iload 4, 2) := by decide +kernel
theorem dL_law__326 : decode cL_law_ 326 = .ok (.iconst 1, 1) := by decide +kernel
theorem dL_law__327 : decode cL_law_ 327 = .ok (.iadd, 1) := by decide +kernel
theorem dL_law__328 : decode cL_law_ 328 = .ok (.iaload, 1) := by decide +kernel
theorem dL_law__329 : decode cL_law_ 329 = .ok (.invokevirtual 135, 3) := by decide +kernel
theorem dL_law__332 : decode cL_law_ 332 = .ok (.istore 6, 2) := by decide +kernel
theorem dL_law__334 : decode cL_law_ 334 = .ok (.aload_n 2, 1) := by decide +kernel
theorem dL_law__335 : decode cL_law_ 335 = .ok (.invokevirtual 136, 3) := by decide +kernel
theorem dL_law__338 : decode cL_law_ 338 = .ok (.iload 5, 2) := by decide +kernel
theorem dL_law__340 : decode cL_law_ 340 = .ok (.if_icmp .eq 5, 3) := by decide +kernel
theorem dL_law__343 : decode cL_law_ 343 = .ok (.iconst 0, 1) := by decide +kernel
theorem dL_law__344 : decode cL_law_ 344 = .ok (.ireturn, 1) := by decide +kernel
theorem dL_law__345 : decode cL_law_ 345 = .ok (.iload 5, 2) := by decide +kernel
theorem dL_law__347 : decode cL_law_ 347 = .ok (.ifCond .ne 15, 3) := by decide +kernel
theorem dL_law__350 : decode cL_law_ 350 = .ok (.aload_n 3, 1) := by decide +kernel
theorem dL_law__351 : decode cL_law_ 351 = .ok (.iconst 0, 1) := by decide +kernel
theorem dL_law__352 : decode cL_law_ 352 = .ok (.laload, 1) := by decide +kernel
theorem dL_law__353 : decode cL_law_ 353 = .ok (.iload 6, 2) := by decide +kernel
theorem dL_law__355 : decode cL_law_ 355 = .ok (.i2l, 1) := by decide +kernel
theorem dL_law__356 : decode cL_law_ 356 = .ok (.lcmp, 1) := by decide +kernel
theorem dL_law__357 : decode cL_law_ 357 = .ok (.ifCond .eq 5, 3) := by decide +kernel
theorem dL_law__360 : decode cL_law_ 360 = .ok (.iconst 0, 1) := by decide +kernel
theorem dL_law__361 : decode cL_law_ 361 = .ok (.ireturn, 1) := by decide +kernel
theorem dL_law__362 : decode cL_law_ 362 = .ok (.goto 2409, 3) := by decide +kernel
theorem dL_law__365 : decode cL_law_ 365 = .ok (.aload_n 1, 1) := by decide +kernel
theorem dL_law__366 : decode cL_law_ 366 = .ok (.aload_n 0, 1) := by decide +kernel
theorem dL_law__367 : decode cL_law_ 367 = .ok (.iload 4, 2) := by decide +kernel
theorem dL_law__369 : decode cL_law_ 369 = .ok (.iconst 1, 1) := by decide +kernel
theorem dL_law__370 : decode cL_law_ 370 = .ok (.iadd, 1) := by decide +kernel
theorem dL_law__371 : decode cL_law_ 371 = .ok (.iaload, 1) := by decide +kernel
theorem dL_law__372 : decode cL_law_ 372 = .ok (.aload_n 3, 1) := by decide +kernel
theorem dL_law__373 : decode cL_law_ 373 = .ok (.invokestatic 140, 3) := by decide +kernel
theorem dL_law__376 : decode cL_law_ 376 = .ok (.istore 5, 2) := by decide +kernel
theorem dL_law__378 : decode cL_law_ 378 = .ok (.aload_n 2, 1) := by decide +kernel
theorem dL_law__379 : decode cL_law_ 379 = .ok (.aload_n 0, 1) := by decide +kernel
theorem dL_law__380 : decode cL_law_ 380 = .ok (.iload 4, 2) := by decide +kernel
theorem dL_law__382 : decode cL_law_ 382 = .ok (.iconst 1, 1) := by decide +kernel
theorem dL_law__383 : decode cL_law_ 383 = .ok (.iadd, 1) := by decide +kernel
theorem dL_law__384 : decode cL_law_ 384 = .ok (.iaload, 1) := by decide +kernel
theorem dL_law__385 : decode cL_law_ 385 = .ok (.invokevirtual 142, 3) := by decide +kernel
theorem dL_law__388 : decode cL_law_ 388 = .ok (.istore 6, 2) := by decide +kernel
theorem dL_law__390 : decode cL_law_ 390 = .ok (.aload_n 2, 1) := by decide +kernel
theorem dL_law__391 : decode cL_law_ 391 = .ok (.invokevirtual 136, 3) := by decide +kernel
theorem dL_law__394 : decode cL_law_ 394 = .ok (.iload 5, 2) := by decide +kernel
theorem dL_law__396 : decode cL_law_ 396 = .ok (.if_icmp .eq 5, 3) := by decide +kernel
theorem dL_law__399 : decode cL_law_ 399 = .ok (.iconst 0, 1) := by decide +kernel
theorem dL_law__400 : decode cL_law_ 400 = .ok (.ireturn, 1) := by decide +kernel
theorem dL_law__401 : decode cL_law_ 401 = .ok (.iload 5, 2) := by decide +kernel
theorem dL_law__403 : decode cL_law_ 403 = .ok (.ifCond .ne 15, 3) := by decide +kernel
theorem dL_law__406 : decode cL_law_ 406 = .ok (.aload_n 3, 1) := by decide +kernel
theorem dL_law__407 : decode cL_law_ 407 = .ok (.iconst 0, 1) := by decide +kernel
theorem dL_law__408 : decode cL_law_ 408 = .ok (.laload, 1) := by decide +kernel
theorem dL_law__409 : decode cL_law_ 409 = .ok (.iload 6, 2) := by decide +kernel
theorem dL_law__411 : decode cL_law_ 411 = .ok (.i2l, 1) := by decide +kernel
theorem dL_law__412 : decode cL_law_ 412 = .ok (.lcmp, 1) := by decide +kernel
theorem dL_law__413 : decode cL_law_ 413 = .ok (.ifCond .eq 5, 3) := by decide +kernel
theorem dL_law__416 : decode cL_law_ 416 = .ok (.iconst 0, 1) := by decide +kernel
theorem dL_law__417 : decode cL_law_ 417 = .ok (.ireturn, 1) := by decide +kernel
theorem dL_law__418 : decode cL_law_ 418 = .ok (.goto 2353, 3) := by decide +kernel
theorem dL_law__421 : decode cL_law_ 421 = .ok (.aload_n 1, 1) := by decide +kernel
theorem dL_law__422 : decode cL_law_ 422 = .ok (.aload_n 0, 1) := by decide +kernel
theorem dL_law__423 : decode cL_law_ 423 = .ok (.iload 4, 2) := by decide +kernel
theorem dL_law__425 : decode cL_law_ 425 = .ok (.iconst 1, 1) := by decide +kernel
theorem dL_law__426 : decode cL_law_ 426 = .ok (.iadd, 1) := by decide +kernel
theorem dL_law__427 : decode cL_law_ 427 = .ok (.iaload, 1) := by decide +kernel
theorem dL_law__428 : decode cL_law_ 428 = .ok (.aload_n 3, 1) := by decide +kernel
theorem dL_law__429 : decode cL_law_ 429 = .ok (.invokestatic 143, 3) := by decide +kernel
theorem dL_law__432 : decode cL_law_ 432 = .ok (.istore 5, 2) := by decide +kernel
theorem dL_law__434 : decode cL_law_ 434 = .ok (.aload_n 2, 1) := by decide +kernel
theorem dL_law__435 : decode cL_law_ 435 = .ok (.aload_n 0, 1) := by decide +kernel
theorem dL_law__436 : decode cL_law_ 436 = .ok (.iload 4, 2) := by decide +kernel
theorem dL_law__438 : decode cL_law_ 438 = .ok (.iconst 1, 1) := by decide +kernel
theorem dL_law__439 : decode cL_law_ 439 = .ok (.iadd, 1) := by decide +kernel
theorem dL_law__440 : decode cL_law_ 440 = .ok (.iaload, 1) := by decide +kernel
theorem dL_law__441 : decode cL_law_ 441 = .ok (.invokevirtual 145, 3) := by decide +kernel
theorem dL_law__444 : decode cL_law_ 444 = .ok (.istore 6, 2) := by decide +kernel
theorem dL_law__446 : decode cL_law_ 446 = .ok (.aload_n 2, 1) := by decide +kernel
theorem dL_law__447 : decode cL_law_ 447 = .ok (.invokevirtual 136, 3) := by decide +kernel
theorem dL_law__450 : decode cL_law_ 450 = .ok (.iload 5, 2) := by decide +kernel
theorem dL_law__452 : decode cL_law_ 452 = .ok (.if_icmp .eq 5, 3) := by decide +kernel
theorem dL_law__455 : decode cL_law_ 455 = .ok (.iconst 0, 1) := by decide +kernel
theorem dL_law__456 : decode cL_law_ 456 = .ok (.ireturn, 1) := by decide +kernel
theorem dL_law__457 : decode cL_law_ 457 = .ok (.iload 5, 2) := by decide +kernel
theorem dL_law__459 : decode cL_law_ 459 = .ok (.ifCond .ne 15, 3) := by decide +kernel
theorem dL_law__462 : decode cL_law_ 462 = .ok (.aload_n 3, 1) := by decide +kernel
theorem dL_law__463 : decode cL_law_ 463 = .ok (.iconst 0, 1) := by decide +kernel
theorem dL_law__464 : decode cL_law_ 464 = .ok (.laload, 1) := by decide +kernel
theorem dL_law__465 : decode cL_law_ 465 = .ok (.iload 6, 2) := by decide +kernel
theorem dL_law__467 : decode cL_law_ 467 = .ok (.i2l, 1) := by decide +kernel
theorem dL_law__468 : decode cL_law_ 468 = .ok (.lcmp, 1) := by decide +kernel
theorem dL_law__469 : decode cL_law_ 469 = .ok (.ifCond .eq 5, 3) := by decide +kernel
theorem dL_law__472 : decode cL_law_ 472 = .ok (.iconst 0, 1) := by decide +kernel
theorem dL_law__473 : decode cL_law_ 473 = .ok (.ireturn, 1) := by decide +kernel
theorem dL_law__474 : decode cL_law_ 474 = .ok (.goto 2297, 3) := by decide +kernel
theorem dL_law__477 : decode cL_law_ 477 = .ok (.aload_n 1, 1) := by decide +kernel
theorem dL_law__478 : decode cL_law_ 478 = .ok (.aload_n 0, 1) := by decide +kernel
theorem dL_law__479 : decode cL_law_ 479 = .ok (.iload 4, 2) := by decide +kernel
theorem dL_law__481 : decode cL_law_ 481 = .ok (.iconst 1, 1) := by decide +kernel
theorem dL_law__482 : decode cL_law_ 482 = .ok (.iadd, 1) := by decide +kernel
theorem dL_law__483 : decode cL_law_ 483 = .ok (.iaload, 1) := by decide +kernel
theorem dL_law__484 : decode cL_law_ 484 = .ok (.aload_n 3, 1) := by decide +kernel
theorem dL_law__485 : decode cL_law_ 485 = .ok (.invokestatic 146, 3) := by decide +kernel
theorem dL_law__488 : decode cL_law_ 488 = .ok (.istore 5, 2) := by decide +kernel
theorem dL_law__490 : decode cL_law_ 490 = .ok (.aload_n 2, 1) := by decide +kernel
theorem dL_law__491 : decode cL_law_ 491 = .ok (.aload_n 0, 1) := by decide +kernel
theorem dL_law__492 : decode cL_law_ 492 = .ok (.iload 4, 2) := by decide +kernel
theorem dL_law__494 : decode cL_law_ 494 = .ok (.iconst 1, 1) := by decide +kernel
theorem dL_law__495 : decode cL_law_ 495 = .ok (.iadd, 1) := by decide +kernel
theorem dL_law__496 : decode cL_law_ 496 = .ok (.iaload, 1) := by decide +kernel
theorem dL_law__497 : decode cL_law_ 497 = .ok (.invokevirtual 148, 3) := by decide +kernel
theorem dL_law__500 : decode cL_law_ 500 = .ok (.istore 6, 2) := by decide +kernel
theorem dL_law__502 : decode cL_law_ 502 = .ok (.aload_n 2, 1) := by decide +kernel
theorem dL_law__503 : decode cL_law_ 503 = .ok (.invokevirtual 136, 3) := by decide +kernel
theorem dL_law__506 : decode cL_law_ 506 = .ok (.iload 5, 2) := by decide +kernel
theorem dL_law__508 : decode cL_law_ 508 = .ok (.if_icmp .eq 5, 3) := by decide +kernel
theorem dL_law__511 : decode cL_law_ 511 = .ok (.iconst 0, 1) := by decide +kernel
theorem dL_law__512 : decode cL_law_ 512 = .ok (.ireturn, 1) := by decide +kernel
theorem dL_law__513 : decode cL_law_ 513 = .ok (.iload 5, 2) := by decide +kernel
theorem dL_law__515 : decode cL_law_ 515 = .ok (.ifCond .ne 15, 3) := by decide +kernel
theorem dL_law__518 : decode cL_law_ 518 = .ok (.aload_n 3, 1) := by decide +kernel
theorem dL_law__519 : decode cL_law_ 519 = .ok (.iconst 0, 1) := by decide +kernel
theorem dL_law__520 : decode cL_law_ 520 = .ok (.laload, 1) := by decide +kernel
theorem dL_law__521 : decode cL_law_ 521 = .ok (.iload 6, 2) := by decide +kernel
theorem dL_law__523 : decode cL_law_ 523 = .ok (.i2l, 1) := by decide +kernel
theorem dL_law__524 : decode cL_law_ 524 = .ok (.lcmp, 1) := by decide +kernel
theorem dL_law__525 : decode cL_law_ 525 = .ok (.ifCond .eq 5, 3) := by decide +kernel
theorem dL_law__528 : decode cL_law_ 528 = .ok (.iconst 0, 1) := by decide +kernel
theorem dL_law__529 : decode cL_law_ 529 = .ok (.ireturn, 1) := by decide +kernel
theorem dL_law__530 : decode cL_law_ 530 = .ok (.goto 2241, 3) := by decide +kernel
theorem dL_law__533 : decode cL_law_ 533 = .ok (.aload_n 1, 1) := by decide +kernel
theorem dL_law__534 : decode cL_law_ 534 = .ok (.invokevirtual 149, 3) := by decide +kernel
theorem dL_law__537 : decode cL_law_ 537 = .ok (.aload_n 2, 1) := by decide +kernel
theorem dL_law__538 : decode cL_law_ 538 = .ok (.invokevirtual 152, 3) := by decide +kernel
theorem dL_law__541 : decode cL_law_ 541 = .ok (.if_icmp .eq 2230, 3) := by decide +kernel
theorem dL_law__544 : decode cL_law_ 544 = .ok (.iconst 0, 1) := by decide +kernel
theorem dL_law__545 : decode cL_law_ 545 = .ok (.ireturn, 1) := by decide +kernel
theorem dL_law__546 : decode cL_law_ 546 = .ok (.aload_n 1, 1) := by decide +kernel
theorem dL_law__547 : decode cL_law_ 547 = .ok (.invokevirtual 153, 3) := by decide +kernel
theorem dL_law__550 : decode cL_law_ 550 = .ok (.aload_n 2, 1) := by decide +kernel
theorem dL_law__551 : decode cL_law_ 551 = .ok (.invokevirtual 156, 3) := by decide +kernel
theorem dL_law__554 : decode cL_law_ 554 = .ok (.if_icmp .eq 2217, 3) := by decide +kernel
theorem dL_law__557 : decode cL_law_ 557 = .ok (.iconst 0, 1) := by decide +kernel
theorem dL_law__558 : decode cL_law_ 558 = .ok (.ireturn, 1) := by decide +kernel
theorem dL_law__559 : decode cL_law_ 559 = .ok (.aload_n 1, 1) := by decide +kernel
theorem dL_law__560 : decode cL_law_ 560 = .ok (.aload_n 0, 1) := by decide +kernel
theorem dL_law__561 : decode cL_law_ 561 = .ok (.iload 4, 2) := by decide +kernel
theorem dL_law__563 : decode cL_law_ 563 = .ok (.iconst 1, 1) := by decide +kernel
theorem dL_law__564 : decode cL_law_ 564 = .ok (.iadd, 1) := by decide +kernel
theorem dL_law__565 : decode cL_law_ 565 = .ok (.iaload, 1) := by decide +kernel
theorem dL_law__566 : decode cL_law_ 566 = .ok (.aload_n 3, 1) := by decide +kernel
theorem dL_law__567 : decode cL_law_ 567 = .ok (.invokestatic 157, 3) := by decide +kernel
theorem dL_law__570 : decode cL_law_ 570 = .ok (.istore 5, 2) := by decide +kernel
theorem dL_law__572 : decode cL_law_ 572 = .ok (.aload_n 2, 1) := by decide +kernel
theorem dL_law__573 : decode cL_law_ 573 = .ok (.aload_n 0, 1) := by decide +kernel
theorem dL_law__574 : decode cL_law_ 574 = .ok (.iload 4, 2) := by decide +kernel
theorem dL_law__576 : decode cL_law_ 576 = .ok (.iconst 1, 1) := by decide +kernel
theorem dL_law__577 : decode cL_law_ 577 = .ok (.iadd, 1) := by decide +kernel
theorem dL_law__578 : decode cL_law_ 578 = .ok (.iaload, 1) := by decide +kernel
theorem dL_law__579 : decode cL_law_ 579 = .ok (.invokevirtual 159, 3) := by decide +kernel
theorem dL_law__582 : decode cL_law_ 582 = .ok (.istore 6, 2) := by decide +kernel
theorem dL_law__584 : decode cL_law_ 584 = .ok (.aload_n 2, 1) := by decide +kernel
theorem dL_law__585 : decode cL_law_ 585 = .ok (.invokevirtual 136, 3) := by decide +kernel
theorem dL_law__588 : decode cL_law_ 588 = .ok (.iload 5, 2) := by decide +kernel
theorem dL_law__590 : decode cL_law_ 590 = .ok (.if_icmp .eq 5, 3) := by decide +kernel
theorem dL_law__593 : decode cL_law_ 593 = .ok (.iconst 0, 1) := by decide +kernel
theorem dL_law__594 : decode cL_law_ 594 = .ok (.ireturn, 1) := by decide +kernel
theorem dL_law__595 : decode cL_law_ 595 = .ok (.iload 5, 2) := by decide +kernel
theorem dL_law__597 : decode cL_law_ 597 = .ok (.ifCond .ne 15, 3) := by decide +kernel
theorem dL_law__600 : decode cL_law_ 600 = .ok (.aload_n 3, 1) := by decide +kernel
theorem dL_law__601 : decode cL_law_ 601 = .ok (.iconst 0, 1) := by decide +kernel
theorem dL_law__602 : decode cL_law_ 602 = .ok (.laload, 1) := by decide +kernel
theorem dL_law__603 : decode cL_law_ 603 = .ok (.iload 6, 2) := by decide +kernel
theorem dL_law__605 : decode cL_law_ 605 = .ok (.i2l, 1) := by decide +kernel
theorem dL_law__606 : decode cL_law_ 606 = .ok (.lcmp, 1) := by decide +kernel
theorem dL_law__607 : decode cL_law_ 607 = .ok (.ifCond .eq 5, 3) := by decide +kernel
theorem dL_law__610 : decode cL_law_ 610 = .ok (.iconst 0, 1) := by decide +kernel
theorem dL_law__611 : decode cL_law_ 611 = .ok (.ireturn, 1) := by decide +kernel
theorem dL_law__612 : decode cL_law_ 612 = .ok (.goto 2159, 3) := by decide +kernel
theorem dL_law__615 : decode cL_law_ 615 = .ok (.aload_n 1, 1) := by decide +kernel
theorem dL_law__616 : decode cL_law_ 616 = .ok (.aload_n 0, 1) := by decide +kernel
theorem dL_law__617 : decode cL_law_ 617 = .ok (.iload 4, 2) := by decide +kernel
theorem dL_law__619 : decode cL_law_ 619 = .ok (.iconst 1, 1) := by decide +kernel
theorem dL_law__620 : decode cL_law_ 620 = .ok (.iadd, 1) := by decide +kernel
theorem dL_law__621 : decode cL_law_ 621 = .ok (.iaload, 1) := by decide +kernel
theorem dL_law__622 : decode cL_law_ 622 = .ok (.aload_n 0, 1) := by decide +kernel
theorem dL_law__623 : decode cL_law_ 623 = .ok (.iload 4, 2) := by decide +kernel
theorem dL_law__625 : decode cL_law_ 625 = .ok (.iconst 2, 1) := by decide +kernel
theorem dL_law__626 : decode cL_law_ 626 = .ok (.iadd, 1) := by decide +kernel
theorem dL_law__627 : decode cL_law_ 627 = .ok (.iaload, 1) := by decide +kernel
theorem dL_law__628 : decode cL_law_ 628 = .ok (.aload_n 3, 1) := by decide +kernel
theorem dL_law__629 : decode cL_law_ 629 = .ok (.invokestatic 160, 3) := by decide +kernel
theorem dL_law__632 : decode cL_law_ 632 = .ok (.istore 5, 2) := by decide +kernel
theorem dL_law__634 : decode cL_law_ 634 = .ok (.aload_n 2, 1) := by decide +kernel
theorem dL_law__635 : decode cL_law_ 635 = .ok (.aload_n 0, 1) := by decide +kernel
theorem dL_law__636 : decode cL_law_ 636 = .ok (.iload 4, 2) := by decide +kernel
theorem dL_law__638 : decode cL_law_ 638 = .ok (.iconst 1, 1) := by decide +kernel
theorem dL_law__639 : decode cL_law_ 639 = .ok (.iadd, 1) := by decide +kernel
theorem dL_law__640 : decode cL_law_ 640 = .ok (.iaload, 1) := by decide +kernel
theorem dL_law__641 : decode cL_law_ 641 = .ok (.aload_n 0, 1) := by decide +kernel
theorem dL_law__642 : decode cL_law_ 642 = .ok (.iload 4, 2) := by decide +kernel
theorem dL_law__644 : decode cL_law_ 644 = .ok (.iconst 2, 1) := by decide +kernel
theorem dL_law__645 : decode cL_law_ 645 = .ok (.iadd, 1) := by decide +kernel
theorem dL_law__646 : decode cL_law_ 646 = .ok (.iaload, 1) := by decide +kernel
theorem dL_law__647 : decode cL_law_ 647 = .ok (.invokevirtual 163, 3) := by decide +kernel
theorem dL_law__650 : decode cL_law_ 650 = .ok (.istore 6, 2) := by decide +kernel
theorem dL_law__652 : decode cL_law_ 652 = .ok (.aload_n 2, 1) := by decide +kernel
theorem dL_law__653 : decode cL_law_ 653 = .ok (.invokevirtual 136, 3) := by decide +kernel
theorem dL_law__656 : decode cL_law_ 656 = .ok (.iload 5, 2) := by decide +kernel
theorem dL_law__658 : decode cL_law_ 658 = .ok (.if_icmp .eq 5, 3) := by decide +kernel
theorem dL_law__661 : decode cL_law_ 661 = .ok (.iconst 0, 1) := by decide +kernel
theorem dL_law__662 : decode cL_law_ 662 = .ok (.ireturn, 1) := by decide +kernel
theorem dL_law__663 : decode cL_law_ 663 = .ok (.iload 5, 2) := by decide +kernel
theorem dL_law__665 : decode cL_law_ 665 = .ok (.ifCond .ne 15, 3) := by decide +kernel
theorem dL_law__668 : decode cL_law_ 668 = .ok (.aload_n 3, 1) := by decide +kernel
theorem dL_law__669 : decode cL_law_ 669 = .ok (.iconst 0, 1) := by decide +kernel
theorem dL_law__670 : decode cL_law_ 670 = .ok (.laload, 1) := by decide +kernel
theorem dL_law__671 : decode cL_law_ 671 = .ok (.iload 6, 2) := by decide +kernel
theorem dL_law__673 : decode cL_law_ 673 = .ok (.i2l, 1) := by decide +kernel
theorem dL_law__674 : decode cL_law_ 674 = .ok (.lcmp, 1) := by decide +kernel
theorem dL_law__675 : decode cL_law_ 675 = .ok (.ifCond .eq 5, 3) := by decide +kernel
theorem dL_law__678 : decode cL_law_ 678 = .ok (.iconst 0, 1) := by decide +kernel
theorem dL_law__679 : decode cL_law_ 679 = .ok (.ireturn, 1) := by decide +kernel
theorem dL_law__680 : decode cL_law_ 680 = .ok (.goto 2091, 3) := by decide +kernel
theorem dL_law__683 : decode cL_law_ 683 = .ok (.aload_n 1, 1) := by decide +kernel
theorem dL_law__684 : decode cL_law_ 684 = .ok (.aload_n 0, 1) := by decide +kernel
theorem dL_law__685 : decode cL_law_ 685 = .ok (.iload 4, 2) := by decide +kernel
theorem dL_law__687 : decode cL_law_ 687 = .ok (.iconst 1, 1) := by decide +kernel
theorem dL_law__688 : decode cL_law_ 688 = .ok (.iadd, 1) := by decide +kernel
theorem dL_law__689 : decode cL_law_ 689 = .ok (.iaload, 1) := by decide +kernel
theorem dL_law__690 : decode cL_law_ 690 = .ok (.aload_n 0, 1) := by decide +kernel
theorem dL_law__691 : decode cL_law_ 691 = .ok (.iload 4, 2) := by decide +kernel
theorem dL_law__693 : decode cL_law_ 693 = .ok (.iconst 2, 1) := by decide +kernel
theorem dL_law__694 : decode cL_law_ 694 = .ok (.iadd, 1) := by decide +kernel
theorem dL_law__695 : decode cL_law_ 695 = .ok (.iaload, 1) := by decide +kernel
theorem dL_law__696 : decode cL_law_ 696 = .ok (.aload_n 3, 1) := by decide +kernel
theorem dL_law__697 : decode cL_law_ 697 = .ok (.invokestatic 164, 3) := by decide +kernel
theorem dL_law__700 : decode cL_law_ 700 = .ok (.istore 5, 2) := by decide +kernel
theorem dL_law__702 : decode cL_law_ 702 = .ok (.aload_n 2, 1) := by decide +kernel
theorem dL_law__703 : decode cL_law_ 703 = .ok (.aload_n 0, 1) := by decide +kernel
theorem dL_law__704 : decode cL_law_ 704 = .ok (.iload 4, 2) := by decide +kernel
theorem dL_law__706 : decode cL_law_ 706 = .ok (.iconst 1, 1) := by decide +kernel
theorem dL_law__707 : decode cL_law_ 707 = .ok (.iadd, 1) := by decide +kernel
theorem dL_law__708 : decode cL_law_ 708 = .ok (.iaload, 1) := by decide +kernel
theorem dL_law__709 : decode cL_law_ 709 = .ok (.aload_n 0, 1) := by decide +kernel
theorem dL_law__710 : decode cL_law_ 710 = .ok (.iload 4, 2) := by decide +kernel
theorem dL_law__712 : decode cL_law_ 712 = .ok (.iconst 2, 1) := by decide +kernel
theorem dL_law__713 : decode cL_law_ 713 = .ok (.iadd, 1) := by decide +kernel
theorem dL_law__714 : decode cL_law_ 714 = .ok (.iaload, 1) := by decide +kernel
theorem dL_law__715 : decode cL_law_ 715 = .ok (.invokevirtual 166, 3) := by decide +kernel
theorem dL_law__718 : decode cL_law_ 718 = .ok (.istore 6, 2) := by decide +kernel
theorem dL_law__720 : decode cL_law_ 720 = .ok (.aload_n 2, 1) := by decide +kernel
theorem dL_law__721 : decode cL_law_ 721 = .ok (.invokevirtual 136, 3) := by decide +kernel
theorem dL_law__724 : decode cL_law_ 724 = .ok (.iload 5, 2) := by decide +kernel
theorem dL_law__726 : decode cL_law_ 726 = .ok (.if_icmp .eq 5, 3) := by decide +kernel
theorem dL_law__729 : decode cL_law_ 729 = .ok (.iconst 0, 1) := by decide +kernel
theorem dL_law__730 : decode cL_law_ 730 = .ok (.ireturn, 1) := by decide +kernel
theorem dL_law__731 : decode cL_law_ 731 = .ok (.iload 5, 2) := by decide +kernel
theorem dL_law__733 : decode cL_law_ 733 = .ok (.ifCond .ne 15, 3) := by decide +kernel
theorem dL_law__736 : decode cL_law_ 736 = .ok (.aload_n 3, 1) := by decide +kernel
theorem dL_law__737 : decode cL_law_ 737 = .ok (.iconst 0, 1) := by decide +kernel
theorem dL_law__738 : decode cL_law_ 738 = .ok (.laload, 1) := by decide +kernel
theorem dL_law__739 : decode cL_law_ 739 = .ok (.iload 6, 2) := by decide +kernel
theorem dL_law__741 : decode cL_law_ 741 = .ok (.i2l, 1) := by decide +kernel
theorem dL_law__742 : decode cL_law_ 742 = .ok (.lcmp, 1) := by decide +kernel
theorem dL_law__743 : decode cL_law_ 743 = .ok (.ifCond .eq 5, 3) := by decide +kernel
theorem dL_law__746 : decode cL_law_ 746 = .ok (.iconst 0, 1) := by decide +kernel
theorem dL_law__747 : decode cL_law_ 747 = .ok (.ireturn, 1) := by decide +kernel
theorem dL_law__748 : decode cL_law_ 748 = .ok (.goto 2023, 3) := by decide +kernel
theorem dL_law__751 : decode cL_law_ 751 = .ok (.aload_n 1, 1) := by decide +kernel
theorem dL_law__752 : decode cL_law_ 752 = .ok (.aload_n 0, 1) := by decide +kernel
theorem dL_law__753 : decode cL_law_ 753 = .ok (.iload 4, 2) := by decide +kernel
theorem dL_law__755 : decode cL_law_ 755 = .ok (.iconst 1, 1) := by decide +kernel
theorem dL_law__756 : decode cL_law_ 756 = .ok (.iadd, 1) := by decide +kernel
theorem dL_law__757 : decode cL_law_ 757 = .ok (.iaload, 1) := by decide +kernel
theorem dL_law__758 : decode cL_law_ 758 = .ok (.aload_n 0, 1) := by decide +kernel
theorem dL_law__759 : decode cL_law_ 759 = .ok (.iload 4, 2) := by decide +kernel
theorem dL_law__761 : decode cL_law_ 761 = .ok (.iconst 2, 1) := by decide +kernel
theorem dL_law__762 : decode cL_law_ 762 = .ok (.iadd, 1) := by decide +kernel
theorem dL_law__763 : decode cL_law_ 763 = .ok (.iaload, 1) := by decide +kernel
theorem dL_law__764 : decode cL_law_ 764 = .ok (.aload_n 3, 1) := by decide +kernel
theorem dL_law__765 : decode cL_law_ 765 = .ok (.invokestatic 167, 3) := by decide +kernel
theorem dL_law__768 : decode cL_law_ 768 = .ok (.istore 5, 2) := by decide +kernel
theorem dL_law__770 : decode cL_law_ 770 = .ok (.aload_n 2, 1) := by decide +kernel
theorem dL_law__771 : decode cL_law_ 771 = .ok (.aload_n 0, 1) := by decide +kernel
theorem dL_law__772 : decode cL_law_ 772 = .ok (.iload 4, 2) := by decide +kernel
theorem dL_law__774 : decode cL_law_ 774 = .ok (.iconst 1, 1) := by decide +kernel
theorem dL_law__775 : decode cL_law_ 775 = .ok (.iadd, 1) := by decide +kernel
theorem dL_law__776 : decode cL_law_ 776 = .ok (.iaload, 1) := by decide +kernel
theorem dL_law__777 : decode cL_law_ 777 = .ok (.aload_n 0, 1) := by decide +kernel
theorem dL_law__778 : decode cL_law_ 778 = .ok (.iload 4, 2) := by decide +kernel
theorem dL_law__780 : decode cL_law_ 780 = .ok (.iconst 2, 1) := by decide +kernel
theorem dL_law__781 : decode cL_law_ 781 = .ok (.iadd, 1) := by decide +kernel
theorem dL_law__782 : decode cL_law_ 782 = .ok (.iaload, 1) := by decide +kernel
theorem dL_law__783 : decode cL_law_ 783 = .ok (.invokevirtual 169, 3) := by decide +kernel
theorem dL_law__786 : decode cL_law_ 786 = .ok (.istore 6, 2) := by decide +kernel
theorem dL_law__788 : decode cL_law_ 788 = .ok (.aload_n 2, 1) := by decide +kernel
theorem dL_law__789 : decode cL_law_ 789 = .ok (.invokevirtual 136, 3) := by decide +kernel
theorem dL_law__792 : decode cL_law_ 792 = .ok (.iload 5, 2) := by decide +kernel
theorem dL_law__794 : decode cL_law_ 794 = .ok (.if_icmp .eq 5, 3) := by decide +kernel
theorem dL_law__797 : decode cL_law_ 797 = .ok (.iconst 0, 1) := by decide +kernel
theorem dL_law__798 : decode cL_law_ 798 = .ok (.ireturn, 1) := by decide +kernel
theorem dL_law__799 : decode cL_law_ 799 = .ok (.iload 5, 2) := by decide +kernel
theorem dL_law__801 : decode cL_law_ 801 = .ok (.ifCond .ne 15, 3) := by decide +kernel
theorem dL_law__804 : decode cL_law_ 804 = .ok (.aload_n 3, 1) := by decide +kernel
theorem dL_law__805 : decode cL_law_ 805 = .ok (.iconst 0, 1) := by decide +kernel
theorem dL_law__806 : decode cL_law_ 806 = .ok (.laload, 1) := by decide +kernel
theorem dL_law__807 : decode cL_law_ 807 = .ok (.iload 6, 2) := by decide +kernel
theorem dL_law__809 : decode cL_law_ 809 = .ok (.i2l, 1) := by decide +kernel
theorem dL_law__810 : decode cL_law_ 810 = .ok (.lcmp, 1) := by decide +kernel
theorem dL_law__811 : decode cL_law_ 811 = .ok (.ifCond .eq 5, 3) := by decide +kernel
theorem dL_law__814 : decode cL_law_ 814 = .ok (.iconst 0, 1) := by decide +kernel
theorem dL_law__815 : decode cL_law_ 815 = .ok (.ireturn, 1) := by decide +kernel
theorem dL_law__816 : decode cL_law_ 816 = .ok (.goto 1955, 3) := by decide +kernel
theorem dL_law__819 : decode cL_law_ 819 = .ok (.aload_n 1, 1) := by decide +kernel
theorem dL_law__820 : decode cL_law_ 820 = .ok (.aload_n 0, 1) := by decide +kernel
theorem dL_law__821 : decode cL_law_ 821 = .ok (.iload 4, 2) := by decide +kernel
theorem dL_law__823 : decode cL_law_ 823 = .ok (.iconst 1, 1) := by decide +kernel
theorem dL_law__824 : decode cL_law_ 824 = .ok (.iadd, 1) := by decide +kernel
theorem dL_law__825 : decode cL_law_ 825 = .ok (.iaload, 1) := by decide +kernel
theorem dL_law__826 : decode cL_law_ 826 = .ok (.aload_n 0, 1) := by decide +kernel
theorem dL_law__827 : decode cL_law_ 827 = .ok (.iload 4, 2) := by decide +kernel
theorem dL_law__829 : decode cL_law_ 829 = .ok (.iconst 2, 1) := by decide +kernel
theorem dL_law__830 : decode cL_law_ 830 = .ok (.iadd, 1) := by decide +kernel
theorem dL_law__831 : decode cL_law_ 831 = .ok (.iaload, 1) := by decide +kernel
theorem dL_law__832 : decode cL_law_ 832 = .ok (.aload_n 0, 1) := by decide +kernel
theorem dL_law__833 : decode cL_law_ 833 = .ok (.iload 4, 2) := by decide +kernel
theorem dL_law__835 : decode cL_law_ 835 = .ok (.iconst 3, 1) := by decide +kernel
theorem dL_law__836 : decode cL_law_ 836 = .ok (.iadd, 1) := by decide +kernel
theorem dL_law__837 : decode cL_law_ 837 = .ok (.iaload, 1) := by decide +kernel
theorem dL_law__838 : decode cL_law_ 838 = .ok (.aload_n 3, 1) := by decide +kernel
theorem dL_law__839 : decode cL_law_ 839 = .ok (.invokestatic 170, 3) := by decide +kernel
theorem dL_law__842 : decode cL_law_ 842 = .ok (.istore 5, 2) := by decide +kernel
theorem dL_law__844 : decode cL_law_ 844 = .ok (.aload_n 2, 1) := by decide +kernel
theorem dL_law__845 : decode cL_law_ 845 = .ok (.aload_n 0, 1) := by decide +kernel
theorem dL_law__846 : decode cL_law_ 846 = .ok (.iload 4, 2) := by decide +kernel
theorem dL_law__848 : decode cL_law_ 848 = .ok (.iconst 1, 1) := by decide +kernel
theorem dL_law__849 : decode cL_law_ 849 = .ok (.iadd, 1) := by decide +kernel
theorem dL_law__850 : decode cL_law_ 850 = .ok (.iaload, 1) := by decide +kernel
theorem dL_law__851 : decode cL_law_ 851 = .ok (.aload_n 0, 1) := by decide +kernel
theorem dL_law__852 : decode cL_law_ 852 = .ok (.iload 4, 2) := by decide +kernel
theorem dL_law__854 : decode cL_law_ 854 = .ok (.iconst 2, 1) := by decide +kernel
theorem dL_law__855 : decode cL_law_ 855 = .ok (.iadd, 1) := by decide +kernel
theorem dL_law__856 : decode cL_law_ 856 = .ok (.iaload, 1) := by decide +kernel
theorem dL_law__857 : decode cL_law_ 857 = .ok (.aload_n 0, 1) := by decide +kernel
theorem dL_law__858 : decode cL_law_ 858 = .ok (.iload 4, 2) := by decide +kernel
theorem dL_law__860 : decode cL_law_ 860 = .ok (.iconst 3, 1) := by decide +kernel
theorem dL_law__861 : decode cL_law_ 861 = .ok (.iadd, 1) := by decide +kernel
theorem dL_law__862 : decode cL_law_ 862 = .ok (.iaload, 1) := by decide +kernel
theorem dL_law__863 : decode cL_law_ 863 = .ok (.invokevirtual 173, 3) := by decide +kernel
theorem dL_law__866 : decode cL_law_ 866 = .ok (.istore 6, 2) := by decide +kernel
theorem dL_law__868 : decode cL_law_ 868 = .ok (.aload_n 2, 1) := by decide +kernel
theorem dL_law__869 : decode cL_law_ 869 = .ok (.invokevirtual 136, 3) := by decide +kernel
theorem dL_law__872 : decode cL_law_ 872 = .ok (.iload 5, 2) := by decide +kernel
theorem dL_law__874 : decode cL_law_ 874 = .ok (.if_icmp .eq 5, 3) := by decide +kernel
theorem dL_law__877 : decode cL_law_ 877 = .ok (.iconst 0, 1) := by decide +kernel
theorem dL_law__878 : decode cL_law_ 878 = .ok (.ireturn, 1) := by decide +kernel
theorem dL_law__879 : decode cL_law_ 879 = .ok (.iload 5, 2) := by decide +kernel
theorem dL_law__881 : decode cL_law_ 881 = .ok (.ifCond .ne 15, 3) := by decide +kernel
theorem dL_law__884 : decode cL_law_ 884 = .ok (.aload_n 3, 1) := by decide +kernel
theorem dL_law__885 : decode cL_law_ 885 = .ok (.iconst 0, 1) := by decide +kernel
theorem dL_law__886 : decode cL_law_ 886 = .ok (.laload, 1) := by decide +kernel
theorem dL_law__887 : decode cL_law_ 887 = .ok (.iload 6, 2) := by decide +kernel
theorem dL_law__889 : decode cL_law_ 889 = .ok (.i2l, 1) := by decide +kernel
theorem dL_law__890 : decode cL_law_ 890 = .ok (.lcmp, 1) := by decide +kernel
theorem dL_law__891 : decode cL_law_ 891 = .ok (.ifCond .eq 5, 3) := by decide +kernel
theorem dL_law__894 : decode cL_law_ 894 = .ok (.iconst 0, 1) := by decide +kernel
theorem dL_law__895 : decode cL_law_ 895 = .ok (.ireturn, 1) := by decide +kernel
theorem dL_law__896 : decode cL_law_ 896 = .ok (.goto 1875, 3) := by decide +kernel
theorem dL_law__899 : decode cL_law_ 899 = .ok (.aload_n 1, 1) := by decide +kernel
theorem dL_law__900 : decode cL_law_ 900 = .ok (.aload_n 0, 1) := by decide +kernel
theorem dL_law__901 : decode cL_law_ 901 = .ok (.iload 4, 2) := by decide +kernel
theorem dL_law__903 : decode cL_law_ 903 = .ok (.iconst 1, 1) := by decide +kernel
theorem dL_law__904 : decode cL_law_ 904 = .ok (.iadd, 1) := by decide +kernel
theorem dL_law__905 : decode cL_law_ 905 = .ok (.iaload, 1) := by decide +kernel
theorem dL_law__906 : decode cL_law_ 906 = .ok (.aload_n 0, 1) := by decide +kernel
theorem dL_law__907 : decode cL_law_ 907 = .ok (.iload 4, 2) := by decide +kernel
theorem dL_law__909 : decode cL_law_ 909 = .ok (.iconst 2, 1) := by decide +kernel
theorem dL_law__910 : decode cL_law_ 910 = .ok (.iadd, 1) := by decide +kernel
theorem dL_law__911 : decode cL_law_ 911 = .ok (.iaload, 1) := by decide +kernel
theorem dL_law__912 : decode cL_law_ 912 = .ok (.aload_n 0, 1) := by decide +kernel
theorem dL_law__913 : decode cL_law_ 913 = .ok (.iload 4, 2) := by decide +kernel
theorem dL_law__915 : decode cL_law_ 915 = .ok (.iconst 3, 1) := by decide +kernel
theorem dL_law__916 : decode cL_law_ 916 = .ok (.iadd, 1) := by decide +kernel
theorem dL_law__917 : decode cL_law_ 917 = .ok (.iaload, 1) := by decide +kernel
theorem dL_law__918 : decode cL_law_ 918 = .ok (.aload_n 0, 1) := by decide +kernel
theorem dL_law__919 : decode cL_law_ 919 = .ok (.iload 4, 2) := by decide +kernel
theorem dL_law__921 : decode cL_law_ 921 = .ok (.iconst 4, 1) := by decide +kernel
theorem dL_law__922 : decode cL_law_ 922 = .ok (.iadd, 1) := by decide +kernel
theorem dL_law__923 : decode cL_law_ 923 = .ok (.iaload, 1) := by decide +kernel
theorem dL_law__924 : decode cL_law_ 924 = .ok (.aload_n 0, 1) := by decide +kernel
theorem dL_law__925 : decode cL_law_ 925 = .ok (.iload 4, 2) := by decide +kernel
theorem dL_law__927 : decode cL_law_ 927 = .ok (.iconst 5, 1) := by decide +kernel
theorem dL_law__928 : decode cL_law_ 928 = .ok (.iadd, 1) := by decide +kernel
theorem dL_law__929 : decode cL_law_ 929 = .ok (.iaload, 1) := by decide +kernel
theorem dL_law__930 : decode cL_law_ 930 = .ok (.aload_n 0, 1) := by decide +kernel
theorem dL_law__931 : decode cL_law_ 931 = .ok (.iload 4, 2) := by decide +kernel
theorem dL_law__933 : decode cL_law_ 933 = .ok (.bipush 6, 2) := by decide +kernel
theorem dL_law__935 : decode cL_law_ 935 = .ok (.iadd, 1) := by decide +kernel
theorem dL_law__936 : decode cL_law_ 936 = .ok (.iaload, 1) := by decide +kernel
theorem dL_law__937 : decode cL_law_ 937 = .ok (.aload_n 0, 1) := by decide +kernel
theorem dL_law__938 : decode cL_law_ 938 = .ok (.iload 4, 2) := by decide +kernel
theorem dL_law__940 : decode cL_law_ 940 = .ok (.bipush 7, 2) := by decide +kernel
theorem dL_law__942 : decode cL_law_ 942 = .ok (.iadd, 1) := by decide +kernel
theorem dL_law__943 : decode cL_law_ 943 = .ok (.iaload, 1) := by decide +kernel
theorem dL_law__944 : decode cL_law_ 944 = .ok (.aload_n 0, 1) := by decide +kernel
theorem dL_law__945 : decode cL_law_ 945 = .ok (.iload 4, 2) := by decide +kernel
theorem dL_law__947 : decode cL_law_ 947 = .ok (.bipush 8, 2) := by decide +kernel
theorem dL_law__949 : decode cL_law_ 949 = .ok (.iadd, 1) := by decide +kernel
theorem dL_law__950 : decode cL_law_ 950 = .ok (.iaload, 1) := by decide +kernel
theorem dL_law__951 : decode cL_law_ 951 = .ok (.aload_n 3, 1) := by decide +kernel
theorem dL_law__952 : decode cL_law_ 952 = .ok (.invokestatic 174, 3) := by decide +kernel
theorem dL_law__955 : decode cL_law_ 955 = .ok (.istore 5, 2) := by decide +kernel
theorem dL_law__957 : decode cL_law_ 957 = .ok (.aload_n 2, 1) := by decide +kernel
theorem dL_law__958 : decode cL_law_ 958 = .ok (.aload_n 0, 1) := by decide +kernel
theorem dL_law__959 : decode cL_law_ 959 = .ok (.iload 4, 2) := by decide +kernel
theorem dL_law__961 : decode cL_law_ 961 = .ok (.iconst 1, 1) := by decide +kernel
theorem dL_law__962 : decode cL_law_ 962 = .ok (.iadd, 1) := by decide +kernel
theorem dL_law__963 : decode cL_law_ 963 = .ok (.iaload, 1) := by decide +kernel
theorem dL_law__964 : decode cL_law_ 964 = .ok (.aload_n 0, 1) := by decide +kernel
theorem dL_law__965 : decode cL_law_ 965 = .ok (.iload 4, 2) := by decide +kernel
theorem dL_law__967 : decode cL_law_ 967 = .ok (.iconst 2, 1) := by decide +kernel
theorem dL_law__968 : decode cL_law_ 968 = .ok (.iadd, 1) := by decide +kernel
theorem dL_law__969 : decode cL_law_ 969 = .ok (.iaload, 1) := by decide +kernel
theorem dL_law__970 : decode cL_law_ 970 = .ok (.aload_n 0, 1) := by decide +kernel
theorem dL_law__971 : decode cL_law_ 971 = .ok (.iload 4, 2) := by decide +kernel
theorem dL_law__973 : decode cL_law_ 973 = .ok (.iconst 3, 1) := by decide +kernel
theorem dL_law__974 : decode cL_law_ 974 = .ok (.iadd, 1) := by decide +kernel
theorem dL_law__975 : decode cL_law_ 975 = .ok (.iaload, 1) := by decide +kernel
theorem dL_law__976 : decode cL_law_ 976 = .ok (.aload_n 0, 1) := by decide +kernel
theorem dL_law__977 : decode cL_law_ 977 = .ok (.iload 4, 2) := by decide +kernel
theorem dL_law__979 : decode cL_law_ 979 = .ok (.iconst 4, 1) := by decide +kernel
theorem dL_law__980 : decode cL_law_ 980 = .ok (.iadd, 1) := by decide +kernel
theorem dL_law__981 : decode cL_law_ 981 = .ok (.iaload, 1) := by decide +kernel
theorem dL_law__982 : decode cL_law_ 982 = .ok (.aload_n 0, 1) := by decide +kernel
theorem dL_law__983 : decode cL_law_ 983 = .ok (.iload 4, 2) := by decide +kernel
theorem dL_law__985 : decode cL_law_ 985 = .ok (.iconst 5, 1) := by decide +kernel
theorem dL_law__986 : decode cL_law_ 986 = .ok (.iadd, 1) := by decide +kernel
theorem dL_law__987 : decode cL_law_ 987 = .ok (.iaload, 1) := by decide +kernel
theorem dL_law__988 : decode cL_law_ 988 = .ok (.aload_n 0, 1) := by decide +kernel
theorem dL_law__989 : decode cL_law_ 989 = .ok (.iload 4, 2) := by decide +kernel
theorem dL_law__991 : decode cL_law_ 991 = .ok (.bipush 6, 2) := by decide +kernel
theorem dL_law__993 : decode cL_law_ 993 = .ok (.iadd, 1) := by decide +kernel
theorem dL_law__994 : decode cL_law_ 994 = .ok (.iaload, 1) := by decide +kernel
theorem dL_law__995 : decode cL_law_ 995 = .ok (.aload_n 0, 1) := by decide +kernel
theorem dL_law__996 : decode cL_law_ 996 = .ok (.iload 4, 2) := by decide +kernel
theorem dL_law__998 : decode cL_law_ 998 = .ok (.bipush 7, 2) := by decide +kernel
theorem dL_law__1000 : decode cL_law_ 1000 = .ok (.iadd, 1) := by decide +kernel
theorem dL_law__1001 : decode cL_law_ 1001 = .ok (.iaload, 1) := by decide +kernel
theorem dL_law__1002 : decode cL_law_ 1002 = .ok (.aload_n 0, 1) := by decide +kernel
theorem dL_law__1003 : decode cL_law_ 1003 = .ok (.iload 4, 2) := by decide +kernel
theorem dL_law__1005 : decode cL_law_ 1005 = .ok (.bipush 8, 2) := by decide +kernel
theorem dL_law__1007 : decode cL_law_ 1007 = .ok (.iadd, 1) := by decide +kernel
theorem dL_law__1008 : decode cL_law_ 1008 = .ok (.iaload, 1) := by decide +kernel
theorem dL_law__1009 : decode cL_law_ 1009 = .ok (.invokevirtual 177, 3) := by decide +kernel
theorem dL_law__1012 : decode cL_law_ 1012 = .ok (.istore 6, 2) := by decide +kernel
theorem dL_law__1014 : decode cL_law_ 1014 = .ok (.aload_n 2, 1) := by decide +kernel
theorem dL_law__1015 : decode cL_law_ 1015 = .ok (.invokevirtual 136, 3) := by decide +kernel
theorem dL_law__1018 : decode cL_law_ 1018 = .ok (.iload 5, 2) := by decide +kernel
theorem dL_law__1020 : decode cL_law_ 1020 = .ok (.if_icmp .eq 5, 3) := by decide +kernel
theorem dL_law__1023 : decode cL_law_ 1023 = .ok (.iconst 0, 1) := by decide +kernel
theorem dL_law__1024 : decode cL_law_ 1024 = .ok (.ireturn, 1) := by decide +kernel
theorem dL_law__1025 : decode cL_law_ 1025 = .ok (.iload 5, 2) := by decide +kernel
theorem dL_law__1027 : decode cL_law_ 1027 = .ok (.ifCond .ne 15, 3) := by decide +kernel
theorem dL_law__1030 : decode cL_law_ 1030 = .ok (.aload_n 3, 1) := by decide +kernel
theorem dL_law__1031 : decode cL_law_ 1031 = .ok (.iconst 0, 1) := by decide +kernel
theorem dL_law__1032 : decode cL_law_ 1032 = .ok (.laload, 1) := by decide +kernel
theorem dL_law__1033 : decode cL_law_ 1033 = .ok (.iload 6, 2) := by decide +kernel
theorem dL_law__1035 : decode cL_law_ 1035 = .ok (.i2l, 1) := by decide +kernel
theorem dL_law__1036 : decode cL_law_ 1036 = .ok (.lcmp, 1) := by decide +kernel
theorem dL_law__1037 : decode cL_law_ 1037 = .ok (.ifCond .eq 5, 3) := by decide +kernel
theorem dL_law__1040 : decode cL_law_ 1040 = .ok (.iconst 0, 1) := by decide +kernel
theorem dL_law__1041 : decode cL_law_ 1041 = .ok (.ireturn, 1) := by decide +kernel
theorem dL_law__1042 : decode cL_law_ 1042 = .ok (.goto 1729, 3) := by decide +kernel
theorem dL_law__1045 : decode cL_law_ 1045 = .ok (.aload_n 1, 1) := by decide +kernel
theorem dL_law__1046 : decode cL_law_ 1046 = .ok (.aload_n 0, 1) := by decide +kernel
theorem dL_law__1047 : decode cL_law_ 1047 = .ok (.iload 4, 2) := by decide +kernel
theorem dL_law__1049 : decode cL_law_ 1049 = .ok (.iconst 1, 1) := by decide +kernel
theorem dL_law__1050 : decode cL_law_ 1050 = .ok (.iadd, 1) := by decide +kernel
theorem dL_law__1051 : decode cL_law_ 1051 = .ok (.iaload, 1) := by decide +kernel
theorem dL_law__1052 : decode cL_law_ 1052 = .ok (.aload_n 0, 1) := by decide +kernel
theorem dL_law__1053 : decode cL_law_ 1053 = .ok (.iload 4, 2) := by decide +kernel
theorem dL_law__1055 : decode cL_law_ 1055 = .ok (.iconst 2, 1) := by decide +kernel
theorem dL_law__1056 : decode cL_law_ 1056 = .ok (.iadd, 1) := by decide +kernel
theorem dL_law__1057 : decode cL_law_ 1057 = .ok (.iaload, 1) := by decide +kernel
theorem dL_law__1058 : decode cL_law_ 1058 = .ok (.aload_n 3, 1) := by decide +kernel
theorem dL_law__1059 : decode cL_law_ 1059 = .ok (.invokestatic 178, 3) := by decide +kernel
theorem dL_law__1062 : decode cL_law_ 1062 = .ok (.istore 5, 2) := by decide +kernel
theorem dL_law__1064 : decode cL_law_ 1064 = .ok (.aload_n 2, 1) := by decide +kernel
theorem dL_law__1065 : decode cL_law_ 1065 = .ok (.aload_n 0, 1) := by decide +kernel
theorem dL_law__1066 : decode cL_law_ 1066 = .ok (.iload 4, 2) := by decide +kernel
theorem dL_law__1068 : decode cL_law_ 1068 = .ok (.iconst 1, 1) := by decide +kernel
theorem dL_law__1069 : decode cL_law_ 1069 = .ok (.iadd, 1) := by decide +kernel
theorem dL_law__1070 : decode cL_law_ 1070 = .ok (.iaload, 1) := by decide +kernel
theorem dL_law__1071 : decode cL_law_ 1071 = .ok (.aload_n 0, 1) := by decide +kernel
theorem dL_law__1072 : decode cL_law_ 1072 = .ok (.iload 4, 2) := by decide +kernel
theorem dL_law__1074 : decode cL_law_ 1074 = .ok (.iconst 2, 1) := by decide +kernel
theorem dL_law__1075 : decode cL_law_ 1075 = .ok (.iadd, 1) := by decide +kernel
theorem dL_law__1076 : decode cL_law_ 1076 = .ok (.iaload, 1) := by decide +kernel
theorem dL_law__1077 : decode cL_law_ 1077 = .ok (.invokevirtual 180, 3) := by decide +kernel
theorem dL_law__1080 : decode cL_law_ 1080 = .ok (.istore 6, 2) := by decide +kernel
theorem dL_law__1082 : decode cL_law_ 1082 = .ok (.aload_n 2, 1) := by decide +kernel
theorem dL_law__1083 : decode cL_law_ 1083 = .ok (.invokevirtual 136, 3) := by decide +kernel
theorem dL_law__1086 : decode cL_law_ 1086 = .ok (.iload 5, 2) := by decide +kernel
theorem dL_law__1088 : decode cL_law_ 1088 = .ok (.if_icmp .eq 5, 3) := by decide +kernel
theorem dL_law__1091 : decode cL_law_ 1091 = .ok (.iconst 0, 1) := by decide +kernel
theorem dL_law__1092 : decode cL_law_ 1092 = .ok (.ireturn, 1) := by decide +kernel
theorem dL_law__1093 : decode cL_law_ 1093 = .ok (.iload 5, 2) := by decide +kernel
theorem dL_law__1095 : decode cL_law_ 1095 = .ok (.ifCond .ne 15, 3) := by decide +kernel
theorem dL_law__1098 : decode cL_law_ 1098 = .ok (.aload_n 3, 1) := by decide +kernel
theorem dL_law__1099 : decode cL_law_ 1099 = .ok (.iconst 0, 1) := by decide +kernel
theorem dL_law__1100 : decode cL_law_ 1100 = .ok (.laload, 1) := by decide +kernel
theorem dL_law__1101 : decode cL_law_ 1101 = .ok (.iload 6, 2) := by decide +kernel
theorem dL_law__1103 : decode cL_law_ 1103 = .ok (.i2l, 1) := by decide +kernel
theorem dL_law__1104 : decode cL_law_ 1104 = .ok (.lcmp, 1) := by decide +kernel
theorem dL_law__1105 : decode cL_law_ 1105 = .ok (.ifCond .eq 5, 3) := by decide +kernel
theorem dL_law__1108 : decode cL_law_ 1108 = .ok (.iconst 0, 1) := by decide +kernel
theorem dL_law__1109 : decode cL_law_ 1109 = .ok (.ireturn, 1) := by decide +kernel
theorem dL_law__1110 : decode cL_law_ 1110 = .ok (.goto 1661, 3) := by decide +kernel
theorem dL_law__1113 : decode cL_law_ 1113 = .ok (.aload_n 1, 1) := by decide +kernel
theorem dL_law__1114 : decode cL_law_ 1114 = .ok (.invokevirtual 181, 3) := by decide +kernel
theorem dL_law__1117 : decode cL_law_ 1117 = .ok (.aload_n 2, 1) := by decide +kernel
theorem dL_law__1118 : decode cL_law_ 1118 = .ok (.invokevirtual 184, 3) := by decide +kernel
theorem dL_law__1121 : decode cL_law_ 1121 = .ok (.if_icmp .eq 1650, 3) := by decide +kernel
theorem dL_law__1124 : decode cL_law_ 1124 = .ok (.iconst 0, 1) := by decide +kernel
theorem dL_law__1125 : decode cL_law_ 1125 = .ok (.ireturn, 1) := by decide +kernel
theorem dL_law__1126 : decode cL_law_ 1126 = .ok (.aload_n 1, 1) := by decide +kernel
theorem dL_law__1127 : decode cL_law_ 1127 = .ok (.invokevirtual 185, 3) := by decide +kernel
theorem dL_law__1130 : decode cL_law_ 1130 = .ok (.aload_n 2, 1) := by decide +kernel
theorem dL_law__1131 : decode cL_law_ 1131 = .ok (.invokevirtual 188, 3) := by decide +kernel
theorem dL_law__1134 : decode cL_law_ 1134 = .ok (.if_icmp .eq 1637, 3) := by decide +kernel
theorem dL_law__1137 : decode cL_law_ 1137 = .ok (.iconst 0, 1) := by decide +kernel
theorem dL_law__1138 : decode cL_law_ 1138 = .ok (.ireturn, 1) := by decide +kernel
theorem dL_law__1139 : decode cL_law_ 1139 = .ok (.aload_n 1, 1) := by decide +kernel
theorem dL_law__1140 : decode cL_law_ 1140 = .ok (.aload_n 0, 1) := by decide +kernel
theorem dL_law__1141 : decode cL_law_ 1141 = .ok (.iload 4, 2) := by decide +kernel
theorem dL_law__1143 : decode cL_law_ 1143 = .ok (.iconst 1, 1) := by decide +kernel
theorem dL_law__1144 : decode cL_law_ 1144 = .ok (.iadd, 1) := by decide +kernel
theorem dL_law__1145 : decode cL_law_ 1145 = .ok (.iaload, 1) := by decide +kernel
theorem dL_law__1146 : decode cL_law_ 1146 = .ok (.aload_n 3, 1) := by decide +kernel
theorem dL_law__1147 : decode cL_law_ 1147 = .ok (.invokestatic 189, 3) := by decide +kernel
theorem dL_law__1150 : decode cL_law_ 1150 = .ok (.istore 5, 2) := by decide +kernel
theorem dL_law__1152 : decode cL_law_ 1152 = .ok (.aload_n 2, 1) := by decide +kernel
theorem dL_law__1153 : decode cL_law_ 1153 = .ok (.aload_n 0, 1) := by decide +kernel
theorem dL_law__1154 : decode cL_law_ 1154 = .ok (.iload 4, 2) := by decide +kernel
theorem dL_law__1156 : decode cL_law_ 1156 = .ok (.iconst 1, 1) := by decide +kernel
theorem dL_law__1157 : decode cL_law_ 1157 = .ok (.iadd, 1) := by decide +kernel
theorem dL_law__1158 : decode cL_law_ 1158 = .ok (.iaload, 1) := by decide +kernel
theorem dL_law__1159 : decode cL_law_ 1159 = .ok (.invokevirtual 191, 3) := by decide +kernel
theorem dL_law__1162 : decode cL_law_ 1162 = .ok (.istore 6, 2) := by decide +kernel
theorem dL_law__1164 : decode cL_law_ 1164 = .ok (.aload_n 2, 1) := by decide +kernel
theorem dL_law__1165 : decode cL_law_ 1165 = .ok (.invokevirtual 136, 3) := by decide +kernel
theorem dL_law__1168 : decode cL_law_ 1168 = .ok (.iload 5, 2) := by decide +kernel
theorem dL_law__1170 : decode cL_law_ 1170 = .ok (.if_icmp .eq 5, 3) := by decide +kernel
theorem dL_law__1173 : decode cL_law_ 1173 = .ok (.iconst 0, 1) := by decide +kernel
theorem dL_law__1174 : decode cL_law_ 1174 = .ok (.ireturn, 1) := by decide +kernel
theorem dL_law__1175 : decode cL_law_ 1175 = .ok (.iload 5, 2) := by decide +kernel
theorem dL_law__1177 : decode cL_law_ 1177 = .ok (.ifCond .ne 15, 3) := by decide +kernel
theorem dL_law__1180 : decode cL_law_ 1180 = .ok (.aload_n 3, 1) := by decide +kernel
theorem dL_law__1181 : decode cL_law_ 1181 = .ok (.iconst 0, 1) := by decide +kernel
theorem dL_law__1182 : decode cL_law_ 1182 = .ok (.laload, 1) := by decide +kernel
theorem dL_law__1183 : decode cL_law_ 1183 = .ok (.iload 6, 2) := by decide +kernel
theorem dL_law__1185 : decode cL_law_ 1185 = .ok (.i2l, 1) := by decide +kernel
theorem dL_law__1186 : decode cL_law_ 1186 = .ok (.lcmp, 1) := by decide +kernel
theorem dL_law__1187 : decode cL_law_ 1187 = .ok (.ifCond .eq 5, 3) := by decide +kernel
theorem dL_law__1190 : decode cL_law_ 1190 = .ok (.iconst 0, 1) := by decide +kernel
theorem dL_law__1191 : decode cL_law_ 1191 = .ok (.ireturn, 1) := by decide +kernel
theorem dL_law__1192 : decode cL_law_ 1192 = .ok (.goto 1579, 3) := by decide +kernel
theorem dL_law__1195 : decode cL_law_ 1195 = .ok (.aload_n 1, 1) := by decide +kernel
theorem dL_law__1196 : decode cL_law_ 1196 = .ok (.aload_n 0, 1) := by decide +kernel
theorem dL_law__1197 : decode cL_law_ 1197 = .ok (.iload 4, 2) := by decide +kernel
theorem dL_law__1199 : decode cL_law_ 1199 = .ok (.iconst 1, 1) := by decide +kernel
theorem dL_law__1200 : decode cL_law_ 1200 = .ok (.iadd, 1) := by decide +kernel
theorem dL_law__1201 : decode cL_law_ 1201 = .ok (.iaload, 1) := by decide +kernel
theorem dL_law__1202 : decode cL_law_ 1202 = .ok (.aload_n 3, 1) := by decide +kernel
theorem dL_law__1203 : decode cL_law_ 1203 = .ok (.invokestatic 192, 3) := by decide +kernel
theorem dL_law__1206 : decode cL_law_ 1206 = .ok (.istore 5, 2) := by decide +kernel
theorem dL_law__1208 : decode cL_law_ 1208 = .ok (.aload_n 2, 1) := by decide +kernel
theorem dL_law__1209 : decode cL_law_ 1209 = .ok (.aload_n 0, 1) := by decide +kernel
theorem dL_law__1210 : decode cL_law_ 1210 = .ok (.iload 4, 2) := by decide +kernel
theorem dL_law__1212 : decode cL_law_ 1212 = .ok (.iconst 1, 1) := by decide +kernel
theorem dL_law__1213 : decode cL_law_ 1213 = .ok (.iadd, 1) := by decide +kernel
theorem dL_law__1214 : decode cL_law_ 1214 = .ok (.iaload, 1) := by decide +kernel
theorem dL_law__1215 : decode cL_law_ 1215 = .ok (.invokevirtual 194, 3) := by decide +kernel
theorem dL_law__1218 : decode cL_law_ 1218 = .ok (.istore 6, 2) := by decide +kernel
theorem dL_law__1220 : decode cL_law_ 1220 = .ok (.aload_n 2, 1) := by decide +kernel
theorem dL_law__1221 : decode cL_law_ 1221 = .ok (.invokevirtual 136, 3) := by decide +kernel
theorem dL_law__1224 : decode cL_law_ 1224 = .ok (.iload 5, 2) := by decide +kernel
theorem dL_law__1226 : decode cL_law_ 1226 = .ok (.if_icmp .eq 5, 3) := by decide +kernel
theorem dL_law__1229 : decode cL_law_ 1229 = .ok (.iconst 0, 1) := by decide +kernel
theorem dL_law__1230 : decode cL_law_ 1230 = .ok (.ireturn, 1) := by decide +kernel
theorem dL_law__1231 : decode cL_law_ 1231 = .ok (.iload 5, 2) := by decide +kernel
theorem dL_law__1233 : decode cL_law_ 1233 = .ok (.ifCond .ne 15, 3) := by decide +kernel
theorem dL_law__1236 : decode cL_law_ 1236 = .ok (.aload_n 3, 1) := by decide +kernel
theorem dL_law__1237 : decode cL_law_ 1237 = .ok (.iconst 0, 1) := by decide +kernel
theorem dL_law__1238 : decode cL_law_ 1238 = .ok (.laload, 1) := by decide +kernel
theorem dL_law__1239 : decode cL_law_ 1239 = .ok (.iload 6, 2) := by decide +kernel
theorem dL_law__1241 : decode cL_law_ 1241 = .ok (.i2l, 1) := by decide +kernel
theorem dL_law__1242 : decode cL_law_ 1242 = .ok (.lcmp, 1) := by decide +kernel
theorem dL_law__1243 : decode cL_law_ 1243 = .ok (.ifCond .eq 5, 3) := by decide +kernel
theorem dL_law__1246 : decode cL_law_ 1246 = .ok (.iconst 0, 1) := by decide +kernel
theorem dL_law__1247 : decode cL_law_ 1247 = .ok (.ireturn, 1) := by decide +kernel
theorem dL_law__1248 : decode cL_law_ 1248 = .ok (.goto 1523, 3) := by decide +kernel
theorem dL_law__1251 : decode cL_law_ 1251 = .ok (.aload_n 1, 1) := by decide +kernel
theorem dL_law__1252 : decode cL_law_ 1252 = .ok (.aload_n 0, 1) := by decide +kernel
theorem dL_law__1253 : decode cL_law_ 1253 = .ok (.iload 4, 2) := by decide +kernel
theorem dL_law__1255 : decode cL_law_ 1255 = .ok (.iconst 1, 1) := by decide +kernel
theorem dL_law__1256 : decode cL_law_ 1256 = .ok (.iadd, 1) := by decide +kernel
theorem dL_law__1257 : decode cL_law_ 1257 = .ok (.iaload, 1) := by decide +kernel
theorem dL_law__1258 : decode cL_law_ 1258 = .ok (.aload_n 3, 1) := by decide +kernel
theorem dL_law__1259 : decode cL_law_ 1259 = .ok (.invokestatic 195, 3) := by decide +kernel
theorem dL_law__1262 : decode cL_law_ 1262 = .ok (.istore 5, 2) := by decide +kernel
theorem dL_law__1264 : decode cL_law_ 1264 = .ok (.aload_n 2, 1) := by decide +kernel
theorem dL_law__1265 : decode cL_law_ 1265 = .ok (.aload_n 0, 1) := by decide +kernel
theorem dL_law__1266 : decode cL_law_ 1266 = .ok (.iload 4, 2) := by decide +kernel
theorem dL_law__1268 : decode cL_law_ 1268 = .ok (.iconst 1, 1) := by decide +kernel
theorem dL_law__1269 : decode cL_law_ 1269 = .ok (.iadd, 1) := by decide +kernel
theorem dL_law__1270 : decode cL_law_ 1270 = .ok (.iaload, 1) := by decide +kernel
theorem dL_law__1271 : decode cL_law_ 1271 = .ok (.invokevirtual 197, 3) := by decide +kernel
theorem dL_law__1274 : decode cL_law_ 1274 = .ok (.istore 6, 2) := by decide +kernel
theorem dL_law__1276 : decode cL_law_ 1276 = .ok (.aload_n 2, 1) := by decide +kernel
theorem dL_law__1277 : decode cL_law_ 1277 = .ok (.invokevirtual 136, 3) := by decide +kernel
theorem dL_law__1280 : decode cL_law_ 1280 = .ok (.iload 5, 2) := by decide +kernel
theorem dL_law__1282 : decode cL_law_ 1282 = .ok (.if_icmp .eq 5, 3) := by decide +kernel
theorem dL_law__1285 : decode cL_law_ 1285 = .ok (.iconst 0, 1) := by decide +kernel
theorem dL_law__1286 : decode cL_law_ 1286 = .ok (.ireturn, 1) := by decide +kernel
theorem dL_law__1287 : decode cL_law_ 1287 = .ok (.iload 5, 2) := by decide +kernel
theorem dL_law__1289 : decode cL_law_ 1289 = .ok (.ifCond .ne 15, 3) := by decide +kernel
theorem dL_law__1292 : decode cL_law_ 1292 = .ok (.aload_n 3, 1) := by decide +kernel
theorem dL_law__1293 : decode cL_law_ 1293 = .ok (.iconst 0, 1) := by decide +kernel
theorem dL_law__1294 : decode cL_law_ 1294 = .ok (.laload, 1) := by decide +kernel
theorem dL_law__1295 : decode cL_law_ 1295 = .ok (.iload 6, 2) := by decide +kernel
theorem dL_law__1297 : decode cL_law_ 1297 = .ok (.i2l, 1) := by decide +kernel
theorem dL_law__1298 : decode cL_law_ 1298 = .ok (.lcmp, 1) := by decide +kernel
theorem dL_law__1299 : decode cL_law_ 1299 = .ok (.ifCond .eq 5, 3) := by decide +kernel
theorem dL_law__1302 : decode cL_law_ 1302 = .ok (.iconst 0, 1) := by decide +kernel
theorem dL_law__1303 : decode cL_law_ 1303 = .ok (.ireturn, 1) := by decide +kernel
theorem dL_law__1304 : decode cL_law_ 1304 = .ok (.goto 1467, 3) := by decide +kernel
theorem dL_law__1307 : decode cL_law_ 1307 = .ok (.aload_n 1, 1) := by decide +kernel
theorem dL_law__1308 : decode cL_law_ 1308 = .ok (.aload_n 0, 1) := by decide +kernel
theorem dL_law__1309 : decode cL_law_ 1309 = .ok (.iload 4, 2) := by decide +kernel
theorem dL_law__1311 : decode cL_law_ 1311 = .ok (.iconst 1, 1) := by decide +kernel
theorem dL_law__1312 : decode cL_law_ 1312 = .ok (.iadd, 1) := by decide +kernel
theorem dL_law__1313 : decode cL_law_ 1313 = .ok (.iaload, 1) := by decide +kernel
theorem dL_law__1314 : decode cL_law_ 1314 = .ok (.aload_n 0, 1) := by decide +kernel
theorem dL_law__1315 : decode cL_law_ 1315 = .ok (.iload 4, 2) := by decide +kernel
theorem dL_law__1317 : decode cL_law_ 1317 = .ok (.iconst 2, 1) := by decide +kernel
theorem dL_law__1318 : decode cL_law_ 1318 = .ok (.iadd, 1) := by decide +kernel
theorem dL_law__1319 : decode cL_law_ 1319 = .ok (.iaload, 1) := by decide +kernel
theorem dL_law__1320 : decode cL_law_ 1320 = .ok (.aload_n 3, 1) := by decide +kernel
theorem dL_law__1321 : decode cL_law_ 1321 = .ok (.invokestatic 198, 3) := by decide +kernel
theorem dL_law__1324 : decode cL_law_ 1324 = .ok (.istore 5, 2) := by decide +kernel
theorem dL_law__1326 : decode cL_law_ 1326 = .ok (.aload_n 2, 1) := by decide +kernel
theorem dL_law__1327 : decode cL_law_ 1327 = .ok (.aload_n 0, 1) := by decide +kernel
theorem dL_law__1328 : decode cL_law_ 1328 = .ok (.iload 4, 2) := by decide +kernel
theorem dL_law__1330 : decode cL_law_ 1330 = .ok (.iconst 1, 1) := by decide +kernel
theorem dL_law__1331 : decode cL_law_ 1331 = .ok (.iadd, 1) := by decide +kernel
theorem dL_law__1332 : decode cL_law_ 1332 = .ok (.iaload, 1) := by decide +kernel
theorem dL_law__1333 : decode cL_law_ 1333 = .ok (.aload_n 0, 1) := by decide +kernel
theorem dL_law__1334 : decode cL_law_ 1334 = .ok (.iload 4, 2) := by decide +kernel
theorem dL_law__1336 : decode cL_law_ 1336 = .ok (.iconst 2, 1) := by decide +kernel
theorem dL_law__1337 : decode cL_law_ 1337 = .ok (.iadd, 1) := by decide +kernel
theorem dL_law__1338 : decode cL_law_ 1338 = .ok (.iaload, 1) := by decide +kernel
theorem dL_law__1339 : decode cL_law_ 1339 = .ok (.invokevirtual 200, 3) := by decide +kernel
theorem dL_law__1342 : decode cL_law_ 1342 = .ok (.istore 6, 2) := by decide +kernel
theorem dL_law__1344 : decode cL_law_ 1344 = .ok (.aload_n 2, 1) := by decide +kernel
theorem dL_law__1345 : decode cL_law_ 1345 = .ok (.invokevirtual 136, 3) := by decide +kernel
theorem dL_law__1348 : decode cL_law_ 1348 = .ok (.iload 5, 2) := by decide +kernel
theorem dL_law__1350 : decode cL_law_ 1350 = .ok (.if_icmp .eq 5, 3) := by decide +kernel
theorem dL_law__1353 : decode cL_law_ 1353 = .ok (.iconst 0, 1) := by decide +kernel
theorem dL_law__1354 : decode cL_law_ 1354 = .ok (.ireturn, 1) := by decide +kernel
theorem dL_law__1355 : decode cL_law_ 1355 = .ok (.iload 5, 2) := by decide +kernel
theorem dL_law__1357 : decode cL_law_ 1357 = .ok (.ifCond .ne 15, 3) := by decide +kernel
theorem dL_law__1360 : decode cL_law_ 1360 = .ok (.aload_n 3, 1) := by decide +kernel
theorem dL_law__1361 : decode cL_law_ 1361 = .ok (.iconst 0, 1) := by decide +kernel
theorem dL_law__1362 : decode cL_law_ 1362 = .ok (.laload, 1) := by decide +kernel
theorem dL_law__1363 : decode cL_law_ 1363 = .ok (.iload 6, 2) := by decide +kernel
theorem dL_law__1365 : decode cL_law_ 1365 = .ok (.i2l, 1) := by decide +kernel
theorem dL_law__1366 : decode cL_law_ 1366 = .ok (.lcmp, 1) := by decide +kernel
theorem dL_law__1367 : decode cL_law_ 1367 = .ok (.ifCond .eq 5, 3) := by decide +kernel
theorem dL_law__1370 : decode cL_law_ 1370 = .ok (.iconst 0, 1) := by decide +kernel
theorem dL_law__1371 : decode cL_law_ 1371 = .ok (.ireturn, 1) := by decide +kernel
theorem dL_law__1372 : decode cL_law_ 1372 = .ok (.goto 1399, 3) := by decide +kernel
theorem dL_law__1375 : decode cL_law_ 1375 = .ok (.aload_n 1, 1) := by decide +kernel
theorem dL_law__1376 : decode cL_law_ 1376 = .ok (.aload_n 0, 1) := by decide +kernel
theorem dL_law__1377 : decode cL_law_ 1377 = .ok (.iload 4, 2) := by decide +kernel
theorem dL_law__1379 : decode cL_law_ 1379 = .ok (.iconst 1, 1) := by decide +kernel
theorem dL_law__1380 : decode cL_law_ 1380 = .ok (.iadd, 1) := by decide +kernel
theorem dL_law__1381 : decode cL_law_ 1381 = .ok (.iaload, 1) := by decide +kernel
theorem dL_law__1382 : decode cL_law_ 1382 = .ok (.aload_n 0, 1) := by decide +kernel
theorem dL_law__1383 : decode cL_law_ 1383 = .ok (.iload 4, 2) := by decide +kernel
theorem dL_law__1385 : decode cL_law_ 1385 = .ok (.iconst 2, 1) := by decide +kernel
theorem dL_law__1386 : decode cL_law_ 1386 = .ok (.iadd, 1) := by decide +kernel
theorem dL_law__1387 : decode cL_law_ 1387 = .ok (.iaload, 1) := by decide +kernel
theorem dL_law__1388 : decode cL_law_ 1388 = .ok (.aload_n 3, 1) := by decide +kernel
theorem dL_law__1389 : decode cL_law_ 1389 = .ok (.invokestatic 201, 3) := by decide +kernel
theorem dL_law__1392 : decode cL_law_ 1392 = .ok (.istore 5, 2) := by decide +kernel
theorem dL_law__1394 : decode cL_law_ 1394 = .ok (.aload_n 2, 1) := by decide +kernel
theorem dL_law__1395 : decode cL_law_ 1395 = .ok (.aload_n 0, 1) := by decide +kernel
theorem dL_law__1396 : decode cL_law_ 1396 = .ok (.iload 4, 2) := by decide +kernel
theorem dL_law__1398 : decode cL_law_ 1398 = .ok (.iconst 1, 1) := by decide +kernel
theorem dL_law__1399 : decode cL_law_ 1399 = .ok (.iadd, 1) := by decide +kernel
theorem dL_law__1400 : decode cL_law_ 1400 = .ok (.iaload, 1) := by decide +kernel
theorem dL_law__1401 : decode cL_law_ 1401 = .ok (.aload_n 0, 1) := by decide +kernel
theorem dL_law__1402 : decode cL_law_ 1402 = .ok (.iload 4, 2) := by decide +kernel
theorem dL_law__1404 : decode cL_law_ 1404 = .ok (.iconst 2, 1) := by decide +kernel
theorem dL_law__1405 : decode cL_law_ 1405 = .ok (.iadd, 1) := by decide +kernel
theorem dL_law__1406 : decode cL_law_ 1406 = .ok (.iaload, 1) := by decide +kernel
theorem dL_law__1407 : decode cL_law_ 1407 = .ok (.invokevirtual 203, 3) := by decide +kernel
theorem dL_law__1410 : decode cL_law_ 1410 = .ok (.istore 6, 2) := by decide +kernel
theorem dL_law__1412 : decode cL_law_ 1412 = .ok (.aload_n 2, 1) := by decide +kernel
theorem dL_law__1413 : decode cL_law_ 1413 = .ok (.invokevirtual 136, 3) := by decide +kernel
theorem dL_law__1416 : decode cL_law_ 1416 = .ok (.iload 5, 2) := by decide +kernel
theorem dL_law__1418 : decode cL_law_ 1418 = .ok (.if_icmp .eq 5, 3) := by decide +kernel
theorem dL_law__1421 : decode cL_law_ 1421 = .ok (.iconst 0, 1) := by decide +kernel
theorem dL_law__1422 : decode cL_law_ 1422 = .ok (.ireturn, 1) := by decide +kernel
theorem dL_law__1423 : decode cL_law_ 1423 = .ok (.iload 5, 2) := by decide +kernel
theorem dL_law__1425 : decode cL_law_ 1425 = .ok (.ifCond .ne 15, 3) := by decide +kernel
theorem dL_law__1428 : decode cL_law_ 1428 = .ok (.aload_n 3, 1) := by decide +kernel
theorem dL_law__1429 : decode cL_law_ 1429 = .ok (.iconst 0, 1) := by decide +kernel
theorem dL_law__1430 : decode cL_law_ 1430 = .ok (.laload, 1) := by decide +kernel
theorem dL_law__1431 : decode cL_law_ 1431 = .ok (.iload 6, 2) := by decide +kernel
theorem dL_law__1433 : decode cL_law_ 1433 = .ok (.i2l, 1) := by decide +kernel
theorem dL_law__1434 : decode cL_law_ 1434 = .ok (.lcmp, 1) := by decide +kernel
theorem dL_law__1435 : decode cL_law_ 1435 = .ok (.ifCond .eq 5, 3) := by decide +kernel
theorem dL_law__1438 : decode cL_law_ 1438 = .ok (.iconst 0, 1) := by decide +kernel
theorem dL_law__1439 : decode cL_law_ 1439 = .ok (.ireturn, 1) := by decide +kernel
theorem dL_law__1440 : decode cL_law_ 1440 = .ok (.goto 1331, 3) := by decide +kernel
theorem dL_law__1443 : decode cL_law_ 1443 = .ok (.aload_n 1, 1) := by decide +kernel
theorem dL_law__1444 : decode cL_law_ 1444 = .ok (.aload_n 0, 1) := by decide +kernel
theorem dL_law__1445 : decode cL_law_ 1445 = .ok (.iload 4, 2) := by decide +kernel
theorem dL_law__1447 : decode cL_law_ 1447 = .ok (.iconst 1, 1) := by decide +kernel
theorem dL_law__1448 : decode cL_law_ 1448 = .ok (.iadd, 1) := by decide +kernel
theorem dL_law__1449 : decode cL_law_ 1449 = .ok (.iaload, 1) := by decide +kernel
theorem dL_law__1450 : decode cL_law_ 1450 = .ok (.aload_n 3, 1) := by decide +kernel
theorem dL_law__1451 : decode cL_law_ 1451 = .ok (.invokestatic 204, 3) := by decide +kernel
theorem dL_law__1454 : decode cL_law_ 1454 = .ok (.istore 5, 2) := by decide +kernel
theorem dL_law__1456 : decode cL_law_ 1456 = .ok (.aload_n 2, 1) := by decide +kernel
theorem dL_law__1457 : decode cL_law_ 1457 = .ok (.aload_n 0, 1) := by decide +kernel
theorem dL_law__1458 : decode cL_law_ 1458 = .ok (.iload 4, 2) := by decide +kernel
theorem dL_law__1460 : decode cL_law_ 1460 = .ok (.iconst 1, 1) := by decide +kernel
theorem dL_law__1461 : decode cL_law_ 1461 = .ok (.iadd, 1) := by decide +kernel
theorem dL_law__1462 : decode cL_law_ 1462 = .ok (.iaload, 1) := by decide +kernel
theorem dL_law__1463 : decode cL_law_ 1463 = .ok (.invokevirtual 206, 3) := by decide +kernel
theorem dL_law__1466 : decode cL_law_ 1466 = .ok (.istore 6, 2) := by decide +kernel
theorem dL_law__1468 : decode cL_law_ 1468 = .ok (.aload_n 2, 1) := by decide +kernel
theorem dL_law__1469 : decode cL_law_ 1469 = .ok (.invokevirtual 136, 3) := by decide +kernel
theorem dL_law__1472 : decode cL_law_ 1472 = .ok (.iload 5, 2) := by decide +kernel
theorem dL_law__1474 : decode cL_law_ 1474 = .ok (.if_icmp .eq 5, 3) := by decide +kernel
theorem dL_law__1477 : decode cL_law_ 1477 = .ok (.iconst 0, 1) := by decide +kernel
theorem dL_law__1478 : decode cL_law_ 1478 = .ok (.ireturn, 1) := by decide +kernel
theorem dL_law__1479 : decode cL_law_ 1479 = .ok (.iload 5, 2) := by decide +kernel
theorem dL_law__1481 : decode cL_law_ 1481 = .ok (.ifCond .ne 15, 3) := by decide +kernel
theorem dL_law__1484 : decode cL_law_ 1484 = .ok (.aload_n 3, 1) := by decide +kernel
theorem dL_law__1485 : decode cL_law_ 1485 = .ok (.iconst 0, 1) := by decide +kernel
theorem dL_law__1486 : decode cL_law_ 1486 = .ok (.laload, 1) := by decide +kernel
theorem dL_law__1487 : decode cL_law_ 1487 = .ok (.iload 6, 2) := by decide +kernel
theorem dL_law__1489 : decode cL_law_ 1489 = .ok (.i2l, 1) := by decide +kernel
theorem dL_law__1490 : decode cL_law_ 1490 = .ok (.lcmp, 1) := by decide +kernel
theorem dL_law__1491 : decode cL_law_ 1491 = .ok (.ifCond .eq 5, 3) := by decide +kernel
theorem dL_law__1494 : decode cL_law_ 1494 = .ok (.iconst 0, 1) := by decide +kernel
theorem dL_law__1495 : decode cL_law_ 1495 = .ok (.ireturn, 1) := by decide +kernel
theorem dL_law__1496 : decode cL_law_ 1496 = .ok (.goto 1275, 3) := by decide +kernel
theorem dL_law__1499 : decode cL_law_ 1499 = .ok (.aload_n 1, 1) := by decide +kernel
theorem dL_law__1500 : decode cL_law_ 1500 = .ok (.aload_n 0, 1) := by decide +kernel
theorem dL_law__1501 : decode cL_law_ 1501 = .ok (.iload 4, 2) := by decide +kernel
theorem dL_law__1503 : decode cL_law_ 1503 = .ok (.iconst 1, 1) := by decide +kernel
theorem dL_law__1504 : decode cL_law_ 1504 = .ok (.iadd, 1) := by decide +kernel
theorem dL_law__1505 : decode cL_law_ 1505 = .ok (.iaload, 1) := by decide +kernel
theorem dL_law__1506 : decode cL_law_ 1506 = .ok (.aload_n 3, 1) := by decide +kernel
theorem dL_law__1507 : decode cL_law_ 1507 = .ok (.invokestatic 207, 3) := by decide +kernel
theorem dL_law__1510 : decode cL_law_ 1510 = .ok (.istore 5, 2) := by decide +kernel
theorem dL_law__1512 : decode cL_law_ 1512 = .ok (.aload_n 2, 1) := by decide +kernel
theorem dL_law__1513 : decode cL_law_ 1513 = .ok (.aload_n 0, 1) := by decide +kernel
theorem dL_law__1514 : decode cL_law_ 1514 = .ok (.iload 4, 2) := by decide +kernel
theorem dL_law__1516 : decode cL_law_ 1516 = .ok (.iconst 1, 1) := by decide +kernel
theorem dL_law__1517 : decode cL_law_ 1517 = .ok (.iadd, 1) := by decide +kernel
theorem dL_law__1518 : decode cL_law_ 1518 = .ok (.iaload, 1) := by decide +kernel
theorem dL_law__1519 : decode cL_law_ 1519 = .ok (.invokevirtual 209, 3) := by decide +kernel
theorem dL_law__1522 : decode cL_law_ 1522 = .ok (.istore 6, 2) := by decide +kernel
theorem dL_law__1524 : decode cL_law_ 1524 = .ok (.aload_n 2, 1) := by decide +kernel
theorem dL_law__1525 : decode cL_law_ 1525 = .ok (.invokevirtual 136, 3) := by decide +kernel
theorem dL_law__1528 : decode cL_law_ 1528 = .ok (.iload 5, 2) := by decide +kernel
theorem dL_law__1530 : decode cL_law_ 1530 = .ok (.if_icmp .eq 5, 3) := by decide +kernel
theorem dL_law__1533 : decode cL_law_ 1533 = .ok (.iconst 0, 1) := by decide +kernel
theorem dL_law__1534 : decode cL_law_ 1534 = .ok (.ireturn, 1) := by decide +kernel
theorem dL_law__1535 : decode cL_law_ 1535 = .ok (.iload 5, 2) := by decide +kernel
theorem dL_law__1537 : decode cL_law_ 1537 = .ok (.ifCond .ne 15, 3) := by decide +kernel
theorem dL_law__1540 : decode cL_law_ 1540 = .ok (.aload_n 3, 1) := by decide +kernel
theorem dL_law__1541 : decode cL_law_ 1541 = .ok (.iconst 0, 1) := by decide +kernel
theorem dL_law__1542 : decode cL_law_ 1542 = .ok (.laload, 1) := by decide +kernel
theorem dL_law__1543 : decode cL_law_ 1543 = .ok (.iload 6, 2) := by decide +kernel
theorem dL_law__1545 : decode cL_law_ 1545 = .ok (.i2l, 1) := by decide +kernel
theorem dL_law__1546 : decode cL_law_ 1546 = .ok (.lcmp, 1) := by decide +kernel
theorem dL_law__1547 : decode cL_law_ 1547 = .ok (.ifCond .eq 5, 3) := by decide +kernel
theorem dL_law__1550 : decode cL_law_ 1550 = .ok (.iconst 0, 1) := by decide +kernel
theorem dL_law__1551 : decode cL_law_ 1551 = .ok (.ireturn, 1) := by decide +kernel
theorem dL_law__1552 : decode cL_law_ 1552 = .ok (.goto 1219, 3) := by decide +kernel
theorem dL_law__1555 : decode cL_law_ 1555 = .ok (.aload_n 1, 1) := by decide +kernel
theorem dL_law__1556 : decode cL_law_ 1556 = .ok (.aload_n 0, 1) := by decide +kernel
theorem dL_law__1557 : decode cL_law_ 1557 = .ok (.iload 4, 2) := by decide +kernel
theorem dL_law__1559 : decode cL_law_ 1559 = .ok (.iconst 1, 1) := by decide +kernel
theorem dL_law__1560 : decode cL_law_ 1560 = .ok (.iadd, 1) := by decide +kernel
theorem dL_law__1561 : decode cL_law_ 1561 = .ok (.iaload, 1) := by decide +kernel
theorem dL_law__1562 : decode cL_law_ 1562 = .ok (.aload_n 3, 1) := by decide +kernel
theorem dL_law__1563 : decode cL_law_ 1563 = .ok (.invokestatic 210, 3) := by decide +kernel
theorem dL_law__1566 : decode cL_law_ 1566 = .ok (.istore 5, 2) := by decide +kernel
theorem dL_law__1568 : decode cL_law_ 1568 = .ok (.aload_n 2, 1) := by decide +kernel
theorem dL_law__1569 : decode cL_law_ 1569 = .ok (.aload_n 0, 1) := by decide +kernel
theorem dL_law__1570 : decode cL_law_ 1570 = .ok (.iload 4, 2) := by decide +kernel
theorem dL_law__1572 : decode cL_law_ 1572 = .ok (.iconst 1, 1) := by decide +kernel
theorem dL_law__1573 : decode cL_law_ 1573 = .ok (.iadd, 1) := by decide +kernel
theorem dL_law__1574 : decode cL_law_ 1574 = .ok (.iaload, 1) := by decide +kernel
theorem dL_law__1575 : decode cL_law_ 1575 = .ok (.invokevirtual 212, 3) := by decide +kernel
theorem dL_law__1578 : decode cL_law_ 1578 = .ok (.istore 6, 2) := by decide +kernel
theorem dL_law__1580 : decode cL_law_ 1580 = .ok (.aload_n 2, 1) := by decide +kernel
theorem dL_law__1581 : decode cL_law_ 1581 = .ok (.invokevirtual 136, 3) := by decide +kernel
theorem dL_law__1584 : decode cL_law_ 1584 = .ok (.iload 5, 2) := by decide +kernel
theorem dL_law__1586 : decode cL_law_ 1586 = .ok (.if_icmp .eq 5, 3) := by decide +kernel
theorem dL_law__1589 : decode cL_law_ 1589 = .ok (.iconst 0, 1) := by decide +kernel
theorem dL_law__1590 : decode cL_law_ 1590 = .ok (.ireturn, 1) := by decide +kernel
theorem dL_law__1591 : decode cL_law_ 1591 = .ok (.iload 5, 2) := by decide +kernel
theorem dL_law__1593 : decode cL_law_ 1593 = .ok (.ifCond .ne 15, 3) := by decide +kernel
theorem dL_law__1596 : decode cL_law_ 1596 = .ok (.aload_n 3, 1) := by decide +kernel
theorem dL_law__1597 : decode cL_law_ 1597 = .ok (.iconst 0, 1) := by decide +kernel
theorem dL_law__1598 : decode cL_law_ 1598 = .ok (.laload, 1) := by decide +kernel
theorem dL_law__1599 : decode cL_law_ 1599 = .ok (.iload 6, 2) := by decide +kernel
theorem dL_law__1601 : decode cL_law_ 1601 = .ok (.i2l, 1) := by decide +kernel
theorem dL_law__1602 : decode cL_law_ 1602 = .ok (.lcmp, 1) := by decide +kernel
theorem dL_law__1603 : decode cL_law_ 1603 = .ok (.ifCond .eq 5, 3) := by decide +kernel
theorem dL_law__1606 : decode cL_law_ 1606 = .ok (.iconst 0, 1) := by decide +kernel
theorem dL_law__1607 : decode cL_law_ 1607 = .ok (.ireturn, 1) := by decide +kernel
theorem dL_law__1608 : decode cL_law_ 1608 = .ok (.goto 1163, 3) := by decide +kernel
theorem dL_law__1611 : decode cL_law_ 1611 = .ok (.aload_n 1, 1) := by decide +kernel
theorem dL_law__1612 : decode cL_law_ 1612 = .ok (.invokevirtual 213, 3) := by decide +kernel
theorem dL_law__1615 : decode cL_law_ 1615 = .ok (.aload_n 2, 1) := by decide +kernel
theorem dL_law__1616 : decode cL_law_ 1616 = .ok (.invokevirtual 216, 3) := by decide +kernel
theorem dL_law__1619 : decode cL_law_ 1619 = .ok (.if_icmp .eq 1152, 3) := by decide +kernel
theorem dL_law__1622 : decode cL_law_ 1622 = .ok (.iconst 0, 1) := by decide +kernel
theorem dL_law__1623 : decode cL_law_ 1623 = .ok (.ireturn, 1) := by decide +kernel
theorem dL_law__1624 : decode cL_law_ 1624 = .ok (.aload_n 1, 1) := by decide +kernel
theorem dL_law__1625 : decode cL_law_ 1625 = .ok (.aload_n 0, 1) := by decide +kernel
theorem dL_law__1626 : decode cL_law_ 1626 = .ok (.iload 4, 2) := by decide +kernel
theorem dL_law__1628 : decode cL_law_ 1628 = .ok (.iconst 1, 1) := by decide +kernel
theorem dL_law__1629 : decode cL_law_ 1629 = .ok (.iadd, 1) := by decide +kernel
theorem dL_law__1630 : decode cL_law_ 1630 = .ok (.iaload, 1) := by decide +kernel
theorem dL_law__1631 : decode cL_law_ 1631 = .ok (.aload_n 3, 1) := by decide +kernel
theorem dL_law__1632 : decode cL_law_ 1632 = .ok (.invokestatic 217, 3) := by decide +kernel
theorem dL_law__1635 : decode cL_law_ 1635 = .ok (.istore 5, 2) := by decide +kernel
theorem dL_law__1637 : decode cL_law_ 1637 = .ok (.aload_n 2, 1) := by decide +kernel
theorem dL_law__1638 : decode cL_law_ 1638 = .ok (.aload_n 0, 1) := by decide +kernel
theorem dL_law__1639 : decode cL_law_ 1639 = .ok (.iload 4, 2) := by decide +kernel
theorem dL_law__1641 : decode cL_law_ 1641 = .ok (.iconst 1, 1) := by decide +kernel
theorem dL_law__1642 : decode cL_law_ 1642 = .ok (.iadd, 1) := by decide +kernel
theorem dL_law__1643 : decode cL_law_ 1643 = .ok (.iaload, 1) := by decide +kernel
theorem dL_law__1644 : decode cL_law_ 1644 = .ok (.invokevirtual 219, 3) := by decide +kernel
theorem dL_law__1647 : decode cL_law_ 1647 = .ok (.istore 6, 2) := by decide +kernel
theorem dL_law__1649 : decode cL_law_ 1649 = .ok (.aload_n 2, 1) := by decide +kernel
theorem dL_law__1650 : decode cL_law_ 1650 = .ok (.invokevirtual 136, 3) := by decide +kernel
theorem dL_law__1653 : decode cL_law_ 1653 = .ok (.iload 5, 2) := by decide +kernel
theorem dL_law__1655 : decode cL_law_ 1655 = .ok (.if_icmp .eq 5, 3) := by decide +kernel
theorem dL_law__1658 : decode cL_law_ 1658 = .ok (.iconst 0, 1) := by decide +kernel
theorem dL_law__1659 : decode cL_law_ 1659 = .ok (.ireturn, 1) := by decide +kernel
theorem dL_law__1660 : decode cL_law_ 1660 = .ok (.iload 5, 2) := by decide +kernel
theorem dL_law__1662 : decode cL_law_ 1662 = .ok (.ifCond .ne 15, 3) := by decide +kernel
theorem dL_law__1665 : decode cL_law_ 1665 = .ok (.aload_n 3, 1) := by decide +kernel
theorem dL_law__1666 : decode cL_law_ 1666 = .ok (.iconst 0, 1) := by decide +kernel
theorem dL_law__1667 : decode cL_law_ 1667 = .ok (.laload, 1) := by decide +kernel
theorem dL_law__1668 : decode cL_law_ 1668 = .ok (.iload 6, 2) := by decide +kernel
theorem dL_law__1670 : decode cL_law_ 1670 = .ok (.i2l, 1) := by decide +kernel
theorem dL_law__1671 : decode cL_law_ 1671 = .ok (.lcmp, 1) := by decide +kernel
theorem dL_law__1672 : decode cL_law_ 1672 = .ok (.ifCond .eq 5, 3) := by decide +kernel
theorem dL_law__1675 : decode cL_law_ 1675 = .ok (.iconst 0, 1) := by decide +kernel
theorem dL_law__1676 : decode cL_law_ 1676 = .ok (.ireturn, 1) := by decide +kernel
theorem dL_law__1677 : decode cL_law_ 1677 = .ok (.goto 1094, 3) := by decide +kernel
theorem dL_law__1680 : decode cL_law_ 1680 = .ok (.aload_n 1, 1) := by decide +kernel
theorem dL_law__1681 : decode cL_law_ 1681 = .ok (.aload_n 0, 1) := by decide +kernel
theorem dL_law__1682 : decode cL_law_ 1682 = .ok (.iload 4, 2) := by decide +kernel
theorem dL_law__1684 : decode cL_law_ 1684 = .ok (.iconst 1, 1) := by decide +kernel
theorem dL_law__1685 : decode cL_law_ 1685 = .ok (.iadd, 1) := by decide +kernel
theorem dL_law__1686 : decode cL_law_ 1686 = .ok (.iaload, 1) := by decide +kernel
theorem dL_law__1687 : decode cL_law_ 1687 = .ok (.aload_n 0, 1) := by decide +kernel
theorem dL_law__1688 : decode cL_law_ 1688 = .ok (.iload 4, 2) := by decide +kernel
theorem dL_law__1690 : decode cL_law_ 1690 = .ok (.iconst 2, 1) := by decide +kernel
theorem dL_law__1691 : decode cL_law_ 1691 = .ok (.iadd, 1) := by decide +kernel
theorem dL_law__1692 : decode cL_law_ 1692 = .ok (.iaload, 1) := by decide +kernel
theorem dL_law__1693 : decode cL_law_ 1693 = .ok (.aload_n 0, 1) := by decide +kernel
theorem dL_law__1694 : decode cL_law_ 1694 = .ok (.iload 4, 2) := by decide +kernel
theorem dL_law__1696 : decode cL_law_ 1696 = .ok (.iconst 3, 1) := by decide +kernel
theorem dL_law__1697 : decode cL_law_ 1697 = .ok (.iadd, 1) := by decide +kernel
theorem dL_law__1698 : decode cL_law_ 1698 = .ok (.iaload, 1) := by decide +kernel
theorem dL_law__1699 : decode cL_law_ 1699 = .ok (.aload_n 0, 1) := by decide +kernel
theorem dL_law__1700 : decode cL_law_ 1700 = .ok (.iload 4, 2) := by decide +kernel
theorem dL_law__1702 : decode cL_law_ 1702 = .ok (.iconst 4, 1) := by decide +kernel
theorem dL_law__1703 : decode cL_law_ 1703 = .ok (.iadd, 1) := by decide +kernel
theorem dL_law__1704 : decode cL_law_ 1704 = .ok (.iaload, 1) := by decide +kernel
theorem dL_law__1705 : decode cL_law_ 1705 = .ok (.aload_n 3, 1) := by decide +kernel
theorem dL_law__1706 : decode cL_law_ 1706 = .ok (.invokestatic 220, 3) := by decide +kernel
theorem dL_law__1709 : decode cL_law_ 1709 = .ok (.istore 5, 2) := by decide +kernel
theorem dL_law__1711 : decode cL_law_ 1711 = .ok (.aload_n 2, 1) := by decide +kernel
theorem dL_law__1712 : decode cL_law_ 1712 = .ok (.aload_n 0, 1) := by decide +kernel
theorem dL_law__1713 : decode cL_law_ 1713 = .ok (.iload 4, 2) := by decide +kernel
theorem dL_law__1715 : decode cL_law_ 1715 = .ok (.iconst 1, 1) := by decide +kernel
theorem dL_law__1716 : decode cL_law_ 1716 = .ok (.iadd, 1) := by decide +kernel
theorem dL_law__1717 : decode cL_law_ 1717 = .ok (.iaload, 1) := by decide +kernel
theorem dL_law__1718 : decode cL_law_ 1718 = .ok (.aload_n 0, 1) := by decide +kernel
theorem dL_law__1719 : decode cL_law_ 1719 = .ok (.iload 4, 2) := by decide +kernel
theorem dL_law__1721 : decode cL_law_ 1721 = .ok (.iconst 2, 1) := by decide +kernel
theorem dL_law__1722 : decode cL_law_ 1722 = .ok (.iadd, 1) := by decide +kernel
theorem dL_law__1723 : decode cL_law_ 1723 = .ok (.iaload, 1) := by decide +kernel
theorem dL_law__1724 : decode cL_law_ 1724 = .ok (.aload_n 0, 1) := by decide +kernel
theorem dL_law__1725 : decode cL_law_ 1725 = .ok (.iload 4, 2) := by decide +kernel
theorem dL_law__1727 : decode cL_law_ 1727 = .ok (.iconst 3, 1) := by decide +kernel
theorem dL_law__1728 : decode cL_law_ 1728 = .ok (.iadd, 1) := by decide +kernel
theorem dL_law__1729 : decode cL_law_ 1729 = .ok (.iaload, 1) := by decide +kernel
theorem dL_law__1730 : decode cL_law_ 1730 = .ok (.aload_n 0, 1) := by decide +kernel
theorem dL_law__1731 : decode cL_law_ 1731 = .ok (.iload 4, 2) := by decide +kernel
theorem dL_law__1733 : decode cL_law_ 1733 = .ok (.iconst 4, 1) := by decide +kernel
theorem dL_law__1734 : decode cL_law_ 1734 = .ok (.iadd, 1) := by decide +kernel
theorem dL_law__1735 : decode cL_law_ 1735 = .ok (.iaload, 1) := by decide +kernel
theorem dL_law__1736 : decode cL_law_ 1736 = .ok (.invokevirtual 223, 3) := by decide +kernel
theorem dL_law__1739 : decode cL_law_ 1739 = .ok (.istore 6, 2) := by decide +kernel
theorem dL_law__1741 : decode cL_law_ 1741 = .ok (.aload_n 2, 1) := by decide +kernel
theorem dL_law__1742 : decode cL_law_ 1742 = .ok (.invokevirtual 136, 3) := by decide +kernel
theorem dL_law__1745 : decode cL_law_ 1745 = .ok (.iload 5, 2) := by decide +kernel
theorem dL_law__1747 : decode cL_law_ 1747 = .ok (.if_icmp .eq 5, 3) := by decide +kernel
theorem dL_law__1750 : decode cL_law_ 1750 = .ok (.iconst 0, 1) := by decide +kernel
theorem dL_law__1751 : decode cL_law_ 1751 = .ok (.ireturn, 1) := by decide +kernel
theorem dL_law__1752 : decode cL_law_ 1752 = .ok (.iload 5, 2) := by decide +kernel
theorem dL_law__1754 : decode cL_law_ 1754 = .ok (.ifCond .ne 15, 3) := by decide +kernel
theorem dL_law__1757 : decode cL_law_ 1757 = .ok (.aload_n 3, 1) := by decide +kernel
theorem dL_law__1758 : decode cL_law_ 1758 = .ok (.iconst 0, 1) := by decide +kernel
theorem dL_law__1759 : decode cL_law_ 1759 = .ok (.laload, 1) := by decide +kernel
theorem dL_law__1760 : decode cL_law_ 1760 = .ok (.iload 6, 2) := by decide +kernel
theorem dL_law__1762 : decode cL_law_ 1762 = .ok (.i2l, 1) := by decide +kernel
theorem dL_law__1763 : decode cL_law_ 1763 = .ok (.lcmp, 1) := by decide +kernel
theorem dL_law__1764 : decode cL_law_ 1764 = .ok (.ifCond .eq 5, 3) := by decide +kernel
theorem dL_law__1767 : decode cL_law_ 1767 = .ok (.iconst 0, 1) := by decide +kernel
theorem dL_law__1768 : decode cL_law_ 1768 = .ok (.ireturn, 1) := by decide +kernel
theorem dL_law__1769 : decode cL_law_ 1769 = .ok (.goto 1002, 3) := by decide +kernel
theorem dL_law__1772 : decode cL_law_ 1772 = .ok (.aload_n 1, 1) := by decide +kernel
theorem dL_law__1773 : decode cL_law_ 1773 = .ok (.aload_n 0, 1) := by decide +kernel
theorem dL_law__1774 : decode cL_law_ 1774 = .ok (.iload 4, 2) := by decide +kernel
theorem dL_law__1776 : decode cL_law_ 1776 = .ok (.iconst 1, 1) := by decide +kernel
theorem dL_law__1777 : decode cL_law_ 1777 = .ok (.iadd, 1) := by decide +kernel
theorem dL_law__1778 : decode cL_law_ 1778 = .ok (.iaload, 1) := by decide +kernel
theorem dL_law__1779 : decode cL_law_ 1779 = .ok (.aload_n 0, 1) := by decide +kernel
theorem dL_law__1780 : decode cL_law_ 1780 = .ok (.iload 4, 2) := by decide +kernel
theorem dL_law__1782 : decode cL_law_ 1782 = .ok (.iconst 2, 1) := by decide +kernel
theorem dL_law__1783 : decode cL_law_ 1783 = .ok (.iadd, 1) := by decide +kernel
theorem dL_law__1784 : decode cL_law_ 1784 = .ok (.iaload, 1) := by decide +kernel
theorem dL_law__1785 : decode cL_law_ 1785 = .ok (.aload_n 0, 1) := by decide +kernel
theorem dL_law__1786 : decode cL_law_ 1786 = .ok (.iload 4, 2) := by decide +kernel
theorem dL_law__1788 : decode cL_law_ 1788 = .ok (.iconst 3, 1) := by decide +kernel
theorem dL_law__1789 : decode cL_law_ 1789 = .ok (.iadd, 1) := by decide +kernel
theorem dL_law__1790 : decode cL_law_ 1790 = .ok (.iaload, 1) := by decide +kernel
theorem dL_law__1791 : decode cL_law_ 1791 = .ok (.aload_n 3, 1) := by decide +kernel
theorem dL_law__1792 : decode cL_law_ 1792 = .ok (.invokestatic 224, 3) := by decide +kernel
theorem dL_law__1795 : decode cL_law_ 1795 = .ok (.istore 5, 2) := by decide +kernel
theorem dL_law__1797 : decode cL_law_ 1797 = .ok (.aload_n 2, 1) := by decide +kernel
theorem dL_law__1798 : decode cL_law_ 1798 = .ok (.aload_n 0, 1) := by decide +kernel
theorem dL_law__1799 : decode cL_law_ 1799 = .ok (.iload 4, 2) := by decide +kernel
theorem dL_law__1801 : decode cL_law_ 1801 = .ok (.iconst 1, 1) := by decide +kernel
theorem dL_law__1802 : decode cL_law_ 1802 = .ok (.iadd, 1) := by decide +kernel
theorem dL_law__1803 : decode cL_law_ 1803 = .ok (.iaload, 1) := by decide +kernel
theorem dL_law__1804 : decode cL_law_ 1804 = .ok (.aload_n 0, 1) := by decide +kernel
theorem dL_law__1805 : decode cL_law_ 1805 = .ok (.iload 4, 2) := by decide +kernel
theorem dL_law__1807 : decode cL_law_ 1807 = .ok (.iconst 2, 1) := by decide +kernel
theorem dL_law__1808 : decode cL_law_ 1808 = .ok (.iadd, 1) := by decide +kernel
theorem dL_law__1809 : decode cL_law_ 1809 = .ok (.iaload, 1) := by decide +kernel
theorem dL_law__1810 : decode cL_law_ 1810 = .ok (.aload_n 0, 1) := by decide +kernel
theorem dL_law__1811 : decode cL_law_ 1811 = .ok (.iload 4, 2) := by decide +kernel
theorem dL_law__1813 : decode cL_law_ 1813 = .ok (.iconst 3, 1) := by decide +kernel
theorem dL_law__1814 : decode cL_law_ 1814 = .ok (.iadd, 1) := by decide +kernel
theorem dL_law__1815 : decode cL_law_ 1815 = .ok (.iaload, 1) := by decide +kernel
theorem dL_law__1816 : decode cL_law_ 1816 = .ok (.invokevirtual 226, 3) := by decide +kernel
theorem dL_law__1819 : decode cL_law_ 1819 = .ok (.istore 6, 2) := by decide +kernel
theorem dL_law__1821 : decode cL_law_ 1821 = .ok (.aload_n 2, 1) := by decide +kernel
theorem dL_law__1822 : decode cL_law_ 1822 = .ok (.invokevirtual 136, 3) := by decide +kernel
theorem dL_law__1825 : decode cL_law_ 1825 = .ok (.iload 5, 2) := by decide +kernel
theorem dL_law__1827 : decode cL_law_ 1827 = .ok (.if_icmp .eq 5, 3) := by decide +kernel
theorem dL_law__1830 : decode cL_law_ 1830 = .ok (.iconst 0, 1) := by decide +kernel
theorem dL_law__1831 : decode cL_law_ 1831 = .ok (.ireturn, 1) := by decide +kernel
theorem dL_law__1832 : decode cL_law_ 1832 = .ok (.iload 5, 2) := by decide +kernel
theorem dL_law__1834 : decode cL_law_ 1834 = .ok (.ifCond .ne 15, 3) := by decide +kernel
theorem dL_law__1837 : decode cL_law_ 1837 = .ok (.aload_n 3, 1) := by decide +kernel
theorem dL_law__1838 : decode cL_law_ 1838 = .ok (.iconst 0, 1) := by decide +kernel
theorem dL_law__1839 : decode cL_law_ 1839 = .ok (.laload, 1) := by decide +kernel
theorem dL_law__1840 : decode cL_law_ 1840 = .ok (.iload 6, 2) := by decide +kernel
theorem dL_law__1842 : decode cL_law_ 1842 = .ok (.i2l, 1) := by decide +kernel
theorem dL_law__1843 : decode cL_law_ 1843 = .ok (.lcmp, 1) := by decide +kernel
theorem dL_law__1844 : decode cL_law_ 1844 = .ok (.ifCond .eq 5, 3) := by decide +kernel
theorem dL_law__1847 : decode cL_law_ 1847 = .ok (.iconst 0, 1) := by decide +kernel
theorem dL_law__1848 : decode cL_law_ 1848 = .ok (.ireturn, 1) := by decide +kernel
theorem dL_law__1849 : decode cL_law_ 1849 = .ok (.goto 922, 3) := by decide +kernel
theorem dL_law__1852 : decode cL_law_ 1852 = .ok (.aload_n 1, 1) := by decide +kernel
theorem dL_law__1853 : decode cL_law_ 1853 = .ok (.aload_n 0, 1) := by decide +kernel
theorem dL_law__1854 : decode cL_law_ 1854 = .ok (.iload 4, 2) := by decide +kernel
theorem dL_law__1856 : decode cL_law_ 1856 = .ok (.iconst 1, 1) := by decide +kernel
theorem dL_law__1857 : decode cL_law_ 1857 = .ok (.iadd, 1) := by decide +kernel
theorem dL_law__1858 : decode cL_law_ 1858 = .ok (.iaload, 1) := by decide +kernel
theorem dL_law__1859 : decode cL_law_ 1859 = .ok (.aload_n 3, 1) := by decide +kernel
theorem dL_law__1860 : decode cL_law_ 1860 = .ok (.invokestatic 227, 3) := by decide +kernel
theorem dL_law__1863 : decode cL_law_ 1863 = .ok (.istore 5, 2) := by decide +kernel
theorem dL_law__1865 : decode cL_law_ 1865 = .ok (.aload_n 2, 1) := by decide +kernel
theorem dL_law__1866 : decode cL_law_ 1866 = .ok (.aload_n 0, 1) := by decide +kernel
theorem dL_law__1867 : decode cL_law_ 1867 = .ok (.iload 4, 2) := by decide +kernel
theorem dL_law__1869 : decode cL_law_ 1869 = .ok (.iconst 1, 1) := by decide +kernel
theorem dL_law__1870 : decode cL_law_ 1870 = .ok (.iadd, 1) := by decide +kernel
theorem dL_law__1871 : decode cL_law_ 1871 = .ok (.iaload, 1) := by decide +kernel
theorem dL_law__1872 : decode cL_law_ 1872 = .ok (.invokevirtual 229, 3) := by decide +kernel
theorem dL_law__1875 : decode cL_law_ 1875 = .ok (.istore 6, 2) := by decide +kernel
theorem dL_law__1877 : decode cL_law_ 1877 = .ok (.aload_n 2, 1) := by decide +kernel
theorem dL_law__1878 : decode cL_law_ 1878 = .ok (.invokevirtual 136, 3) := by decide +kernel
theorem dL_law__1881 : decode cL_law_ 1881 = .ok (.iload 5, 2) := by decide +kernel
theorem dL_law__1883 : decode cL_law_ 1883 = .ok (.if_icmp .eq 5, 3) := by decide +kernel
theorem dL_law__1886 : decode cL_law_ 1886 = .ok (.iconst 0, 1) := by decide +kernel
theorem dL_law__1887 : decode cL_law_ 1887 = .ok (.ireturn, 1) := by decide +kernel
theorem dL_law__1888 : decode cL_law_ 1888 = .ok (.iload 5, 2) := by decide +kernel
theorem dL_law__1890 : decode cL_law_ 1890 = .ok (.ifCond .ne 15, 3) := by decide +kernel
theorem dL_law__1893 : decode cL_law_ 1893 = .ok (.aload_n 3, 1) := by decide +kernel
theorem dL_law__1894 : decode cL_law_ 1894 = .ok (.iconst 0, 1) := by decide +kernel
theorem dL_law__1895 : decode cL_law_ 1895 = .ok (.laload, 1) := by decide +kernel
theorem dL_law__1896 : decode cL_law_ 1896 = .ok (.iload 6, 2) := by decide +kernel
theorem dL_law__1898 : decode cL_law_ 1898 = .ok (.i2l, 1) := by decide +kernel
theorem dL_law__1899 : decode cL_law_ 1899 = .ok (.lcmp, 1) := by decide +kernel
theorem dL_law__1900 : decode cL_law_ 1900 = .ok (.ifCond .eq 5, 3) := by decide +kernel
theorem dL_law__1903 : decode cL_law_ 1903 = .ok (.iconst 0, 1) := by decide +kernel
theorem dL_law__1904 : decode cL_law_ 1904 = .ok (.ireturn, 1) := by decide +kernel
theorem dL_law__1905 : decode cL_law_ 1905 = .ok (.goto 866, 3) := by decide +kernel
theorem dL_law__1908 : decode cL_law_ 1908 = .ok (.aload_n 1, 1) := by decide +kernel
theorem dL_law__1909 : decode cL_law_ 1909 = .ok (.invokevirtual 230, 3) := by decide +kernel
theorem dL_law__1912 : decode cL_law_ 1912 = .ok (.aload_n 2, 1) := by decide +kernel
theorem dL_law__1913 : decode cL_law_ 1913 = .ok (.invokevirtual 233, 3) := by decide +kernel
theorem dL_law__1916 : decode cL_law_ 1916 = .ok (.if_icmp .eq 855, 3) := by decide +kernel
theorem dL_law__1919 : decode cL_law_ 1919 = .ok (.iconst 0, 1) := by decide +kernel
theorem dL_law__1920 : decode cL_law_ 1920 = .ok (.ireturn, 1) := by decide +kernel
theorem dL_law__1921 : decode cL_law_ 1921 = .ok (.aload_n 1, 1) := by decide +kernel
theorem dL_law__1922 : decode cL_law_ 1922 = .ok (.aload_n 0, 1) := by decide +kernel
theorem dL_law__1923 : decode cL_law_ 1923 = .ok (.iload 4, 2) := by decide +kernel
theorem dL_law__1925 : decode cL_law_ 1925 = .ok (.iconst 1, 1) := by decide +kernel
theorem dL_law__1926 : decode cL_law_ 1926 = .ok (.iadd, 1) := by decide +kernel
theorem dL_law__1927 : decode cL_law_ 1927 = .ok (.iaload, 1) := by decide +kernel
theorem dL_law__1928 : decode cL_law_ 1928 = .ok (.aload_n 3, 1) := by decide +kernel
theorem dL_law__1929 : decode cL_law_ 1929 = .ok (.invokestatic 234, 3) := by decide +kernel
theorem dL_law__1932 : decode cL_law_ 1932 = .ok (.istore 5, 2) := by decide +kernel
theorem dL_law__1934 : decode cL_law_ 1934 = .ok (.aload_n 2, 1) := by decide +kernel
theorem dL_law__1935 : decode cL_law_ 1935 = .ok (.aload_n 0, 1) := by decide +kernel
theorem dL_law__1936 : decode cL_law_ 1936 = .ok (.iload 4, 2) := by decide +kernel
theorem dL_law__1938 : decode cL_law_ 1938 = .ok (.iconst 1, 1) := by decide +kernel
theorem dL_law__1939 : decode cL_law_ 1939 = .ok (.iadd, 1) := by decide +kernel
theorem dL_law__1940 : decode cL_law_ 1940 = .ok (.iaload, 1) := by decide +kernel
theorem dL_law__1941 : decode cL_law_ 1941 = .ok (.invokevirtual 236, 3) := by decide +kernel
theorem dL_law__1944 : decode cL_law_ 1944 = .ok (.istore 6, 2) := by decide +kernel
theorem dL_law__1946 : decode cL_law_ 1946 = .ok (.aload_n 2, 1) := by decide +kernel
theorem dL_law__1947 : decode cL_law_ 1947 = .ok (.invokevirtual 136, 3) := by decide +kernel
theorem dL_law__1950 : decode cL_law_ 1950 = .ok (.iload 5, 2) := by decide +kernel
theorem dL_law__1952 : decode cL_law_ 1952 = .ok (.if_icmp .eq 5, 3) := by decide +kernel
theorem dL_law__1955 : decode cL_law_ 1955 = .ok (.iconst 0, 1) := by decide +kernel
theorem dL_law__1956 : decode cL_law_ 1956 = .ok (.ireturn, 1) := by decide +kernel
theorem dL_law__1957 : decode cL_law_ 1957 = .ok (.iload 5, 2) := by decide +kernel
theorem dL_law__1959 : decode cL_law_ 1959 = .ok (.ifCond .ne 15, 3) := by decide +kernel
theorem dL_law__1962 : decode cL_law_ 1962 = .ok (.aload_n 3, 1) := by decide +kernel
theorem dL_law__1963 : decode cL_law_ 1963 = .ok (.iconst 0, 1) := by decide +kernel
theorem dL_law__1964 : decode cL_law_ 1964 = .ok (.laload, 1) := by decide +kernel
theorem dL_law__1965 : decode cL_law_ 1965 = .ok (.iload 6, 2) := by decide +kernel
theorem dL_law__1967 : decode cL_law_ 1967 = .ok (.i2l, 1) := by decide +kernel
theorem dL_law__1968 : decode cL_law_ 1968 = .ok (.lcmp, 1) := by decide +kernel
theorem dL_law__1969 : decode cL_law_ 1969 = .ok (.ifCond .eq 5, 3) := by decide +kernel
theorem dL_law__1972 : decode cL_law_ 1972 = .ok (.iconst 0, 1) := by decide +kernel
theorem dL_law__1973 : decode cL_law_ 1973 = .ok (.ireturn, 1) := by decide +kernel
theorem dL_law__1974 : decode cL_law_ 1974 = .ok (.goto 797, 3) := by decide +kernel
theorem dL_law__1977 : decode cL_law_ 1977 = .ok (.aload_n 1, 1) := by decide +kernel
theorem dL_law__1978 : decode cL_law_ 1978 = .ok (.aload_n 0, 1) := by decide +kernel
theorem dL_law__1979 : decode cL_law_ 1979 = .ok (.iload 4, 2) := by decide +kernel
theorem dL_law__1981 : decode cL_law_ 1981 = .ok (.iconst 1, 1) := by decide +kernel
theorem dL_law__1982 : decode cL_law_ 1982 = .ok (.iadd, 1) := by decide +kernel
theorem dL_law__1983 : decode cL_law_ 1983 = .ok (.iaload, 1) := by decide +kernel
theorem dL_law__1984 : decode cL_law_ 1984 = .ok (.aload_n 3, 1) := by decide +kernel
theorem dL_law__1985 : decode cL_law_ 1985 = .ok (.invokestatic 237, 3) := by decide +kernel
theorem dL_law__1988 : decode cL_law_ 1988 = .ok (.istore 5, 2) := by decide +kernel
theorem dL_law__1990 : decode cL_law_ 1990 = .ok (.aload_n 2, 1) := by decide +kernel
theorem dL_law__1991 : decode cL_law_ 1991 = .ok (.aload_n 0, 1) := by decide +kernel
theorem dL_law__1992 : decode cL_law_ 1992 = .ok (.iload 4, 2) := by decide +kernel
theorem dL_law__1994 : decode cL_law_ 1994 = .ok (.iconst 1, 1) := by decide +kernel
theorem dL_law__1995 : decode cL_law_ 1995 = .ok (.iadd, 1) := by decide +kernel
theorem dL_law__1996 : decode cL_law_ 1996 = .ok (.iaload, 1) := by decide +kernel
theorem dL_law__1997 : decode cL_law_ 1997 = .ok (.invokevirtual 239, 3) := by decide +kernel
theorem dL_law__2000 : decode cL_law_ 2000 = .ok (.istore 6, 2) := by decide +kernel
theorem dL_law__2002 : decode cL_law_ 2002 = .ok (.aload_n 2, 1) := by decide +kernel
theorem dL_law__2003 : decode cL_law_ 2003 = .ok (.invokevirtual 136, 3) := by decide +kernel
theorem dL_law__2006 : decode cL_law_ 2006 = .ok (.iload 5, 2) := by decide +kernel
theorem dL_law__2008 : decode cL_law_ 2008 = .ok (.if_icmp .eq 5, 3) := by decide +kernel
theorem dL_law__2011 : decode cL_law_ 2011 = .ok (.iconst 0, 1) := by decide +kernel
theorem dL_law__2012 : decode cL_law_ 2012 = .ok (.ireturn, 1) := by decide +kernel
theorem dL_law__2013 : decode cL_law_ 2013 = .ok (.iload 5, 2) := by decide +kernel
theorem dL_law__2015 : decode cL_law_ 2015 = .ok (.ifCond .ne 15, 3) := by decide +kernel
theorem dL_law__2018 : decode cL_law_ 2018 = .ok (.aload_n 3, 1) := by decide +kernel
theorem dL_law__2019 : decode cL_law_ 2019 = .ok (.iconst 0, 1) := by decide +kernel
theorem dL_law__2020 : decode cL_law_ 2020 = .ok (.laload, 1) := by decide +kernel
theorem dL_law__2021 : decode cL_law_ 2021 = .ok (.iload 6, 2) := by decide +kernel
theorem dL_law__2023 : decode cL_law_ 2023 = .ok (.i2l, 1) := by decide +kernel
theorem dL_law__2024 : decode cL_law_ 2024 = .ok (.lcmp, 1) := by decide +kernel
theorem dL_law__2025 : decode cL_law_ 2025 = .ok (.ifCond .eq 5, 3) := by decide +kernel
theorem dL_law__2028 : decode cL_law_ 2028 = .ok (.iconst 0, 1) := by decide +kernel
theorem dL_law__2029 : decode cL_law_ 2029 = .ok (.ireturn, 1) := by decide +kernel
theorem dL_law__2030 : decode cL_law_ 2030 = .ok (.goto 741, 3) := by decide +kernel
theorem dL_law__2033 : decode cL_law_ 2033 = .ok (.aload_n 1, 1) := by decide +kernel
theorem dL_law__2034 : decode cL_law_ 2034 = .ok (.aload_n 0, 1) := by decide +kernel
theorem dL_law__2035 : decode cL_law_ 2035 = .ok (.iload 4, 2) := by decide +kernel
theorem dL_law__2037 : decode cL_law_ 2037 = .ok (.iconst 1, 1) := by decide +kernel
theorem dL_law__2038 : decode cL_law_ 2038 = .ok (.iadd, 1) := by decide +kernel
theorem dL_law__2039 : decode cL_law_ 2039 = .ok (.iaload, 1) := by decide +kernel
theorem dL_law__2040 : decode cL_law_ 2040 = .ok (.aload_n 0, 1) := by decide +kernel
theorem dL_law__2041 : decode cL_law_ 2041 = .ok (.iload 4, 2) := by decide +kernel
theorem dL_law__2043 : decode cL_law_ 2043 = .ok (.iconst 2, 1) := by decide +kernel
theorem dL_law__2044 : decode cL_law_ 2044 = .ok (.iadd, 1) := by decide +kernel
theorem dL_law__2045 : decode cL_law_ 2045 = .ok (.iaload, 1) := by decide +kernel
theorem dL_law__2046 : decode cL_law_ 2046 = .ok (.aload_n 3, 1) := by decide +kernel
theorem dL_law__2047 : decode cL_law_ 2047 = .ok (.invokestatic 240, 3) := by decide +kernel
theorem dL_law__2050 : decode cL_law_ 2050 = .ok (.istore 5, 2) := by decide +kernel
theorem dL_law__2052 : decode cL_law_ 2052 = .ok (.aload_n 2, 1) := by decide +kernel
theorem dL_law__2053 : decode cL_law_ 2053 = .ok (.aload_n 0, 1) := by decide +kernel
theorem dL_law__2054 : decode cL_law_ 2054 = .ok (.iload 4, 2) := by decide +kernel
theorem dL_law__2056 : decode cL_law_ 2056 = .ok (.iconst 1, 1) := by decide +kernel
theorem dL_law__2057 : decode cL_law_ 2057 = .ok (.iadd, 1) := by decide +kernel
theorem dL_law__2058 : decode cL_law_ 2058 = .ok (.iaload, 1) := by decide +kernel
theorem dL_law__2059 : decode cL_law_ 2059 = .ok (.aload_n 0, 1) := by decide +kernel
theorem dL_law__2060 : decode cL_law_ 2060 = .ok (.iload 4, 2) := by decide +kernel
theorem dL_law__2062 : decode cL_law_ 2062 = .ok (.iconst 2, 1) := by decide +kernel
theorem dL_law__2063 : decode cL_law_ 2063 = .ok (.iadd, 1) := by decide +kernel
theorem dL_law__2064 : decode cL_law_ 2064 = .ok (.iaload, 1) := by decide +kernel
theorem dL_law__2065 : decode cL_law_ 2065 = .ok (.invokevirtual 242, 3) := by decide +kernel
theorem dL_law__2068 : decode cL_law_ 2068 = .ok (.istore 6, 2) := by decide +kernel
theorem dL_law__2070 : decode cL_law_ 2070 = .ok (.aload_n 2, 1) := by decide +kernel
theorem dL_law__2071 : decode cL_law_ 2071 = .ok (.invokevirtual 136, 3) := by decide +kernel
theorem dL_law__2074 : decode cL_law_ 2074 = .ok (.iload 5, 2) := by decide +kernel
theorem dL_law__2076 : decode cL_law_ 2076 = .ok (.if_icmp .eq 5, 3) := by decide +kernel
theorem dL_law__2079 : decode cL_law_ 2079 = .ok (.iconst 0, 1) := by decide +kernel
theorem dL_law__2080 : decode cL_law_ 2080 = .ok (.ireturn, 1) := by decide +kernel
theorem dL_law__2081 : decode cL_law_ 2081 = .ok (.iload 5, 2) := by decide +kernel
theorem dL_law__2083 : decode cL_law_ 2083 = .ok (.ifCond .ne 15, 3) := by decide +kernel
theorem dL_law__2086 : decode cL_law_ 2086 = .ok (.aload_n 3, 1) := by decide +kernel
theorem dL_law__2087 : decode cL_law_ 2087 = .ok (.iconst 0, 1) := by decide +kernel
theorem dL_law__2088 : decode cL_law_ 2088 = .ok (.laload, 1) := by decide +kernel
theorem dL_law__2089 : decode cL_law_ 2089 = .ok (.iload 6, 2) := by decide +kernel
theorem dL_law__2091 : decode cL_law_ 2091 = .ok (.i2l, 1) := by decide +kernel
theorem dL_law__2092 : decode cL_law_ 2092 = .ok (.lcmp, 1) := by decide +kernel
theorem dL_law__2093 : decode cL_law_ 2093 = .ok (.ifCond .eq 5, 3) := by decide +kernel
theorem dL_law__2096 : decode cL_law_ 2096 = .ok (.iconst 0, 1) := by decide +kernel
theorem dL_law__2097 : decode cL_law_ 2097 = .ok (.ireturn, 1) := by decide +kernel
theorem dL_law__2098 : decode cL_law_ 2098 = .ok (.goto 673, 3) := by decide +kernel
theorem dL_law__2101 : decode cL_law_ 2101 = .ok (.aload_n 1, 1) := by decide +kernel
theorem dL_law__2102 : decode cL_law_ 2102 = .ok (.aload_n 0, 1) := by decide +kernel
theorem dL_law__2103 : decode cL_law_ 2103 = .ok (.iload 4, 2) := by decide +kernel
theorem dL_law__2105 : decode cL_law_ 2105 = .ok (.iconst 1, 1) := by decide +kernel
theorem dL_law__2106 : decode cL_law_ 2106 = .ok (.iadd, 1) := by decide +kernel
theorem dL_law__2107 : decode cL_law_ 2107 = .ok (.iaload, 1) := by decide +kernel
theorem dL_law__2108 : decode cL_law_ 2108 = .ok (.aload_n 0, 1) := by decide +kernel
theorem dL_law__2109 : decode cL_law_ 2109 = .ok (.iload 4, 2) := by decide +kernel
theorem dL_law__2111 : decode cL_law_ 2111 = .ok (.iconst 2, 1) := by decide +kernel
theorem dL_law__2112 : decode cL_law_ 2112 = .ok (.iadd, 1) := by decide +kernel
theorem dL_law__2113 : decode cL_law_ 2113 = .ok (.iaload, 1) := by decide +kernel
theorem dL_law__2114 : decode cL_law_ 2114 = .ok (.aload_n 3, 1) := by decide +kernel
theorem dL_law__2115 : decode cL_law_ 2115 = .ok (.invokestatic 243, 3) := by decide +kernel
theorem dL_law__2118 : decode cL_law_ 2118 = .ok (.istore 5, 2) := by decide +kernel
theorem dL_law__2120 : decode cL_law_ 2120 = .ok (.aload_n 2, 1) := by decide +kernel
theorem dL_law__2121 : decode cL_law_ 2121 = .ok (.aload_n 0, 1) := by decide +kernel
theorem dL_law__2122 : decode cL_law_ 2122 = .ok (.iload 4, 2) := by decide +kernel
theorem dL_law__2124 : decode cL_law_ 2124 = .ok (.iconst 1, 1) := by decide +kernel
theorem dL_law__2125 : decode cL_law_ 2125 = .ok (.iadd, 1) := by decide +kernel
theorem dL_law__2126 : decode cL_law_ 2126 = .ok (.iaload, 1) := by decide +kernel
theorem dL_law__2127 : decode cL_law_ 2127 = .ok (.aload_n 0, 1) := by decide +kernel
theorem dL_law__2128 : decode cL_law_ 2128 = .ok (.iload 4, 2) := by decide +kernel
theorem dL_law__2130 : decode cL_law_ 2130 = .ok (.iconst 2, 1) := by decide +kernel
theorem dL_law__2131 : decode cL_law_ 2131 = .ok (.iadd, 1) := by decide +kernel
theorem dL_law__2132 : decode cL_law_ 2132 = .ok (.iaload, 1) := by decide +kernel
theorem dL_law__2133 : decode cL_law_ 2133 = .ok (.invokevirtual 245, 3) := by decide +kernel
theorem dL_law__2136 : decode cL_law_ 2136 = .ok (.istore 6, 2) := by decide +kernel
theorem dL_law__2138 : decode cL_law_ 2138 = .ok (.aload_n 2, 1) := by decide +kernel
theorem dL_law__2139 : decode cL_law_ 2139 = .ok (.invokevirtual 136, 3) := by decide +kernel
theorem dL_law__2142 : decode cL_law_ 2142 = .ok (.iload 5, 2) := by decide +kernel
theorem dL_law__2144 : decode cL_law_ 2144 = .ok (.if_icmp .eq 5, 3) := by decide +kernel
theorem dL_law__2147 : decode cL_law_ 2147 = .ok (.iconst 0, 1) := by decide +kernel
theorem dL_law__2148 : decode cL_law_ 2148 = .ok (.ireturn, 1) := by decide +kernel
theorem dL_law__2149 : decode cL_law_ 2149 = .ok (.iload 5, 2) := by decide +kernel
theorem dL_law__2151 : decode cL_law_ 2151 = .ok (.ifCond .ne 15, 3) := by decide +kernel
theorem dL_law__2154 : decode cL_law_ 2154 = .ok (.aload_n 3, 1) := by decide +kernel
theorem dL_law__2155 : decode cL_law_ 2155 = .ok (.iconst 0, 1) := by decide +kernel
theorem dL_law__2156 : decode cL_law_ 2156 = .ok (.laload, 1) := by decide +kernel
theorem dL_law__2157 : decode cL_law_ 2157 = .ok (.iload 6, 2) := by decide +kernel
theorem dL_law__2159 : decode cL_law_ 2159 = .ok (.i2l, 1) := by decide +kernel
theorem dL_law__2160 : decode cL_law_ 2160 = .ok (.lcmp, 1) := by decide +kernel
theorem dL_law__2161 : decode cL_law_ 2161 = .ok (.ifCond .eq 5, 3) := by decide +kernel
theorem dL_law__2164 : decode cL_law_ 2164 = .ok (.iconst 0, 1) := by decide +kernel
theorem dL_law__2165 : decode cL_law_ 2165 = .ok (.ireturn, 1) := by decide +kernel
theorem dL_law__2166 : decode cL_law_ 2166 = .ok (.goto 605, 3) := by decide +kernel
theorem dL_law__2169 : decode cL_law_ 2169 = .ok (.aload_n 1, 1) := by decide +kernel
theorem dL_law__2170 : decode cL_law_ 2170 = .ok (.aload_n 0, 1) := by decide +kernel
theorem dL_law__2171 : decode cL_law_ 2171 = .ok (.iload 4, 2) := by decide +kernel
theorem dL_law__2173 : decode cL_law_ 2173 = .ok (.iconst 1, 1) := by decide +kernel
theorem dL_law__2174 : decode cL_law_ 2174 = .ok (.iadd, 1) := by decide +kernel
theorem dL_law__2175 : decode cL_law_ 2175 = .ok (.iaload, 1) := by decide +kernel
theorem dL_law__2176 : decode cL_law_ 2176 = .ok (.aload_n 0, 1) := by decide +kernel
theorem dL_law__2177 : decode cL_law_ 2177 = .ok (.iload 4, 2) := by decide +kernel
theorem dL_law__2179 : decode cL_law_ 2179 = .ok (.iconst 2, 1) := by decide +kernel
theorem dL_law__2180 : decode cL_law_ 2180 = .ok (.iadd, 1) := by decide +kernel
theorem dL_law__2181 : decode cL_law_ 2181 = .ok (.iaload, 1) := by decide +kernel
theorem dL_law__2182 : decode cL_law_ 2182 = .ok (.aload_n 3, 1) := by decide +kernel
theorem dL_law__2183 : decode cL_law_ 2183 = .ok (.invokestatic 246, 3) := by decide +kernel
theorem dL_law__2186 : decode cL_law_ 2186 = .ok (.istore 5, 2) := by decide +kernel
theorem dL_law__2188 : decode cL_law_ 2188 = .ok (.aload_n 2, 1) := by decide +kernel
theorem dL_law__2189 : decode cL_law_ 2189 = .ok (.aload_n 0, 1) := by decide +kernel
theorem dL_law__2190 : decode cL_law_ 2190 = .ok (.iload 4, 2) := by decide +kernel
theorem dL_law__2192 : decode cL_law_ 2192 = .ok (.iconst 1, 1) := by decide +kernel
theorem dL_law__2193 : decode cL_law_ 2193 = .ok (.iadd, 1) := by decide +kernel
theorem dL_law__2194 : decode cL_law_ 2194 = .ok (.iaload, 1) := by decide +kernel
theorem dL_law__2195 : decode cL_law_ 2195 = .ok (.aload_n 0, 1) := by decide +kernel
theorem dL_law__2196 : decode cL_law_ 2196 = .ok (.iload 4, 2) := by decide +kernel
theorem dL_law__2198 : decode cL_law_ 2198 = .ok (.iconst 2, 1) := by decide +kernel
theorem dL_law__2199 : decode cL_law_ 2199 = .ok (.iadd, 1) := by decide +kernel
theorem dL_law__2200 : decode cL_law_ 2200 = .ok (.iaload, 1) := by decide +kernel
theorem dL_law__2201 : decode cL_law_ 2201 = .ok (.invokevirtual 248, 3) := by decide +kernel
theorem dL_law__2204 : decode cL_law_ 2204 = .ok (.istore 6, 2) := by decide +kernel
theorem dL_law__2206 : decode cL_law_ 2206 = .ok (.aload_n 2, 1) := by decide +kernel
theorem dL_law__2207 : decode cL_law_ 2207 = .ok (.invokevirtual 136, 3) := by decide +kernel
theorem dL_law__2210 : decode cL_law_ 2210 = .ok (.iload 5, 2) := by decide +kernel
theorem dL_law__2212 : decode cL_law_ 2212 = .ok (.if_icmp .eq 5, 3) := by decide +kernel
theorem dL_law__2215 : decode cL_law_ 2215 = .ok (.iconst 0, 1) := by decide +kernel
theorem dL_law__2216 : decode cL_law_ 2216 = .ok (.ireturn, 1) := by decide +kernel
theorem dL_law__2217 : decode cL_law_ 2217 = .ok (.iload 5, 2) := by decide +kernel
theorem dL_law__2219 : decode cL_law_ 2219 = .ok (.ifCond .ne 15, 3) := by decide +kernel
theorem dL_law__2222 : decode cL_law_ 2222 = .ok (.aload_n 3, 1) := by decide +kernel
theorem dL_law__2223 : decode cL_law_ 2223 = .ok (.iconst 0, 1) := by decide +kernel
theorem dL_law__2224 : decode cL_law_ 2224 = .ok (.laload, 1) := by decide +kernel
theorem dL_law__2225 : decode cL_law_ 2225 = .ok (.iload 6, 2) := by decide +kernel
theorem dL_law__2227 : decode cL_law_ 2227 = .ok (.i2l, 1) := by decide +kernel
theorem dL_law__2228 : decode cL_law_ 2228 = .ok (.lcmp, 1) := by decide +kernel
theorem dL_law__2229 : decode cL_law_ 2229 = .ok (.ifCond .eq 5, 3) := by decide +kernel
theorem dL_law__2232 : decode cL_law_ 2232 = .ok (.iconst 0, 1) := by decide +kernel
theorem dL_law__2233 : decode cL_law_ 2233 = .ok (.ireturn, 1) := by decide +kernel
theorem dL_law__2234 : decode cL_law_ 2234 = .ok (.goto 537, 3) := by decide +kernel
theorem dL_law__2237 : decode cL_law_ 2237 = .ok (.aload_n 1, 1) := by decide +kernel
theorem dL_law__2238 : decode cL_law_ 2238 = .ok (.aload_n 0, 1) := by decide +kernel
theorem dL_law__2239 : decode cL_law_ 2239 = .ok (.iload 4, 2) := by decide +kernel
theorem dL_law__2241 : decode cL_law_ 2241 = .ok (.iconst 1, 1) := by decide +kernel
theorem dL_law__2242 : decode cL_law_ 2242 = .ok (.iadd, 1) := by decide +kernel
theorem dL_law__2243 : decode cL_law_ 2243 = .ok (.iaload, 1) := by decide +kernel
theorem dL_law__2244 : decode cL_law_ 2244 = .ok (.aload_n 3, 1) := by decide +kernel
theorem dL_law__2245 : decode cL_law_ 2245 = .ok (.invokestatic 249, 3) := by decide +kernel
theorem dL_law__2248 : decode cL_law_ 2248 = .ok (.istore 5, 2) := by decide +kernel
theorem dL_law__2250 : decode cL_law_ 2250 = .ok (.aload_n 2, 1) := by decide +kernel
theorem dL_law__2251 : decode cL_law_ 2251 = .ok (.aload_n 0, 1) := by decide +kernel
theorem dL_law__2252 : decode cL_law_ 2252 = .ok (.iload 4, 2) := by decide +kernel
theorem dL_law__2254 : decode cL_law_ 2254 = .ok (.iconst 1, 1) := by decide +kernel
theorem dL_law__2255 : decode cL_law_ 2255 = .ok (.iadd, 1) := by decide +kernel
theorem dL_law__2256 : decode cL_law_ 2256 = .ok (.iaload, 1) := by decide +kernel
theorem dL_law__2257 : decode cL_law_ 2257 = .ok (.invokevirtual 251, 3) := by decide +kernel
theorem dL_law__2260 : decode cL_law_ 2260 = .ok (.istore 6, 2) := by decide +kernel
theorem dL_law__2262 : decode cL_law_ 2262 = .ok (.aload_n 2, 1) := by decide +kernel
theorem dL_law__2263 : decode cL_law_ 2263 = .ok (.invokevirtual 136, 3) := by decide +kernel
theorem dL_law__2266 : decode cL_law_ 2266 = .ok (.iload 5, 2) := by decide +kernel
theorem dL_law__2268 : decode cL_law_ 2268 = .ok (.if_icmp .eq 5, 3) := by decide +kernel
theorem dL_law__2271 : decode cL_law_ 2271 = .ok (.iconst 0, 1) := by decide +kernel
theorem dL_law__2272 : decode cL_law_ 2272 = .ok (.ireturn, 1) := by decide +kernel
theorem dL_law__2273 : decode cL_law_ 2273 = .ok (.iload 5, 2) := by decide +kernel
theorem dL_law__2275 : decode cL_law_ 2275 = .ok (.ifCond .ne 15, 3) := by decide +kernel
theorem dL_law__2278 : decode cL_law_ 2278 = .ok (.aload_n 3, 1) := by decide +kernel
theorem dL_law__2279 : decode cL_law_ 2279 = .ok (.iconst 0, 1) := by decide +kernel
theorem dL_law__2280 : decode cL_law_ 2280 = .ok (.laload, 1) := by decide +kernel
theorem dL_law__2281 : decode cL_law_ 2281 = .ok (.iload 6, 2) := by decide +kernel
theorem dL_law__2283 : decode cL_law_ 2283 = .ok (.i2l, 1) := by decide +kernel
theorem dL_law__2284 : decode cL_law_ 2284 = .ok (.lcmp, 1) := by decide +kernel
theorem dL_law__2285 : decode cL_law_ 2285 = .ok (.ifCond .eq 5, 3) := by decide +kernel
theorem dL_law__2288 : decode cL_law_ 2288 = .ok (.iconst 0, 1) := by decide +kernel
theorem dL_law__2289 : decode cL_law_ 2289 = .ok (.ireturn, 1) := by decide +kernel
theorem dL_law__2290 : decode cL_law_ 2290 = .ok (.goto 481, 3) := by decide +kernel
theorem dL_law__2293 : decode cL_law_ 2293 = .ok (.aload_n 1, 1) := by decide +kernel
theorem dL_law__2294 : decode cL_law_ 2294 = .ok (.aload_n 0, 1) := by decide +kernel
theorem dL_law__2295 : decode cL_law_ 2295 = .ok (.iload 4, 2) := by decide +kernel
theorem dL_law__2297 : decode cL_law_ 2297 = .ok (.iconst 1, 1) := by decide +kernel
theorem dL_law__2298 : decode cL_law_ 2298 = .ok (.iadd, 1) := by decide +kernel
theorem dL_law__2299 : decode cL_law_ 2299 = .ok (.iaload, 1) := by decide +kernel
theorem dL_law__2300 : decode cL_law_ 2300 = .ok (.aload_n 0, 1) := by decide +kernel
theorem dL_law__2301 : decode cL_law_ 2301 = .ok (.iload 4, 2) := by decide +kernel
theorem dL_law__2303 : decode cL_law_ 2303 = .ok (.iconst 2, 1) := by decide +kernel
theorem dL_law__2304 : decode cL_law_ 2304 = .ok (.iadd, 1) := by decide +kernel
theorem dL_law__2305 : decode cL_law_ 2305 = .ok (.iaload, 1) := by decide +kernel
theorem dL_law__2306 : decode cL_law_ 2306 = .ok (.aload_n 3, 1) := by decide +kernel
theorem dL_law__2307 : decode cL_law_ 2307 = .ok (.invokestatic 252, 3) := by decide +kernel
theorem dL_law__2310 : decode cL_law_ 2310 = .ok (.istore 5, 2) := by decide +kernel
theorem dL_law__2312 : decode cL_law_ 2312 = .ok (.aload_n 2, 1) := by decide +kernel
theorem dL_law__2313 : decode cL_law_ 2313 = .ok (.aload_n 0, 1) := by decide +kernel
theorem dL_law__2314 : decode cL_law_ 2314 = .ok (.iload 4, 2) := by decide +kernel
theorem dL_law__2316 : decode cL_law_ 2316 = .ok (.iconst 1, 1) := by decide +kernel
theorem dL_law__2317 : decode cL_law_ 2317 = .ok (.iadd, 1) := by decide +kernel
theorem dL_law__2318 : decode cL_law_ 2318 = .ok (.iaload, 1) := by decide +kernel
theorem dL_law__2319 : decode cL_law_ 2319 = .ok (.aload_n 0, 1) := by decide +kernel
theorem dL_law__2320 : decode cL_law_ 2320 = .ok (.iload 4, 2) := by decide +kernel
theorem dL_law__2322 : decode cL_law_ 2322 = .ok (.iconst 2, 1) := by decide +kernel
theorem dL_law__2323 : decode cL_law_ 2323 = .ok (.iadd, 1) := by decide +kernel
theorem dL_law__2324 : decode cL_law_ 2324 = .ok (.iaload, 1) := by decide +kernel
theorem dL_law__2325 : decode cL_law_ 2325 = .ok (.invokevirtual 254, 3) := by decide +kernel
theorem dL_law__2328 : decode cL_law_ 2328 = .ok (.istore 6, 2) := by decide +kernel
theorem dL_law__2330 : decode cL_law_ 2330 = .ok (.aload_n 2, 1) := by decide +kernel
theorem dL_law__2331 : decode cL_law_ 2331 = .ok (.invokevirtual 136, 3) := by decide +kernel
theorem dL_law__2334 : decode cL_law_ 2334 = .ok (.iload 5, 2) := by decide +kernel
theorem dL_law__2336 : decode cL_law_ 2336 = .ok (.if_icmp .eq 5, 3) := by decide +kernel
theorem dL_law__2339 : decode cL_law_ 2339 = .ok (.iconst 0, 1) := by decide +kernel
theorem dL_law__2340 : decode cL_law_ 2340 = .ok (.ireturn, 1) := by decide +kernel
theorem dL_law__2341 : decode cL_law_ 2341 = .ok (.iload 5, 2) := by decide +kernel
theorem dL_law__2343 : decode cL_law_ 2343 = .ok (.ifCond .ne 15, 3) := by decide +kernel
theorem dL_law__2346 : decode cL_law_ 2346 = .ok (.aload_n 3, 1) := by decide +kernel
theorem dL_law__2347 : decode cL_law_ 2347 = .ok (.iconst 0, 1) := by decide +kernel
theorem dL_law__2348 : decode cL_law_ 2348 = .ok (.laload, 1) := by decide +kernel
theorem dL_law__2349 : decode cL_law_ 2349 = .ok (.iload 6, 2) := by decide +kernel
theorem dL_law__2351 : decode cL_law_ 2351 = .ok (.i2l, 1) := by decide +kernel
theorem dL_law__2352 : decode cL_law_ 2352 = .ok (.lcmp, 1) := by decide +kernel
theorem dL_law__2353 : decode cL_law_ 2353 = .ok (.ifCond .eq 5, 3) := by decide +kernel
theorem dL_law__2356 : decode cL_law_ 2356 = .ok (.iconst 0, 1) := by decide +kernel
theorem dL_law__2357 : decode cL_law_ 2357 = .ok (.ireturn, 1) := by decide +kernel
theorem dL_law__2358 : decode cL_law_ 2358 = .ok (.goto 413, 3) := by decide +kernel
theorem dL_law__2361 : decode cL_law_ 2361 = .ok (.aload_n 1, 1) := by decide +kernel
theorem dL_law__2362 : decode cL_law_ 2362 = .ok (.aload_n 0, 1) := by decide +kernel
theorem dL_law__2363 : decode cL_law_ 2363 = .ok (.iload 4, 2) := by decide +kernel
theorem dL_law__2365 : decode cL_law_ 2365 = .ok (.iconst 1, 1) := by decide +kernel
theorem dL_law__2366 : decode cL_law_ 2366 = .ok (.iadd, 1) := by decide +kernel
theorem dL_law__2367 : decode cL_law_ 2367 = .ok (.iaload, 1) := by decide +kernel
theorem dL_law__2368 : decode cL_law_ 2368 = .ok (.aload_n 3, 1) := by decide +kernel
theorem dL_law__2369 : decode cL_law_ 2369 = .ok (.invokestatic 255, 3) := by decide +kernel
theorem dL_law__2372 : decode cL_law_ 2372 = .ok (.istore 5, 2) := by decide +kernel
theorem dL_law__2374 : decode cL_law_ 2374 = .ok (.aload_n 2, 1) := by decide +kernel
theorem dL_law__2375 : decode cL_law_ 2375 = .ok (.aload_n 0, 1) := by decide +kernel
theorem dL_law__2376 : decode cL_law_ 2376 = .ok (.iload 4, 2) := by decide +kernel
theorem dL_law__2378 : decode cL_law_ 2378 = .ok (.iconst 1, 1) := by decide +kernel
theorem dL_law__2379 : decode cL_law_ 2379 = .ok (.iadd, 1) := by decide +kernel
theorem dL_law__2380 : decode cL_law_ 2380 = .ok (.iaload, 1) := by decide +kernel
theorem dL_law__2381 : decode cL_law_ 2381 = .ok (.invokevirtual 257, 3) := by decide +kernel
theorem dL_law__2384 : decode cL_law_ 2384 = .ok (.istore 6, 2) := by decide +kernel
theorem dL_law__2386 : decode cL_law_ 2386 = .ok (.aload_n 2, 1) := by decide +kernel
theorem dL_law__2387 : decode cL_law_ 2387 = .ok (.invokevirtual 136, 3) := by decide +kernel
theorem dL_law__2390 : decode cL_law_ 2390 = .ok (.iload 5, 2) := by decide +kernel
theorem dL_law__2392 : decode cL_law_ 2392 = .ok (.if_icmp .eq 5, 3) := by decide +kernel
theorem dL_law__2395 : decode cL_law_ 2395 = .ok (.iconst 0, 1) := by decide +kernel
theorem dL_law__2396 : decode cL_law_ 2396 = .ok (.ireturn, 1) := by decide +kernel
theorem dL_law__2397 : decode cL_law_ 2397 = .ok (.iload 5, 2) := by decide +kernel
theorem dL_law__2399 : decode cL_law_ 2399 = .ok (.ifCond .ne 15, 3) := by decide +kernel
theorem dL_law__2402 : decode cL_law_ 2402 = .ok (.aload_n 3, 1) := by decide +kernel
theorem dL_law__2403 : decode cL_law_ 2403 = .ok (.iconst 0, 1) := by decide +kernel
theorem dL_law__2404 : decode cL_law_ 2404 = .ok (.laload, 1) := by decide +kernel
theorem dL_law__2405 : decode cL_law_ 2405 = .ok (.iload 6, 2) := by decide +kernel
theorem dL_law__2407 : decode cL_law_ 2407 = .ok (.i2l, 1) := by decide +kernel
theorem dL_law__2408 : decode cL_law_ 2408 = .ok (.lcmp, 1) := by decide +kernel
theorem dL_law__2409 : decode cL_law_ 2409 = .ok (.ifCond .eq 5, 3) := by decide +kernel
theorem dL_law__2412 : decode cL_law_ 2412 = .ok (.iconst 0, 1) := by decide +kernel
theorem dL_law__2413 : decode cL_law_ 2413 = .ok (.ireturn, 1) := by decide +kernel
theorem dL_law__2414 : decode cL_law_ 2414 = .ok (.goto 357, 3) := by decide +kernel
theorem dL_law__2417 : decode cL_law_ 2417 = .ok (.aload_n 1, 1) := by decide +kernel
theorem dL_law__2418 : decode cL_law_ 2418 = .ok (.aload_n 0, 1) := by decide +kernel
theorem dL_law__2419 : decode cL_law_ 2419 = .ok (.iload 4, 2) := by decide +kernel
theorem dL_law__2421 : decode cL_law_ 2421 = .ok (.iconst 1, 1) := by decide +kernel
theorem dL_law__2422 : decode cL_law_ 2422 = .ok (.iadd, 1) := by decide +kernel
theorem dL_law__2423 : decode cL_law_ 2423 = .ok (.iaload, 1) := by decide +kernel
theorem dL_law__2424 : decode cL_law_ 2424 = .ok (.aload_n 0, 1) := by decide +kernel
theorem dL_law__2425 : decode cL_law_ 2425 = .ok (.iload 4, 2) := by decide +kernel
theorem dL_law__2427 : decode cL_law_ 2427 = .ok (.iconst 2, 1) := by decide +kernel
theorem dL_law__2428 : decode cL_law_ 2428 = .ok (.iadd, 1) := by decide +kernel
theorem dL_law__2429 : decode cL_law_ 2429 = .ok (.iaload, 1) := by decide +kernel
theorem dL_law__2430 : decode cL_law_ 2430 = .ok (.aload_n 3, 1) := by decide +kernel
theorem dL_law__2431 : decode cL_law_ 2431 = .ok (.invokestatic 258, 3) := by decide +kernel
theorem dL_law__2434 : decode cL_law_ 2434 = .ok (.istore 5, 2) := by decide +kernel
theorem dL_law__2436 : decode cL_law_ 2436 = .ok (.aload_n 2, 1) := by decide +kernel
theorem dL_law__2437 : decode cL_law_ 2437 = .ok (.aload_n 0, 1) := by decide +kernel
theorem dL_law__2438 : decode cL_law_ 2438 = .ok (.iload 4, 2) := by decide +kernel
theorem dL_law__2440 : decode cL_law_ 2440 = .ok (.iconst 1, 1) := by decide +kernel
theorem dL_law__2441 : decode cL_law_ 2441 = .ok (.iadd, 1) := by decide +kernel
theorem dL_law__2442 : decode cL_law_ 2442 = .ok (.iaload, 1) := by decide +kernel
theorem dL_law__2443 : decode cL_law_ 2443 = .ok (.aload_n 0, 1) := by decide +kernel
theorem dL_law__2444 : decode cL_law_ 2444 = .ok (.iload 4, 2) := by decide +kernel
theorem dL_law__2446 : decode cL_law_ 2446 = .ok (.iconst 2, 1) := by decide +kernel
theorem dL_law__2447 : decode cL_law_ 2447 = .ok (.iadd, 1) := by decide +kernel
theorem dL_law__2448 : decode cL_law_ 2448 = .ok (.iaload, 1) := by decide +kernel
theorem dL_law__2449 : decode cL_law_ 2449 = .ok (.invokevirtual 260, 3) := by decide +kernel
theorem dL_law__2452 : decode cL_law_ 2452 = .ok (.istore 6, 2) := by decide +kernel
theorem dL_law__2454 : decode cL_law_ 2454 = .ok (.aload_n 2, 1) := by decide +kernel
theorem dL_law__2455 : decode cL_law_ 2455 = .ok (.invokevirtual 136, 3) := by decide +kernel
theorem dL_law__2458 : decode cL_law_ 2458 = .ok (.iload 5, 2) := by decide +kernel
theorem dL_law__2460 : decode cL_law_ 2460 = .ok (.if_icmp .eq 5, 3) := by decide +kernel
theorem dL_law__2463 : decode cL_law_ 2463 = .ok (.iconst 0, 1) := by decide +kernel
theorem dL_law__2464 : decode cL_law_ 2464 = .ok (.ireturn, 1) := by decide +kernel
theorem dL_law__2465 : decode cL_law_ 2465 = .ok (.iload 5, 2) := by decide +kernel
theorem dL_law__2467 : decode cL_law_ 2467 = .ok (.ifCond .ne 15, 3) := by decide +kernel
theorem dL_law__2470 : decode cL_law_ 2470 = .ok (.aload_n 3, 1) := by decide +kernel
theorem dL_law__2471 : decode cL_law_ 2471 = .ok (.iconst 0, 1) := by decide +kernel
theorem dL_law__2472 : decode cL_law_ 2472 = .ok (.laload, 1) := by decide +kernel
theorem dL_law__2473 : decode cL_law_ 2473 = .ok (.iload 6, 2) := by decide +kernel
theorem dL_law__2475 : decode cL_law_ 2475 = .ok (.i2l, 1) := by decide +kernel
theorem dL_law__2476 : decode cL_law_ 2476 = .ok (.lcmp, 1) := by decide +kernel
theorem dL_law__2477 : decode cL_law_ 2477 = .ok (.ifCond .eq 5, 3) := by decide +kernel
theorem dL_law__2480 : decode cL_law_ 2480 = .ok (.iconst 0, 1) := by decide +kernel
theorem dL_law__2481 : decode cL_law_ 2481 = .ok (.ireturn, 1) := by decide +kernel
theorem dL_law__2482 : decode cL_law_ 2482 = .ok (.goto 289, 3) := by decide +kernel
theorem dL_law__2485 : decode cL_law_ 2485 = .ok (.aload_n 1, 1) := by decide +kernel
theorem dL_law__2486 : decode cL_law_ 2486 = .ok (.aload_n 0, 1) := by decide +kernel
theorem dL_law__2487 : decode cL_law_ 2487 = .ok (.iload 4, 2) := by decide +kernel
theorem dL_law__2489 : decode cL_law_ 2489 = .ok (.iconst 1, 1) := by decide +kernel
theorem dL_law__2490 : decode cL_law_ 2490 = .ok (.iadd, 1) := by decide +kernel
theorem dL_law__2491 : decode cL_law_ 2491 = .ok (.iaload, 1) := by decide +kernel
theorem dL_law__2492 : decode cL_law_ 2492 = .ok (.aload_n 0, 1) := by decide +kernel
theorem dL_law__2493 : decode cL_law_ 2493 = .ok (.iload 4, 2) := by decide +kernel
theorem dL_law__2495 : decode cL_law_ 2495 = .ok (.iconst 2, 1) := by decide +kernel
theorem dL_law__2496 : decode cL_law_ 2496 = .ok (.iadd, 1) := by decide +kernel
theorem dL_law__2497 : decode cL_law_ 2497 = .ok (.iaload, 1) := by decide +kernel
theorem dL_law__2498 : decode cL_law_ 2498 = .ok (.aload_n 0, 1) := by decide +kernel
theorem dL_law__2499 : decode cL_law_ 2499 = .ok (.iload 4, 2) := by decide +kernel
theorem dL_law__2501 : decode cL_law_ 2501 = .ok (.iconst 3, 1) := by decide +kernel
theorem dL_law__2502 : decode cL_law_ 2502 = .ok (.iadd, 1) := by decide +kernel
theorem dL_law__2503 : decode cL_law_ 2503 = .ok (.iaload, 1) := by decide +kernel
theorem dL_law__2504 : decode cL_law_ 2504 = .ok (.aload_n 0, 1) := by decide +kernel
theorem dL_law__2505 : decode cL_law_ 2505 = .ok (.iload 4, 2) := by decide +kernel
theorem dL_law__2507 : decode cL_law_ 2507 = .ok (.iconst 4, 1) := by decide +kernel
theorem dL_law__2508 : decode cL_law_ 2508 = .ok (.iadd, 1) := by decide +kernel
theorem dL_law__2509 : decode cL_law_ 2509 = .ok (.iaload, 1) := by decide +kernel
theorem dL_law__2510 : decode cL_law_ 2510 = .ok (.aload_n 3, 1) := by decide +kernel
theorem dL_law__2511 : decode cL_law_ 2511 = .ok (.invokestatic 261, 3) := by decide +kernel
theorem dL_law__2514 : decode cL_law_ 2514 = .ok (.istore 5, 2) := by decide +kernel
theorem dL_law__2516 : decode cL_law_ 2516 = .ok (.aload_n 2, 1) := by decide +kernel
theorem dL_law__2517 : decode cL_law_ 2517 = .ok (.aload_n 0, 1) := by decide +kernel
theorem dL_law__2518 : decode cL_law_ 2518 = .ok (.iload 4, 2) := by decide +kernel
theorem dL_law__2520 : decode cL_law_ 2520 = .ok (.iconst 1, 1) := by decide +kernel
theorem dL_law__2521 : decode cL_law_ 2521 = .ok (.iadd, 1) := by decide +kernel
theorem dL_law__2522 : decode cL_law_ 2522 = .ok (.iaload, 1) := by decide +kernel
theorem dL_law__2523 : decode cL_law_ 2523 = .ok (.aload_n 0, 1) := by decide +kernel
theorem dL_law__2524 : decode cL_law_ 2524 = .ok (.iload 4, 2) := by decide +kernel
theorem dL_law__2526 : decode cL_law_ 2526 = .ok (.iconst 2, 1) := by decide +kernel
theorem dL_law__2527 : decode cL_law_ 2527 = .ok (.iadd, 1) := by decide +kernel
theorem dL_law__2528 : decode cL_law_ 2528 = .ok (.iaload, 1) := by decide +kernel
theorem dL_law__2529 : decode cL_law_ 2529 = .ok (.aload_n 0, 1) := by decide +kernel
theorem dL_law__2530 : decode cL_law_ 2530 = .ok (.iload 4, 2) := by decide +kernel
theorem dL_law__2532 : decode cL_law_ 2532 = .ok (.iconst 3, 1) := by decide +kernel
theorem dL_law__2533 : decode cL_law_ 2533 = .ok (.iadd, 1) := by decide +kernel
theorem dL_law__2534 : decode cL_law_ 2534 = .ok (.iaload, 1) := by decide +kernel
theorem dL_law__2535 : decode cL_law_ 2535 = .ok (.aload_n 0, 1) := by decide +kernel
theorem dL_law__2536 : decode cL_law_ 2536 = .ok (.iload 4, 2) := by decide +kernel
theorem dL_law__2538 : decode cL_law_ 2538 = .ok (.iconst 4, 1) := by decide +kernel
theorem dL_law__2539 : decode cL_law_ 2539 = .ok (.iadd, 1) := by decide +kernel
theorem dL_law__2540 : decode cL_law_ 2540 = .ok (.iaload, 1) := by decide +kernel
theorem dL_law__2541 : decode cL_law_ 2541 = .ok (.invokevirtual 263, 3) := by decide +kernel
theorem dL_law__2544 : decode cL_law_ 2544 = .ok (.istore 6, 2) := by decide +kernel
theorem dL_law__2546 : decode cL_law_ 2546 = .ok (.aload_n 2, 1) := by decide +kernel
theorem dL_law__2547 : decode cL_law_ 2547 = .ok (.invokevirtual 136, 3) := by decide +kernel
theorem dL_law__2550 : decode cL_law_ 2550 = .ok (.iload 5, 2) := by decide +kernel
theorem dL_law__2552 : decode cL_law_ 2552 = .ok (.if_icmp .eq 5, 3) := by decide +kernel
theorem dL_law__2555 : decode cL_law_ 2555 = .ok (.iconst 0, 1) := by decide +kernel
theorem dL_law__2556 : decode cL_law_ 2556 = .ok (.ireturn, 1) := by decide +kernel
theorem dL_law__2557 : decode cL_law_ 2557 = .ok (.iload 5, 2) := by decide +kernel
theorem dL_law__2559 : decode cL_law_ 2559 = .ok (.ifCond .ne 15, 3) := by decide +kernel
theorem dL_law__2562 : decode cL_law_ 2562 = .ok (.aload_n 3, 1) := by decide +kernel
theorem dL_law__2563 : decode cL_law_ 2563 = .ok (.iconst 0, 1) := by decide +kernel
theorem dL_law__2564 : decode cL_law_ 2564 = .ok (.laload, 1) := by decide +kernel
theorem dL_law__2565 : decode cL_law_ 2565 = .ok (.iload 6, 2) := by decide +kernel
theorem dL_law__2567 : decode cL_law_ 2567 = .ok (.i2l, 1) := by decide +kernel
theorem dL_law__2568 : decode cL_law_ 2568 = .ok (.lcmp, 1) := by decide +kernel
theorem dL_law__2569 : decode cL_law_ 2569 = .ok (.ifCond .eq 5, 3) := by decide +kernel
theorem dL_law__2572 : decode cL_law_ 2572 = .ok (.iconst 0, 1) := by decide +kernel
theorem dL_law__2573 : decode cL_law_ 2573 = .ok (.ireturn, 1) := by decide +kernel
theorem dL_law__2574 : decode cL_law_ 2574 = .ok (.goto 197, 3) := by decide +kernel
theorem dL_law__2577 : decode cL_law_ 2577 = .ok (.aload_n 1, 1) := by decide +kernel
theorem dL_law__2578 : decode cL_law_ 2578 = .ok (.aload_n 0, 1) := by decide +kernel
theorem dL_law__2579 : decode cL_law_ 2579 = .ok (.iload 4, 2) := by decide +kernel
theorem dL_law__2581 : decode cL_law_ 2581 = .ok (.iconst 1, 1) := by decide +kernel
theorem dL_law__2582 : decode cL_law_ 2582 = .ok (.iadd, 1) := by decide +kernel
theorem dL_law__2583 : decode cL_law_ 2583 = .ok (.iaload, 1) := by decide +kernel
theorem dL_law__2584 : decode cL_law_ 2584 = .ok (.aload_n 0, 1) := by decide +kernel
theorem dL_law__2585 : decode cL_law_ 2585 = .ok (.iload 4, 2) := by decide +kernel
theorem dL_law__2587 : decode cL_law_ 2587 = .ok (.iconst 2, 1) := by decide +kernel
theorem dL_law__2588 : decode cL_law_ 2588 = .ok (.iadd, 1) := by decide +kernel
theorem dL_law__2589 : decode cL_law_ 2589 = .ok (.iaload, 1) := by decide +kernel
theorem dL_law__2590 : decode cL_law_ 2590 = .ok (.aload_n 0, 1) := by decide +kernel
theorem dL_law__2591 : decode cL_law_ 2591 = .ok (.iload 4, 2) := by decide +kernel
theorem dL_law__2593 : decode cL_law_ 2593 = .ok (.iconst 3, 1) := by decide +kernel
theorem dL_law__2594 : decode cL_law_ 2594 = .ok (.iadd, 1) := by decide +kernel
theorem dL_law__2595 : decode cL_law_ 2595 = .ok (.iaload, 1) := by decide +kernel
theorem dL_law__2596 : decode cL_law_ 2596 = .ok (.aload_n 0, 1) := by decide +kernel
theorem dL_law__2597 : decode cL_law_ 2597 = .ok (.iload 4, 2) := by decide +kernel
theorem dL_law__2599 : decode cL_law_ 2599 = .ok (.iconst 4, 1) := by decide +kernel
theorem dL_law__2600 : decode cL_law_ 2600 = .ok (.iadd, 1) := by decide +kernel
theorem dL_law__2601 : decode cL_law_ 2601 = .ok (.iaload, 1) := by decide +kernel
theorem dL_law__2602 : decode cL_law_ 2602 = .ok (.aload_n 0, 1) := by decide +kernel
theorem dL_law__2603 : decode cL_law_ 2603 = .ok (.iload 4, 2) := by decide +kernel
theorem dL_law__2605 : decode cL_law_ 2605 = .ok (.iconst 5, 1) := by decide +kernel
theorem dL_law__2606 : decode cL_law_ 2606 = .ok (.iadd, 1) := by decide +kernel
theorem dL_law__2607 : decode cL_law_ 2607 = .ok (.iaload, 1) := by decide +kernel
theorem dL_law__2608 : decode cL_law_ 2608 = .ok (.aload_n 0, 1) := by decide +kernel
theorem dL_law__2609 : decode cL_law_ 2609 = .ok (.iload 4, 2) := by decide +kernel
theorem dL_law__2611 : decode cL_law_ 2611 = .ok (.bipush 6, 2) := by decide +kernel
theorem dL_law__2613 : decode cL_law_ 2613 = .ok (.iadd, 1) := by decide +kernel
theorem dL_law__2614 : decode cL_law_ 2614 = .ok (.iaload, 1) := by decide +kernel
theorem dL_law__2615 : decode cL_law_ 2615 = .ok (.aload_n 3, 1) := by decide +kernel
theorem dL_law__2616 : decode cL_law_ 2616 = .ok (.invokestatic 264, 3) := by decide +kernel
theorem dL_law__2619 : decode cL_law_ 2619 = .ok (.istore 5, 2) := by decide +kernel
theorem dL_law__2621 : decode cL_law_ 2621 = .ok (.aload_n 2, 1) := by decide +kernel
theorem dL_law__2622 : decode cL_law_ 2622 = .ok (.aload_n 0, 1) := by decide +kernel
theorem dL_law__2623 : decode cL_law_ 2623 = .ok (.iload 4, 2) := by decide +kernel
theorem dL_law__2625 : decode cL_law_ 2625 = .ok (.iconst 1, 1) := by decide +kernel
theorem dL_law__2626 : decode cL_law_ 2626 = .ok (.iadd, 1) := by decide +kernel
theorem dL_law__2627 : decode cL_law_ 2627 = .ok (.iaload, 1) := by decide +kernel
theorem dL_law__2628 : decode cL_law_ 2628 = .ok (.aload_n 0, 1) := by decide +kernel
theorem dL_law__2629 : decode cL_law_ 2629 = .ok (.iload 4, 2) := by decide +kernel
theorem dL_law__2631 : decode cL_law_ 2631 = .ok (.iconst 2, 1) := by decide +kernel
theorem dL_law__2632 : decode cL_law_ 2632 = .ok (.iadd, 1) := by decide +kernel
theorem dL_law__2633 : decode cL_law_ 2633 = .ok (.iaload, 1) := by decide +kernel
theorem dL_law__2634 : decode cL_law_ 2634 = .ok (.aload_n 0, 1) := by decide +kernel
theorem dL_law__2635 : decode cL_law_ 2635 = .ok (.iload 4, 2) := by decide +kernel
theorem dL_law__2637 : decode cL_law_ 2637 = .ok (.iconst 3, 1) := by decide +kernel
theorem dL_law__2638 : decode cL_law_ 2638 = .ok (.iadd, 1) := by decide +kernel
theorem dL_law__2639 : decode cL_law_ 2639 = .ok (.iaload, 1) := by decide +kernel
theorem dL_law__2640 : decode cL_law_ 2640 = .ok (.aload_n 0, 1) := by decide +kernel
theorem dL_law__2641 : decode cL_law_ 2641 = .ok (.iload 4, 2) := by decide +kernel
theorem dL_law__2643 : decode cL_law_ 2643 = .ok (.iconst 4, 1) := by decide +kernel
theorem dL_law__2644 : decode cL_law_ 2644 = .ok (.iadd, 1) := by decide +kernel
theorem dL_law__2645 : decode cL_law_ 2645 = .ok (.iaload, 1) := by decide +kernel
theorem dL_law__2646 : decode cL_law_ 2646 = .ok (.aload_n 0, 1) := by decide +kernel
theorem dL_law__2647 : decode cL_law_ 2647 = .ok (.iload 4, 2) := by decide +kernel
theorem dL_law__2649 : decode cL_law_ 2649 = .ok (.iconst 5, 1) := by decide +kernel
theorem dL_law__2650 : decode cL_law_ 2650 = .ok (.iadd, 1) := by decide +kernel
theorem dL_law__2651 : decode cL_law_ 2651 = .ok (.iaload, 1) := by decide +kernel
theorem dL_law__2652 : decode cL_law_ 2652 = .ok (.aload_n 0, 1) := by decide +kernel
theorem dL_law__2653 : decode cL_law_ 2653 = .ok (.iload 4, 2) := by decide +kernel
theorem dL_law__2655 : decode cL_law_ 2655 = .ok (.bipush 6, 2) := by decide +kernel
theorem dL_law__2657 : decode cL_law_ 2657 = .ok (.iadd, 1) := by decide +kernel
theorem dL_law__2658 : decode cL_law_ 2658 = .ok (.iaload, 1) := by decide +kernel
theorem dL_law__2659 : decode cL_law_ 2659 = .ok (.invokevirtual 267, 3) := by decide +kernel
theorem dL_law__2662 : decode cL_law_ 2662 = .ok (.istore 6, 2) := by decide +kernel
theorem dL_law__2664 : decode cL_law_ 2664 = .ok (.aload_n 2, 1) := by decide +kernel
theorem dL_law__2665 : decode cL_law_ 2665 = .ok (.invokevirtual 136, 3) := by decide +kernel
theorem dL_law__2668 : decode cL_law_ 2668 = .ok (.iload 5, 2) := by decide +kernel
theorem dL_law__2670 : decode cL_law_ 2670 = .ok (.if_icmp .eq 5, 3) := by decide +kernel
theorem dL_law__2673 : decode cL_law_ 2673 = .ok (.iconst 0, 1) := by decide +kernel
theorem dL_law__2674 : decode cL_law_ 2674 = .ok (.ireturn, 1) := by decide +kernel
theorem dL_law__2675 : decode cL_law_ 2675 = .ok (.iload 5, 2) := by decide +kernel
theorem dL_law__2677 : decode cL_law_ 2677 = .ok (.ifCond .ne 15, 3) := by decide +kernel
theorem dL_law__2680 : decode cL_law_ 2680 = .ok (.aload_n 3, 1) := by decide +kernel
theorem dL_law__2681 : decode cL_law_ 2681 = .ok (.iconst 0, 1) := by decide +kernel
theorem dL_law__2682 : decode cL_law_ 2682 = .ok (.laload, 1) := by decide +kernel
theorem dL_law__2683 : decode cL_law_ 2683 = .ok (.iload 6, 2) := by decide +kernel
theorem dL_law__2685 : decode cL_law_ 2685 = .ok (.i2l, 1) := by decide +kernel
theorem dL_law__2686 : decode cL_law_ 2686 = .ok (.lcmp, 1) := by decide +kernel
theorem dL_law__2687 : decode cL_law_ 2687 = .ok (.ifCond .eq 5, 3) := by decide +kernel
theorem dL_law__2690 : decode cL_law_ 2690 = .ok (.iconst 0, 1) := by decide +kernel
theorem dL_law__2691 : decode cL_law_ 2691 = .ok (.ireturn, 1) := by decide +kernel
theorem dL_law__2692 : decode cL_law_ 2692 = .ok (.goto 79, 3) := by decide +kernel
theorem dL_law__2695 : decode cL_law_ 2695 = .ok (.aload_n 1, 1) := by decide +kernel
theorem dL_law__2696 : decode cL_law_ 2696 = .ok (.invokevirtual 268, 3) := by decide +kernel
theorem dL_law__2699 : decode cL_law_ 2699 = .ok (.aload_n 2, 1) := by decide +kernel
theorem dL_law__2700 : decode cL_law_ 2700 = .ok (.invokevirtual 271, 3) := by decide +kernel
theorem dL_law__2703 : decode cL_law_ 2703 = .ok (.if_icmp .eq 68, 3) := by decide +kernel
theorem dL_law__2706 : decode cL_law_ 2706 = .ok (.iconst 0, 1) := by decide +kernel
theorem dL_law__2707 : decode cL_law_ 2707 = .ok (.ireturn, 1) := by decide +kernel
theorem dL_law__2708 : decode cL_law_ 2708 = .ok (.aload_n 1, 1) := by decide +kernel
theorem dL_law__2709 : decode cL_law_ 2709 = .ok (.invokevirtual 272, 3) := by decide +kernel
theorem dL_law__2712 : decode cL_law_ 2712 = .ok (.aload_n 2, 1) := by decide +kernel
theorem dL_law__2713 : decode cL_law_ 2713 = .ok (.invokevirtual 275, 3) := by decide +kernel
theorem dL_law__2716 : decode cL_law_ 2716 = .ok (.if_icmp .eq 55, 3) := by decide +kernel
theorem dL_law__2719 : decode cL_law_ 2719 = .ok (.iconst 0, 1) := by decide +kernel
theorem dL_law__2720 : decode cL_law_ 2720 = .ok (.ireturn, 1) := by decide +kernel
theorem dL_law__2721 : decode cL_law_ 2721 = .ok (.aload_n 1, 1) := by decide +kernel
theorem dL_law__2722 : decode cL_law_ 2722 = .ok (.aload_n 0, 1) := by decide +kernel
theorem dL_law__2723 : decode cL_law_ 2723 = .ok (.iload 4, 2) := by decide +kernel
theorem dL_law__2725 : decode cL_law_ 2725 = .ok (.iconst 1, 1) := by decide +kernel
theorem dL_law__2726 : decode cL_law_ 2726 = .ok (.iadd, 1) := by decide +kernel
theorem dL_law__2727 : decode cL_law_ 2727 = .ok (.iaload, 1) := by decide +kernel
theorem dL_law__2728 : decode cL_law_ 2728 = .ok (.invokevirtual 276, 3) := by decide +kernel
theorem dL_law__2731 : decode cL_law_ 2731 = .ok (.aload_n 2, 1) := by decide +kernel
theorem dL_law__2732 : decode cL_law_ 2732 = .ok (.aload_n 0, 1) := by decide +kernel
theorem dL_law__2733 : decode cL_law_ 2733 = .ok (.iload 4, 2) := by decide +kernel
theorem dL_law__2735 : decode cL_law_ 2735 = .ok (.iconst 1, 1) := by decide +kernel
theorem dL_law__2736 : decode cL_law_ 2736 = .ok (.iadd, 1) := by decide +kernel
theorem dL_law__2737 : decode cL_law_ 2737 = .ok (.iaload, 1) := by decide +kernel
theorem dL_law__2738 : decode cL_law_ 2738 = .ok (.invokevirtual 279, 3) := by decide +kernel
theorem dL_law__2741 : decode cL_law_ 2741 = .ok (.if_icmp .eq 30, 3) := by decide +kernel
theorem dL_law__2744 : decode cL_law_ 2744 = .ok (.iconst 0, 1) := by decide +kernel
theorem dL_law__2745 : decode cL_law_ 2745 = .ok (.ireturn, 1) := by decide +kernel
theorem dL_law__2746 : decode cL_law_ 2746 = .ok (.aload_n 1, 1) := by decide +kernel
theorem dL_law__2747 : decode cL_law_ 2747 = .ok (.aload_n 0, 1) := by decide +kernel
theorem dL_law__2748 : decode cL_law_ 2748 = .ok (.iload 4, 2) := by decide +kernel
theorem dL_law__2750 : decode cL_law_ 2750 = .ok (.iconst 1, 1) := by decide +kernel
theorem dL_law__2751 : decode cL_law_ 2751 = .ok (.iadd, 1) := by decide +kernel
theorem dL_law__2752 : decode cL_law_ 2752 = .ok (.iaload, 1) := by decide +kernel
theorem dL_law__2753 : decode cL_law_ 2753 = .ok (.invokevirtual 280, 3) := by decide +kernel
theorem dL_law__2756 : decode cL_law_ 2756 = .ok (.aload_n 2, 1) := by decide +kernel
theorem dL_law__2757 : decode cL_law_ 2757 = .ok (.aload_n 0, 1) := by decide +kernel
theorem dL_law__2758 : decode cL_law_ 2758 = .ok (.iload 4, 2) := by decide +kernel
theorem dL_law__2760 : decode cL_law_ 2760 = .ok (.iconst 1, 1) := by decide +kernel
theorem dL_law__2761 : decode cL_law_ 2761 = .ok (.iadd, 1) := by decide +kernel
theorem dL_law__2762 : decode cL_law_ 2762 = .ok (.iaload, 1) := by decide +kernel
theorem dL_law__2763 : decode cL_law_ 2763 = .ok (.invokevirtual 283, 3) := by decide +kernel
theorem dL_law__2766 : decode cL_law_ 2766 = .ok (.if_icmp .eq 5, 3) := by decide +kernel
theorem dL_law__2769 : decode cL_law_ 2769 = .ok (.iconst 0, 1) := by decide +kernel
theorem dL_law__2770 : decode cL_law_ 2770 = .ok (.ireturn, 1) := by decide +kernel
theorem dL_law__2771 : decode cL_law_ 2771 = .ok (.iinc 4 9, 3) := by decide +kernel
theorem dL_law__2774 : decode cL_law_ 2774 = .ok (.goto (-2751), 3) := by decide +kernel
theorem dL_law__2777 : decode cL_law_ 2777 = .ok (.iconst 1, 1) := by decide +kernel
theorem dL_law__2778 : decode cL_law_ 2778 = .ok (.ireturn, 1) := by decide +kernel
