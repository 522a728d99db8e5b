theorem dX0_init_0 : decode cX0_init 0 = .ok (.aload_n 0, 1) := by decide +kernel
theorem dX0_init_1 : decode cX0_init 1 = .ok (.invokespecial 3, 3) := by decide +kernel
theorem dX0_init_4 : decode cX0_init 4 = .ok (.aload_n 0, 1) := by decide +kernel
theorem dX0_init_5 : decode cX0_init 5 = .ok (.aload_n 1, 1) := by decide +kernel
theorem dX0_init_6 : decode cX0_init 6 = .ok (.putfield 9, 3) := by decide +kernel
theorem dX0_init_9 : decode cX0_init 9 = .ok (.aload_n 0, 1) := by decide +kernel
theorem dX0_init_10 : decode cX0_init 10 = .ok (.bipush 8, 2) := by decide +kernel
theorem dX0_init_12 : decode cX0_init 12 = .ok (.newarray .int, 2) := by decide +kernel
theorem dX0_init_14 : decode cX0_init 14 = .ok (.putfield 15, 3) := by decide +kernel
theorem dX0_init_17 : decode cX0_init 17 = .ok (.aload_n 0, 1) := by decide +kernel
theorem dX0_init_18 : decode cX0_init 18 = .ok (.bipush 8, 2) := by decide +kernel
theorem dX0_init_20 : decode cX0_init 20 = .ok (.newarray .int, 2) := by decide +kernel
theorem dX0_init_22 : decode cX0_init 22 = .ok (.putfield 19, 3) := by decide +kernel
theorem dX0_init_25 : decode cX0_init 25 = .ok (.aload_n 0, 1) := by decide +kernel
theorem dX0_init_26 : decode cX0_init 26 = .ok (.bipush 8, 2) := by decide +kernel
theorem dX0_init_28 : decode cX0_init 28 = .ok (.newarray .int, 2) := by decide +kernel
theorem dX0_init_30 : decode cX0_init 30 = .ok (.putfield 22, 3) := by decide +kernel
theorem dX0_init_33 : decode cX0_init 33 = .ok (.return_, 1) := by decide +kernel
theorem dX0_match_0 : decode cX0_match 0 = .ok (.bipush 8, 2) := by decide +kernel
theorem dX0_match_2 : decode cX0_match 2 = .ok (.aload_n 1, 1) := by decide +kernel
theorem dX0_match_3 : decode cX0_match 3 = .ok (.getfield 25, 3) := by decide +kernel
theorem dX0_match_6 : decode cX0_match 6 = .ok (.invokestatic 31, 3) := by decide +kernel
theorem dX0_match_9 : decode cX0_match 9 = .ok (.istore_n 2, 1) := by decide +kernel
theorem dX0_match_10 : decode cX0_match 10 = .ok (.iconst 0, 1) := by decide +kernel
theorem dX0_match_11 : decode cX0_match 11 = .ok (.istore_n 3, 1) := by decide +kernel
theorem dX0_match_12 : decode cX0_match 12 = .ok (.iload_n 3, 1) := by decide +kernel
theorem dX0_match_13 : decode cX0_match 13 = .ok (.aload_n 0, 1) := by decide +kernel
theorem dX0_match_14 : decode cX0_match 14 = .ok (.getfield 9, 3) := by decide +kernel
theorem dX0_match_17 : decode cX0_match 17 = .ok (.getfield 37, 3) := by decide +kernel
theorem dX0_match_20 : decode cX0_match 20 = .ok (.if_icmp .ge 22, 3) := by decide +kernel
theorem dX0_match_23 : decode cX0_match 23 = .ok (.aload_n 0, 1) := by decide +kernel
theorem dX0_match_24 : decode cX0_match 24 = .ok (.getfield 19, 3) := by decide +kernel
theorem dX0_match_27 : decode cX0_match 27 = .ok (.iload_n 3, 1) := by decide +kernel
theorem dX0_match_28 : decode cX0_match 28 = .ok (.aload_n 0, 1) := by decide +kernel
theorem dX0_match_29 : decode cX0_match 29 = .ok (.aload_n 1, 1) := by decide +kernel
theorem dX0_match_30 : decode cX0_match 30 = .ok (.iload_n 2, 1) := by decide +kernel
theorem dX0_match_31 : decode cX0_match 31 = .ok (.iload_n 3, 1) := by decide +kernel
theorem dX0_match_32 : decode cX0_match 32 = .ok (.invokevirtual 42, 3) := by decide +kernel
theorem dX0_match_35 : decode cX0_match 35 = .ok (.iastore, 1) := by decide +kernel
theorem dX0_match_36 : decode cX0_match 36 = .ok (.iinc 3 1, 3) := by decide +kernel
theorem dX0_match_39 : decode cX0_match 39 = .ok (.goto (-27), 3) := by decide +kernel
theorem dX0_match_42 : decode cX0_match 42 = .ok (.iconst 1, 1) := by decide +kernel
theorem dX0_match_43 : decode cX0_match 43 = .ok (.iload_n 2, 1) := by decide +kernel
theorem dX0_match_44 : decode cX0_match 44 = .ok (.ishl, 1) := by decide +kernel
theorem dX0_match_45 : decode cX0_match 45 = .ok (.iconst 1, 1) := by decide +kernel
theorem dX0_match_46 : decode cX0_match 46 = .ok (.isub, 1) := by decide +kernel
theorem dX0_match_47 : decode cX0_match 47 = .ok (.istore_n 3, 1) := by decide +kernel
theorem dX0_match_48 : decode cX0_match 48 = .ok (.aload_n 0, 1) := by decide +kernel
theorem dX0_match_49 : decode cX0_match 49 = .ok (.aload_n 0, 1) := by decide +kernel
theorem dX0_match_50 : decode cX0_match 50 = .ok (.iconst 0, 1) := by decide +kernel
theorem dX0_match_51 : decode cX0_match 51 = .ok (.iload_n 3, 1) := by decide +kernel
theorem dX0_match_52 : decode cX0_match 52 = .ok (.invokevirtual 46, 3) := by decide +kernel
theorem dX0_match_55 : decode cX0_match 55 = .ok (.putfield 49, 3) := by decide +kernel
theorem dX0_match_58 : decode cX0_match 58 = .ok (.aload_n 0, 1) := by decide +kernel
theorem dX0_match_59 : decode cX0_match 59 = .ok (.getfield 49, 3) := by decide +kernel
theorem dX0_match_62 : decode cX0_match 62 = .ok (.istore 4, 2) := by decide +kernel
theorem dX0_match_64 : decode cX0_match 64 = .ok (.iconst 0, 1) := by decide +kernel
theorem dX0_match_65 : decode cX0_match 65 = .ok (.istore 5, 2) := by decide +kernel
theorem dX0_match_67 : decode cX0_match 67 = .ok (.iload 5, 2) := by decide +kernel
theorem dX0_match_69 : decode cX0_match 69 = .ok (.aload_n 0, 1) := by decide +kernel
theorem dX0_match_70 : decode cX0_match 70 = .ok (.getfield 9, 3) := by decide +kernel
theorem dX0_match_73 : decode cX0_match 73 = .ok (.getfield 37, 3) := by decide +kernel
theorem dX0_match_76 : decode cX0_match 76 = .ok (.if_icmp .ge 53, 3) := by decide +kernel
theorem dX0_match_79 : decode cX0_match 79 = .ok (.aload_n 0, 1) := by decide +kernel
theorem dX0_match_80 : decode cX0_match 80 = .ok (.getfield 15, 3) := by decide +kernel
theorem dX0_match_83 : decode cX0_match 83 = .ok (.iload 5, 2) := by decide +kernel
theorem dX0_match_85 : decode cX0_match 85 = .ok (.aload_n 0, 1) := by decide +kernel
theorem dX0_match_86 : decode cX0_match 86 = .ok (.iload 5, 2) := by decide +kernel
theorem dX0_match_88 : decode cX0_match 88 = .ok (.iload_n 3, 1) := by decide +kernel
theorem dX0_match_89 : decode cX0_match 89 = .ok (.iload 4, 2) := by decide +kernel
theorem dX0_match_91 : decode cX0_match 91 = .ok (.invokevirtual 52, 3) := by decide +kernel
theorem dX0_match_94 : decode cX0_match 94 = .ok (.iastore, 1) := by decide +kernel
theorem dX0_match_95 : decode cX0_match 95 = .ok (.aload_n 0, 1) := by decide +kernel
theorem dX0_match_96 : decode cX0_match 96 = .ok (.getfield 15, 3) := by decide +kernel
theorem dX0_match_99 : decode cX0_match 99 = .ok (.iload 5, 2) := by decide +kernel
theorem dX0_match_101 : decode cX0_match 101 = .ok (.iaload, 1) := by decide +kernel
theorem dX0_match_102 : decode cX0_match 102 = .ok (.iconst (-1), 1) := by decide +kernel
theorem dX0_match_103 : decode cX0_match 103 = .ok (.if_icmp .eq 20, 3) := by decide +kernel
theorem dX0_match_106 : decode cX0_match 106 = .ok (.iload_n 3, 1) := by decide +kernel
theorem dX0_match_107 : decode cX0_match 107 = .ok (.iconst 1, 1) := by decide +kernel
theorem dX0_match_108 : decode cX0_match 108 = .ok (.aload_n 0, 1) := by decide +kernel
theorem dX0_match_109 : decode cX0_match 109 = .ok (.getfield 15, 3) := by decide +kernel
theorem dX0_match_112 : decode cX0_match 112 = .ok (.iload 5, 2) := by decide +kernel
theorem dX0_match_114 : decode cX0_match 114 = .ok (.iaload, 1) := by decide +kernel
theorem dX0_match_115 : decode cX0_match 115 = .ok (.ishl, 1) := by decide +kernel
theorem dX0_match_116 : decode cX0_match 116 = .ok (.iconst (-1), 1) := by decide +kernel
theorem dX0_match_117 : decode cX0_match 117 = .ok (.ixor, 1) := by decide +kernel
theorem dX0_match_118 : decode cX0_match 118 = .ok (.iand, 1) := by decide +kernel
theorem dX0_match_119 : decode cX0_match 119 = .ok (.istore_n 3, 1) := by decide +kernel
theorem dX0_match_120 : decode cX0_match 120 = .ok (.iinc 4 (-1), 3) := by decide +kernel
theorem dX0_match_123 : decode cX0_match 123 = .ok (.iinc 5 1, 3) := by decide +kernel
theorem dX0_match_126 : decode cX0_match 126 = .ok (.goto (-59), 3) := by decide +kernel
theorem dX0_match_129 : decode cX0_match 129 = .ok (.return_, 1) := by decide +kernel
theorem dX0_mayCarry_0 : decode cX0_mayCarry 0 = .ok (.iconst 0, 1) := by decide +kernel
theorem dX0_mayCarry_1 : decode cX0_mayCarry 1 = .ok (.istore 4, 2) := by decide +kernel
theorem dX0_mayCarry_3 : decode cX0_mayCarry 3 = .ok (.iconst 0, 1) := by decide +kernel
theorem dX0_mayCarry_4 : decode cX0_mayCarry 4 = .ok (.istore 5, 2) := by decide +kernel
theorem dX0_mayCarry_6 : decode cX0_mayCarry 6 = .ok (.iload 5, 2) := by decide +kernel
theorem dX0_mayCarry_8 : decode cX0_mayCarry 8 = .ok (.iload_n 2, 1) := by decide +kernel
theorem dX0_mayCarry_9 : decode cX0_mayCarry 9 = .ok (.if_icmp .ge 43, 3) := by decide +kernel
theorem dX0_mayCarry_12 : decode cX0_mayCarry 12 = .ok (.aload_n 0, 1) := by decide +kernel
theorem dX0_mayCarry_13 : decode cX0_mayCarry 13 = .ok (.getfield 9, 3) := by decide +kernel
theorem dX0_mayCarry_16 : decode cX0_mayCarry 16 = .ok (.aload_n 0, 1) := by decide +kernel
theorem dX0_mayCarry_17 : decode cX0_mayCarry 17 = .ok (.getfield 9, 3) := by decide +kernel
theorem dX0_mayCarry_20 : decode cX0_mayCarry 20 = .ok (.getfield 56, 3) := by decide +kernel
theorem dX0_mayCarry_23 : decode cX0_mayCarry 23 = .ok (.iload_n 3, 1) := by decide +kernel
theorem dX0_mayCarry_24 : decode cX0_mayCarry 24 = .ok (.iaload, 1) := by decide +kernel
theorem dX0_mayCarry_25 : decode cX0_mayCarry 25 = .ok (.aload_n 1, 1) := by decide +kernel
theorem dX0_mayCarry_26 : decode cX0_mayCarry 26 = .ok (.iload 5, 2) := by decide +kernel
theorem dX0_mayCarry_28 : decode cX0_mayCarry 28 = .ok (.invokevirtual 59, 3) := by decide +kernel
theorem dX0_mayCarry_31 : decode cX0_mayCarry 31 = .ok (.invokevirtual 63, 3) := by decide +kernel
theorem dX0_mayCarry_34 : decode cX0_mayCarry 34 = .ok (.ifCond .eq 12, 3) := by decide +kernel
theorem dX0_mayCarry_37 : decode cX0_mayCarry 37 = .ok (.iload 4, 2) := by decide +kernel
theorem dX0_mayCarry_39 : decode cX0_mayCarry 39 = .ok (.iconst 1, 1) := by decide +kernel
theorem dX0_mayCarry_40 : decode cX0_mayCarry 40 = .ok (.iload 5, 2) := by decide +kernel
theorem dX0_mayCarry_42 : decode cX0_mayCarry 42 = .ok (.ishl, 1) := by decide +kernel
theorem dX0_mayCarry_43 : decode cX0_mayCarry 43 = .ok (.ior, 1) := by decide +kernel
theorem dX0_mayCarry_44 : decode cX0_mayCarry 44 = .ok (.istore 4, 2) := by decide +kernel
theorem dX0_mayCarry_46 : decode cX0_mayCarry 46 = .ok (.iinc 5 1, 3) := by decide +kernel
theorem dX0_mayCarry_49 : decode cX0_mayCarry 49 = .ok (.goto (-43), 3) := by decide +kernel
theorem dX0_mayCarry_52 : decode cX0_mayCarry 52 = .ok (.iload 4, 2) := by decide +kernel
theorem dX0_mayCarry_54 : decode cX0_mayCarry 54 = .ok (.ireturn, 1) := by decide +kernel
theorem dX0_firstFor_0 : decode cX0_firstFor 0 = .ok (.iconst 0, 1) := by decide +kernel
theorem dX0_firstFor_1 : decode cX0_firstFor 1 = .ok (.istore 4, 2) := by decide +kernel
theorem dX0_firstFor_3 : decode cX0_firstFor 3 = .ok (.iload 4, 2) := by decide +kernel
theorem dX0_firstFor_5 : decode cX0_firstFor 5 = .ok (.bipush 8, 2) := by decide +kernel
theorem dX0_firstFor_7 : decode cX0_firstFor 7 = .ok (.if_icmp .ge 49, 3) := by decide +kernel
theorem dX0_firstFor_10 : decode cX0_firstFor 10 = .ok (.aload_n 0, 1) := by decide +kernel
theorem dX0_firstFor_11 : decode cX0_firstFor 11 = .ok (.getfield 19, 3) := by decide +kernel
theorem dX0_firstFor_14 : decode cX0_firstFor 14 = .ok (.iload_n 1, 1) := by decide +kernel
theorem dX0_firstFor_15 : decode cX0_firstFor 15 = .ok (.iaload, 1) := by decide +kernel
theorem dX0_firstFor_16 : decode cX0_firstFor 16 = .ok (.iload_n 2, 1) := by decide +kernel
theorem dX0_firstFor_17 : decode cX0_firstFor 17 = .ok (.iand, 1) := by decide +kernel
theorem dX0_firstFor_18 : decode cX0_firstFor 18 = .ok (.iconst 1, 1) := by decide +kernel
theorem dX0_firstFor_19 : decode cX0_firstFor 19 = .ok (.iload 4, 2) := by decide +kernel
theorem dX0_firstFor_21 : decode cX0_firstFor 21 = .ok (.ishl, 1) := by decide +kernel
theorem dX0_firstFor_22 : decode cX0_firstFor 22 = .ok (.iand, 1) := by decide +kernel
theorem dX0_firstFor_23 : decode cX0_firstFor 23 = .ok (.ifCond .eq 27, 3) := by decide +kernel
theorem dX0_firstFor_26 : decode cX0_firstFor 26 = .ok (.iconst 1, 1) := by decide +kernel
theorem dX0_firstFor_27 : decode cX0_firstFor 27 = .ok (.aload_n 0, 1) := by decide +kernel
theorem dX0_firstFor_28 : decode cX0_firstFor 28 = .ok (.iload_n 1, 1) := by decide +kernel
theorem dX0_firstFor_29 : decode cX0_firstFor 29 = .ok (.iconst 1, 1) := by decide +kernel
theorem dX0_firstFor_30 : decode cX0_firstFor 30 = .ok (.iadd, 1) := by decide +kernel
theorem dX0_firstFor_31 : decode cX0_firstFor 31 = .ok (.iload_n 2, 1) := by decide +kernel
theorem dX0_firstFor_32 : decode cX0_firstFor 32 = .ok (.iconst 1, 1) := by decide +kernel
theorem dX0_firstFor_33 : decode cX0_firstFor 33 = .ok (.iload 4, 2) := by decide +kernel
theorem dX0_firstFor_35 : decode cX0_firstFor 35 = .ok (.ishl, 1) := by decide +kernel
theorem dX0_firstFor_36 : decode cX0_firstFor 36 = .ok (.iconst (-1), 1) := by decide +kernel
theorem dX0_firstFor_37 : decode cX0_firstFor 37 = .ok (.ixor, 1) := by decide +kernel
theorem dX0_firstFor_38 : decode cX0_firstFor 38 = .ok (.iand, 1) := by decide +kernel
theorem dX0_firstFor_39 : decode cX0_firstFor 39 = .ok (.invokevirtual 46, 3) := by decide +kernel
theorem dX0_firstFor_42 : decode cX0_firstFor 42 = .ok (.iadd, 1) := by decide +kernel
theorem dX0_firstFor_43 : decode cX0_firstFor 43 = .ok (.iload_n 3, 1) := by decide +kernel
theorem dX0_firstFor_44 : decode cX0_firstFor 44 = .ok (.if_icmp .ne 6, 3) := by decide +kernel
theorem dX0_firstFor_47 : decode cX0_firstFor 47 = .ok (.iload 4, 2) := by decide +kernel
theorem dX0_firstFor_49 : decode cX0_firstFor 49 = .ok (.ireturn, 1) := by decide +kernel
theorem dX0_firstFor_50 : decode cX0_firstFor 50 = .ok (.iinc 4 1, 3) := by decide +kernel
theorem dX0_firstFor_53 : decode cX0_firstFor 53 = .ok (.goto (-50), 3) := by decide +kernel
theorem dX0_firstFor_56 : decode cX0_firstFor 56 = .ok (.iconst (-1), 1) := by decide +kernel
theorem dX0_firstFor_57 : decode cX0_firstFor 57 = .ok (.ireturn, 1) := by decide +kernel
theorem dX0_mostFrom_0 : decode cX0_mostFrom 0 = .ok (.iconst 0, 1) := by decide +kernel
theorem dX0_mostFrom_1 : decode cX0_mostFrom 1 = .ok (.istore_n 3, 1) := by decide +kernel
theorem dX0_mostFrom_2 : decode cX0_mostFrom 2 = .ok (.iload_n 3, 1) := by decide +kernel
theorem dX0_mostFrom_3 : decode cX0_mostFrom 3 = .ok (.bipush 8, 2) := by decide +kernel
theorem dX0_mostFrom_5 : decode cX0_mostFrom 5 = .ok (.if_icmp .ge 16, 3) := by decide +kernel
theorem dX0_mostFrom_8 : decode cX0_mostFrom 8 = .ok (.aload_n 0, 1) := by decide +kernel
theorem dX0_mostFrom_9 : decode cX0_mostFrom 9 = .ok (.getfield 22, 3) := by decide +kernel
theorem dX0_mostFrom_12 : decode cX0_mostFrom 12 = .ok (.iload_n 3, 1) := by decide +kernel
theorem dX0_mostFrom_13 : decode cX0_mostFrom 13 = .ok (.iconst (-1), 1) := by decide +kernel
theorem dX0_mostFrom_14 : decode cX0_mostFrom 14 = .ok (.iastore, 1) := by decide +kernel
theorem dX0_mostFrom_15 : decode cX0_mostFrom 15 = .ok (.iinc 3 1, 3) := by decide +kernel
theorem dX0_mostFrom_18 : decode cX0_mostFrom 18 = .ok (.goto (-16), 3) := by decide +kernel
theorem dX0_mostFrom_21 : decode cX0_mostFrom 21 = .ok (.iconst 0, 1) := by decide +kernel
theorem dX0_mostFrom_22 : decode cX0_mostFrom 22 = .ok (.istore_n 3, 1) := by decide +kernel
theorem dX0_mostFrom_23 : decode cX0_mostFrom 23 = .ok (.iload_n 1, 1) := by decide +kernel
theorem dX0_mostFrom_24 : decode cX0_mostFrom 24 = .ok (.istore 4, 2) := by decide +kernel
theorem dX0_mostFrom_26 : decode cX0_mostFrom 26 = .ok (.iload 4, 2) := by decide +kernel
theorem dX0_mostFrom_28 : decode cX0_mostFrom 28 = .ok (.aload_n 0, 1) := by decide +kernel
theorem dX0_mostFrom_29 : decode cX0_mostFrom 29 = .ok (.getfield 9, 3) := by decide +kernel
theorem dX0_mostFrom_32 : decode cX0_mostFrom 32 = .ok (.getfield 37, 3) := by decide +kernel
theorem dX0_mostFrom_35 : decode cX0_mostFrom 35 = .ok (.if_icmp .ge 29, 3) := by decide +kernel
theorem dX0_mostFrom_38 : decode cX0_mostFrom 38 = .ok (.aload_n 0, 1) := by decide +kernel
theorem dX0_mostFrom_39 : decode cX0_mostFrom 39 = .ok (.iload_n 2, 1) := by decide +kernel
theorem dX0_mostFrom_40 : decode cX0_mostFrom 40 = .ok (.iconst (-1), 1) := by decide +kernel
theorem dX0_mostFrom_41 : decode cX0_mostFrom 41 = .ok (.ixor, 1) := by decide +kernel
theorem dX0_mostFrom_42 : decode cX0_mostFrom 42 = .ok (.putfield 67, 3) := by decide +kernel
theorem dX0_mostFrom_45 : decode cX0_mostFrom 45 = .ok (.aload_n 0, 1) := by decide +kernel
theorem dX0_mostFrom_46 : decode cX0_mostFrom 46 = .ok (.iload 4, 2) := by decide +kernel
theorem dX0_mostFrom_48 : decode cX0_mostFrom 48 = .ok (.iconst 0, 1) := by decide +kernel
theorem dX0_mostFrom_49 : decode cX0_mostFrom 49 = .ok (.invokevirtual 70, 3) := by decide +kernel
theorem dX0_mostFrom_52 : decode cX0_mostFrom 52 = .ok (.ifCond .eq 6, 3) := by decide +kernel
theorem dX0_mostFrom_55 : decode cX0_mostFrom 55 = .ok (.iinc 3 1, 3) := by decide +kernel
theorem dX0_mostFrom_58 : decode cX0_mostFrom 58 = .ok (.iinc 4 1, 3) := by decide +kernel
theorem dX0_mostFrom_61 : decode cX0_mostFrom 61 = .ok (.goto (-35), 3) := by decide +kernel
theorem dX0_mostFrom_64 : decode cX0_mostFrom 64 = .ok (.iload_n 3, 1) := by decide +kernel
theorem dX0_mostFrom_65 : decode cX0_mostFrom 65 = .ok (.ireturn, 1) := by decide +kernel
theorem dX0_findPlate_0 : decode cX0_findPlate 0 = .ok (.iconst 0, 1) := by decide +kernel
theorem dX0_findPlate_1 : decode cX0_findPlate 1 = .ok (.istore_n 3, 1) := by decide +kernel
theorem dX0_findPlate_2 : decode cX0_findPlate 2 = .ok (.iload_n 3, 1) := by decide +kernel
theorem dX0_findPlate_3 : decode cX0_findPlate 3 = .ok (.bipush 8, 2) := by decide +kernel
theorem dX0_findPlate_5 : decode cX0_findPlate 5 = .ok (.if_icmp .ge 82, 3) := by decide +kernel
theorem dX0_findPlate_8 : decode cX0_findPlate 8 = .ok (.iload_n 2, 1) := by decide +kernel
theorem dX0_findPlate_9 : decode cX0_findPlate 9 = .ok (.bipush 8, 2) := by decide +kernel
theorem dX0_findPlate_11 : decode cX0_findPlate 11 = .ok (.if_icmp .gt 76, 3) := by decide +kernel
theorem dX0_findPlate_14 : decode cX0_findPlate 14 = .ok (.aload_n 0, 1) := by decide +kernel
theorem dX0_findPlate_15 : decode cX0_findPlate 15 = .ok (.getfield 19, 3) := by decide +kernel
theorem dX0_findPlate_18 : decode cX0_findPlate 18 = .ok (.iload_n 1, 1) := by decide +kernel
theorem dX0_findPlate_19 : decode cX0_findPlate 19 = .ok (.iaload, 1) := by decide +kernel
theorem dX0_findPlate_20 : decode cX0_findPlate 20 = .ok (.aload_n 0, 1) := by decide +kernel
theorem dX0_findPlate_21 : decode cX0_findPlate 21 = .ok (.getfield 67, 3) := by decide +kernel
theorem dX0_findPlate_24 : decode cX0_findPlate 24 = .ok (.iconst (-1), 1) := by decide +kernel
theorem dX0_findPlate_25 : decode cX0_findPlate 25 = .ok (.ixor, 1) := by decide +kernel
theorem dX0_findPlate_26 : decode cX0_findPlate 26 = .ok (.iand, 1) := by decide +kernel
theorem dX0_findPlate_27 : decode cX0_findPlate 27 = .ok (.iconst 1, 1) := by decide +kernel
theorem dX0_findPlate_28 : decode cX0_findPlate 28 = .ok (.iload_n 3, 1) := by decide +kernel
theorem dX0_findPlate_29 : decode cX0_findPlate 29 = .ok (.ishl, 1) := by decide +kernel
theorem dX0_findPlate_30 : decode cX0_findPlate 30 = .ok (.iand, 1) := by decide +kernel
theorem dX0_findPlate_31 : decode cX0_findPlate 31 = .ok (.ifCond .eq 50, 3) := by decide +kernel
theorem dX0_findPlate_34 : decode cX0_findPlate 34 = .ok (.aload_n 0, 1) := by decide +kernel
theorem dX0_findPlate_35 : decode cX0_findPlate 35 = .ok (.dup, 1) := by decide +kernel
theorem dX0_findPlate_36 : decode cX0_findPlate 36 = .ok (.getfield 67, 3) := by decide +kernel
theorem dX0_findPlate_39 : decode cX0_findPlate 39 = .ok (.iconst 1, 1) := by decide +kernel
theorem dX0_findPlate_40 : decode cX0_findPlate 40 = .ok (.iload_n 3, 1) := by decide +kernel
theorem dX0_findPlate_41 : decode cX0_findPlate 41 = .ok (.ishl, 1) := by decide +kernel
theorem dX0_findPlate_42 : decode cX0_findPlate 42 = .ok (.ior, 1) := by decide +kernel
theorem dX0_findPlate_43 : decode cX0_findPlate 43 = .ok (.putfield 67, 3) := by decide +kernel
theorem dX0_findPlate_46 : decode cX0_findPlate 46 = .ok (.aload_n 0, 1) := by decide +kernel
theorem dX0_findPlate_47 : decode cX0_findPlate 47 = .ok (.getfield 22, 3) := by decide +kernel
theorem dX0_findPlate_50 : decode cX0_findPlate 50 = .ok (.iload_n 3, 1) := by decide +kernel
theorem dX0_findPlate_51 : decode cX0_findPlate 51 = .ok (.iaload, 1) := by decide +kernel
theorem dX0_findPlate_52 : decode cX0_findPlate 52 = .ok (.iconst (-1), 1) := by decide +kernel
theorem dX0_findPlate_53 : decode cX0_findPlate 53 = .ok (.if_icmp .eq 19, 3) := by decide +kernel
theorem dX0_findPlate_56 : decode cX0_findPlate 56 = .ok (.aload_n 0, 1) := by decide +kernel
theorem dX0_findPlate_57 : decode cX0_findPlate 57 = .ok (.aload_n 0, 1) := by decide +kernel
theorem dX0_findPlate_58 : decode cX0_findPlate 58 = .ok (.getfield 22, 3) := by decide +kernel
theorem dX0_findPlate_61 : decode cX0_findPlate 61 = .ok (.iload_n 3, 1) := by decide +kernel
theorem dX0_findPlate_62 : decode cX0_findPlate 62 = .ok (.iaload, 1) := by decide +kernel
theorem dX0_findPlate_63 : decode cX0_findPlate 63 = .ok (.iload_n 2, 1) := by decide +kernel
theorem dX0_findPlate_64 : decode cX0_findPlate 64 = .ok (.iconst 1, 1) := by decide +kernel
theorem dX0_findPlate_65 : decode cX0_findPlate 65 = .ok (.iadd, 1) := by decide +kernel
theorem dX0_findPlate_66 : decode cX0_findPlate 66 = .ok (.invokevirtual 70, 3) := by decide +kernel
theorem dX0_findPlate_69 : decode cX0_findPlate 69 = .ok (.ifCond .eq 12, 3) := by decide +kernel
theorem dX0_findPlate_72 : decode cX0_findPlate 72 = .ok (.aload_n 0, 1) := by decide +kernel
theorem dX0_findPlate_73 : decode cX0_findPlate 73 = .ok (.getfield 22, 3) := by decide +kernel
theorem dX0_findPlate_76 : decode cX0_findPlate 76 = .ok (.iload_n 3, 1) := by decide +kernel
theorem dX0_findPlate_77 : decode cX0_findPlate 77 = .ok (.iload_n 1, 1) := by decide +kernel
theorem dX0_findPlate_78 : decode cX0_findPlate 78 = .ok (.iastore, 1) := by decide +kernel
theorem dX0_findPlate_79 : decode cX0_findPlate 79 = .ok (.iconst 1, 1) := by decide +kernel
theorem dX0_findPlate_80 : decode cX0_findPlate 80 = .ok (.ireturn, 1) := by decide +kernel
theorem dX0_findPlate_81 : decode cX0_findPlate 81 = .ok (.iinc 3 1, 3) := by decide +kernel
theorem dX0_findPlate_84 : decode cX0_findPlate 84 = .ok (.goto (-82), 3) := by decide +kernel
theorem dX0_findPlate_87 : decode cX0_findPlate 87 = .ok (.iconst 0, 1) := by decide +kernel
theorem dX0_findPlate_88 : decode cX0_findPlate 88 = .ok (.ireturn, 1) := by decide +kernel
theorem dX1_init_0 : decode cX1_init 0 = .ok (.aload_n 0, 1) := by decide +kernel
theorem dX1_init_1 : decode cX1_init 1 = .ok (.invokespecial 3, 3) := by decide +kernel
theorem dX1_init_4 : decode cX1_init 4 = .ok (.aload_n 0, 1) := by decide +kernel
theorem dX1_init_5 : decode cX1_init 5 = .ok (.aload_n 1, 1) := by decide +kernel
theorem dX1_init_6 : decode cX1_init 6 = .ok (.putfield 9, 3) := by decide +kernel
theorem dX1_init_9 : decode cX1_init 9 = .ok (.aload_n 0, 1) := by decide +kernel
theorem dX1_init_10 : decode cX1_init 10 = .ok (.bipush 8, 2) := by decide +kernel
theorem dX1_init_12 : decode cX1_init 12 = .ok (.newarray .int, 2) := by decide +kernel
theorem dX1_init_14 : decode cX1_init 14 = .ok (.putfield 15, 3) := by decide +kernel
theorem dX1_init_17 : decode cX1_init 17 = .ok (.aload_n 0, 1) := by decide +kernel
theorem dX1_init_18 : decode cX1_init 18 = .ok (.bipush 8, 2) := by decide +kernel
theorem dX1_init_20 : decode cX1_init 20 = .ok (.newarray .int, 2) := by decide +kernel
theorem dX1_init_22 : decode cX1_init 22 = .ok (.putfield 19, 3) := by decide +kernel
theorem dX1_init_25 : decode cX1_init 25 = .ok (.aload_n 0, 1) := by decide +kernel
theorem dX1_init_26 : decode cX1_init 26 = .ok (.bipush 7, 2) := by decide +kernel
theorem dX1_init_28 : decode cX1_init 28 = .ok (.newarray .int, 2) := by decide +kernel
theorem dX1_init_30 : decode cX1_init 30 = .ok (.putfield 22, 3) := by decide +kernel
theorem dX1_init_33 : decode cX1_init 33 = .ok (.aload_n 0, 1) := by decide +kernel
theorem dX1_init_34 : decode cX1_init 34 = .ok (.invokevirtual 25, 3) := by decide +kernel
theorem dX1_init_37 : decode cX1_init 37 = .ok (.return_, 1) := by decide +kernel
theorem dX1_clear_0 : decode cX1_clear 0 = .ok (.iconst 0, 1) := by decide +kernel
theorem dX1_clear_1 : decode cX1_clear 1 = .ok (.istore_n 1, 1) := by decide +kernel
theorem dX1_clear_2 : decode cX1_clear 2 = .ok (.iload_n 1, 1) := by decide +kernel
theorem dX1_clear_3 : decode cX1_clear 3 = .ok (.bipush 8, 2) := by decide +kernel
theorem dX1_clear_5 : decode cX1_clear 5 = .ok (.if_icmp .ge 16, 3) := by decide +kernel
theorem dX1_clear_8 : decode cX1_clear 8 = .ok (.aload_n 0, 1) := by decide +kernel
theorem dX1_clear_9 : decode cX1_clear 9 = .ok (.getfield 15, 3) := by decide +kernel
theorem dX1_clear_12 : decode cX1_clear 12 = .ok (.iload_n 1, 1) := by decide +kernel
theorem dX1_clear_13 : decode cX1_clear 13 = .ok (.iconst (-1), 1) := by decide +kernel
theorem dX1_clear_14 : decode cX1_clear 14 = .ok (.iastore, 1) := by decide +kernel
theorem dX1_clear_15 : decode cX1_clear 15 = .ok (.iinc 1 1, 3) := by decide +kernel
theorem dX1_clear_18 : decode cX1_clear 18 = .ok (.goto (-16), 3) := by decide +kernel
theorem dX1_clear_21 : decode cX1_clear 21 = .ok (.aload_n 0, 1) := by decide +kernel
theorem dX1_clear_22 : decode cX1_clear 22 = .ok (.iconst 0, 1) := by decide +kernel
theorem dX1_clear_23 : decode cX1_clear 23 = .ok (.putfield 28, 3) := by decide +kernel
theorem dX1_clear_26 : decode cX1_clear 26 = .ok (.aload_n 0, 1) := by decide +kernel
theorem dX1_clear_27 : decode cX1_clear 27 = .ok (.ldc2_w 32, 3) := by decide +kernel
theorem dX1_clear_30 : decode cX1_clear 30 = .ok (.putfield 34, 3) := by decide +kernel
theorem dX1_clear_33 : decode cX1_clear 33 = .ok (.return_, 1) := by decide +kernel
theorem dX1_read_0 : decode cX1_read 0 = .ok (.iconst 0, 1) := by decide +kernel
theorem dX1_read_1 : decode cX1_read 1 = .ok (.istore_n 2, 1) := by decide +kernel
theorem dX1_read_2 : decode cX1_read 2 = .ok (.iload_n 2, 1) := by decide +kernel
theorem dX1_read_3 : decode cX1_read 3 = .ok (.bipush 8, 2) := by decide +kernel
theorem dX1_read_5 : decode cX1_read 5 = .ok (.if_icmp .ge 16, 3) := by decide +kernel
theorem dX1_read_8 : decode cX1_read 8 = .ok (.aload_n 0, 1) := by decide +kernel
theorem dX1_read_9 : decode cX1_read 9 = .ok (.getfield 19, 3) := by decide +kernel
theorem dX1_read_12 : decode cX1_read 12 = .ok (.iload_n 2, 1) := by decide +kernel
theorem dX1_read_13 : decode cX1_read 13 = .ok (.iconst (-1), 1) := by decide +kernel
theorem dX1_read_14 : decode cX1_read 14 = .ok (.iastore, 1) := by decide +kernel
theorem dX1_read_15 : decode cX1_read 15 = .ok (.iinc 2 1, 3) := by decide +kernel
theorem dX1_read_18 : decode cX1_read 18 = .ok (.goto (-16), 3) := by decide +kernel
theorem dX1_read_21 : decode cX1_read 21 = .ok (.iconst 0, 1) := by decide +kernel
theorem dX1_read_22 : decode cX1_read 22 = .ok (.istore_n 2, 1) := by decide +kernel
theorem dX1_read_23 : decode cX1_read 23 = .ok (.iload_n 2, 1) := by decide +kernel
theorem dX1_read_24 : decode cX1_read 24 = .ok (.bipush 8, 2) := by decide +kernel
theorem dX1_read_26 : decode cX1_read 26 = .ok (.if_icmp .gt 26, 3) := by decide +kernel
theorem dX1_read_29 : decode cX1_read 29 = .ok (.aload_n 1, 1) := by decide +kernel
theorem dX1_read_30 : decode cX1_read 30 = .ok (.invokevirtual 38, 3) := by decide +kernel
theorem dX1_read_33 : decode cX1_read 33 = .ok (.ifCond .ne 19, 3) := by decide +kernel
theorem dX1_read_36 : decode cX1_read 36 = .ok (.aload_n 0, 1) := by decide +kernel
theorem dX1_read_37 : decode cX1_read 37 = .ok (.aload_n 1, 1) := by decide +kernel
theorem dX1_read_38 : decode cX1_read 38 = .ok (.invokevirtual 44, 3) := by decide +kernel
theorem dX1_read_41 : decode cX1_read 41 = .ok (.ifCond .ne 5, 3) := by decide +kernel
theorem dX1_read_44 : decode cX1_read 44 = .ok (.iconst 0, 1) := by decide +kernel
theorem dX1_read_45 : decode cX1_read 45 = .ok (.ireturn, 1) := by decide +kernel
theorem dX1_read_46 : decode cX1_read 46 = .ok (.iinc 2 1, 3) := by decide +kernel
theorem dX1_read_49 : decode cX1_read 49 = .ok (.goto (-26), 3) := by decide +kernel
theorem dX1_read_52 : decode cX1_read 52 = .ok (.aload_n 0, 1) := by decide +kernel
theorem dX1_read_53 : decode cX1_read 53 = .ok (.getfield 19, 3) := by decide +kernel
theorem dX1_read_56 : decode cX1_read 56 = .ok (.iconst 0, 1) := by decide +kernel
theorem dX1_read_57 : decode cX1_read 57 = .ok (.aload_n 0, 1) := by decide +kernel
theorem dX1_read_58 : decode cX1_read 58 = .ok (.getfield 15, 3) := by decide +kernel
theorem dX1_read_61 : decode cX1_read 61 = .ok (.iconst 0, 1) := by decide +kernel
theorem dX1_read_62 : decode cX1_read 62 = .ok (.bipush 8, 2) := by decide +kernel
theorem dX1_read_64 : decode cX1_read 64 = .ok (.invokestatic 48, 3) := by decide +kernel
theorem dX1_read_67 : decode cX1_read 67 = .ok (.aload_n 0, 1) := by decide +kernel
theorem dX1_read_68 : decode cX1_read 68 = .ok (.iload_n 2, 1) := by decide +kernel
theorem dX1_read_69 : decode cX1_read 69 = .ok (.putfield 28, 3) := by decide +kernel
theorem dX1_read_72 : decode cX1_read 72 = .ok (.aload_n 0, 1) := by decide +kernel
theorem dX1_read_73 : decode cX1_read 73 = .ok (.lconst 0, 1) := by decide +kernel
theorem dX1_read_74 : decode cX1_read 74 = .ok (.putfield 34, 3) := by decide +kernel
theorem dX1_read_77 : decode cX1_read 77 = .ok (.iconst 0, 1) := by decide +kernel
theorem dX1_read_78 : decode cX1_read 78 = .ok (.istore_n 3, 1) := by decide +kernel
theorem dX1_read_79 : decode cX1_read 79 = .ok (.iload_n 3, 1) := by decide +kernel
theorem dX1_read_80 : decode cX1_read 80 = .ok (.bipush 64, 2) := by decide +kernel
theorem dX1_read_82 : decode cX1_read 82 = .ok (.if_icmp .ge 29, 3) := by decide +kernel
theorem dX1_read_85 : decode cX1_read 85 = .ok (.aload_n 0, 1) := by decide +kernel
theorem dX1_read_86 : decode cX1_read 86 = .ok (.iload_n 3, 1) := by decide +kernel
theorem dX1_read_87 : decode cX1_read 87 = .ok (.invokevirtual 54, 3) := by decide +kernel
theorem dX1_read_90 : decode cX1_read 90 = .ok (.ifCond .eq 15, 3) := by decide +kernel
theorem dX1_read_93 : decode cX1_read 93 = .ok (.aload_n 0, 1) := by decide +kernel
theorem dX1_read_94 : decode cX1_read 94 = .ok (.dup, 1) := by decide +kernel
theorem dX1_read_95 : decode cX1_read 95 = .ok (.getfield 34, 3) := by decide +kernel
theorem dX1_read_98 : decode cX1_read 98 = .ok (.lconst 1, 1) := by decide +kernel
theorem dX1_read_99 : decode cX1_read 99 = .ok (.iload_n 3, 1) := by decide +kernel
theorem dX1_read_100 : decode cX1_read 100 = .ok (.lshl, 1) := by decide +kernel
theorem dX1_read_101 : decode cX1_read 101 = .ok (.lor, 1) := by decide +kernel
theorem dX1_read_102 : decode cX1_read 102 = .ok (.putfield 34, 3) := by decide +kernel
theorem dX1_read_105 : decode cX1_read 105 = .ok (.iinc 3 1, 3) := by decide +kernel
theorem dX1_read_108 : decode cX1_read 108 = .ok (.goto (-29), 3) := by decide +kernel
theorem dX1_read_111 : decode cX1_read 111 = .ok (.iconst 1, 1) := by decide +kernel
theorem dX1_read_112 : decode cX1_read 112 = .ok (.ireturn, 1) := by decide +kernel
theorem dX1_readLine_0 : decode cX1_readLine 0 = .ok (.aload_n 1, 1) := by decide +kernel
theorem dX1_readLine_1 : decode cX1_readLine 1 = .ok (.aload_n 0, 1) := by decide +kernel
theorem dX1_readLine_2 : decode cX1_readLine 2 = .ok (.getfield 9, 3) := by decide +kernel
theorem dX1_readLine_5 : decode cX1_readLine 5 = .ok (.getfield 58, 3) := by decide +kernel
theorem dX1_readLine_8 : decode cX1_readLine 8 = .ok (.iconst 1, 1) := by decide +kernel
theorem dX1_readLine_9 : decode cX1_readLine 9 = .ok (.isub, 1) := by decide +kernel
theorem dX1_readLine_10 : decode cX1_readLine 10 = .ok (.invokevirtual 63, 3) := by decide +kernel
theorem dX1_readLine_13 : decode cX1_readLine 13 = .ok (.istore_n 2, 1) := by decide +kernel
theorem dX1_readLine_14 : decode cX1_readLine 14 = .ok (.iload_n 2, 1) := by decide +kernel
theorem dX1_readLine_15 : decode cX1_readLine 15 = .ok (.iconst (-1), 1) := by decide +kernel
theorem dX1_readLine_16 : decode cX1_readLine 16 = .ok (.if_icmp .ne 5, 3) := by decide +kernel
theorem dX1_readLine_19 : decode cX1_readLine 19 = .ok (.iconst 0, 1) := by decide +kernel
theorem dX1_readLine_20 : decode cX1_readLine 20 = .ok (.ireturn, 1) := by decide +kernel
theorem dX1_readLine_21 : decode cX1_readLine 21 = .ok (.aload_n 0, 1) := by decide +kernel
theorem dX1_readLine_22 : decode cX1_readLine 22 = .ok (.getfield 19, 3) := by decide +kernel
theorem dX1_readLine_25 : decode cX1_readLine 25 = .ok (.iload_n 2, 1) := by decide +kernel
theorem dX1_readLine_26 : decode cX1_readLine 26 = .ok (.iaload, 1) := by decide +kernel
theorem dX1_readLine_27 : decode cX1_readLine 27 = .ok (.iconst (-1), 1) := by decide +kernel
theorem dX1_readLine_28 : decode cX1_readLine 28 = .ok (.if_icmp .eq 13, 3) := by decide +kernel
theorem dX1_readLine_31 : decode cX1_readLine 31 = .ok (.aload_n 1, 1) := by decide +kernel
theorem dX1_readLine_32 : decode cX1_readLine 32 = .ok (.iconst 2, 1) := by decide +kernel
theorem dX1_readLine_33 : decode cX1_readLine 33 = .ok (.aload_n 1, 1) := by decide +kernel
theorem dX1_readLine_34 : decode cX1_readLine 34 = .ok (.getfield 67, 3) := by decide +kernel
theorem dX1_readLine_37 : decode cX1_readLine 37 = .ok (.invokevirtual 70, 3) := by decide +kernel
theorem dX1_readLine_40 : decode cX1_readLine 40 = .ok (.ireturn, 1) := by decide +kernel
theorem dX1_readLine_41 : decode cX1_readLine 41 = .ok (.aload_n 0, 1) := by decide +kernel
theorem dX1_readLine_42 : decode cX1_readLine 42 = .ok (.getfield 19, 3) := by decide +kernel
theorem dX1_readLine_45 : decode cX1_readLine 45 = .ok (.iload_n 2, 1) := by decide +kernel
theorem dX1_readLine_46 : decode cX1_readLine 46 = .ok (.aload_n 1, 1) := by decide +kernel
theorem dX1_readLine_47 : decode cX1_readLine 47 = .ok (.bipush 6, 2) := by decide +kernel
theorem dX1_readLine_49 : decode cX1_readLine 49 = .ok (.invokevirtual 63, 3) := by decide +kernel
theorem dX1_readLine_52 : decode cX1_readLine 52 = .ok (.iastore, 1) := by decide +kernel
theorem dX1_readLine_53 : decode cX1_readLine 53 = .ok (.aload_n 0, 1) := by decide +kernel
theorem dX1_readLine_54 : decode cX1_readLine 54 = .ok (.getfield 19, 3) := by decide +kernel
theorem dX1_readLine_57 : decode cX1_readLine 57 = .ok (.iload_n 2, 1) := by decide +kernel
theorem dX1_readLine_58 : decode cX1_readLine 58 = .ok (.iaload, 1) := by decide +kernel
theorem dX1_readLine_59 : decode cX1_readLine 59 = .ok (.iconst (-1), 1) := by decide +kernel
theorem dX1_readLine_60 : decode cX1_readLine 60 = .ok (.if_icmp .eq 16, 3) := by decide +kernel
theorem dX1_readLine_63 : decode cX1_readLine 63 = .ok (.aload_n 1, 1) := by decide +kernel
theorem dX1_readLine_64 : decode cX1_readLine 64 = .ok (.bipush 59, 2) := by decide +kernel
theorem dX1_readLine_66 : decode cX1_readLine 66 = .ok (.invokevirtual 74, 3) := by decide +kernel
theorem dX1_readLine_69 : decode cX1_readLine 69 = .ok (.ifCond .eq 7, 3) := by decide +kernel
theorem dX1_readLine_72 : decode cX1_readLine 72 = .ok (.iconst 1, 1) := by decide +kernel
theorem dX1_readLine_73 : decode cX1_readLine 73 = .ok (.goto 4, 3) := by decide +kernel
theorem dX1_readLine_76 : decode cX1_readLine 76 = .ok (.iconst 0, 1) := by decide +kernel
theorem dX1_readLine_77 : decode cX1_readLine 77 = .ok (.ireturn, 1) := by decide +kernel
theorem dX1_inCommon_0 : decode cX1_inCommon 0 = .ok (.bipush 6, 2) := by decide +kernel
theorem dX1_inCommon_2 : decode cX1_inCommon 2 = .ok (.aload_n 0, 1) := by decide +kernel
theorem dX1_inCommon_3 : decode cX1_inCommon 3 = .ok (.getfield 9, 3) := by decide +kernel
theorem dX1_inCommon_6 : decode cX1_inCommon 6 = .ok (.getfield 77, 3) := by decide +kernel
theorem dX1_inCommon_9 : decode cX1_inCommon 9 = .ok (.iload_n 1, 1) := by decide +kernel
theorem dX1_inCommon_10 : decode cX1_inCommon 10 = .ok (.iaload, 1) := by decide +kernel
theorem dX1_inCommon_11 : decode cX1_inCommon 11 = .ok (.iload_n 2, 1) := by decide +kernel
theorem dX1_inCommon_12 : decode cX1_inCommon 12 = .ok (.ixor, 1) := by decide +kernel
theorem dX1_inCommon_13 : decode cX1_inCommon 13 = .ok (.invokestatic 80, 3) := by decide +kernel
theorem dX1_inCommon_16 : decode cX1_inCommon 16 = .ok (.isub, 1) := by decide +kernel
theorem dX1_inCommon_17 : decode cX1_inCommon 17 = .ok (.ireturn, 1) := by decide +kernel
theorem dX1_agrees_0 : decode cX1_agrees 0 = .ok (.iconst 0, 1) := by decide +kernel
theorem dX1_agrees_1 : decode cX1_agrees 1 = .ok (.istore_n 2, 1) := by decide +kernel
theorem dX1_agrees_2 : decode cX1_agrees 2 = .ok (.iload_n 2, 1) := by decide +kernel
theorem dX1_agrees_3 : decode cX1_agrees 3 = .ok (.aload_n 0, 1) := by decide +kernel
theorem dX1_agrees_4 : decode cX1_agrees 4 = .ok (.getfield 9, 3) := by decide +kernel
theorem dX1_agrees_7 : decode cX1_agrees 7 = .ok (.getfield 58, 3) := by decide +kernel
theorem dX1_agrees_10 : decode cX1_agrees 10 = .ok (.if_icmp .ge 36, 3) := by decide +kernel
theorem dX1_agrees_13 : decode cX1_agrees 13 = .ok (.aload_n 0, 1) := by decide +kernel
theorem dX1_agrees_14 : decode cX1_agrees 14 = .ok (.getfield 15, 3) := by decide +kernel
theorem dX1_agrees_17 : decode cX1_agrees 17 = .ok (.iload_n 2, 1) := by decide +kernel
theorem dX1_agrees_18 : decode cX1_agrees 18 = .ok (.iaload, 1) := by decide +kernel
theorem dX1_agrees_19 : decode cX1_agrees 19 = .ok (.iconst (-1), 1) := by decide +kernel
theorem dX1_agrees_20 : decode cX1_agrees 20 = .ok (.if_icmp .eq 20, 3) := by decide +kernel
theorem dX1_agrees_23 : decode cX1_agrees 23 = .ok (.aload_n 0, 1) := by decide +kernel
theorem dX1_agrees_24 : decode cX1_agrees 24 = .ok (.getfield 15, 3) := by decide +kernel
theorem dX1_agrees_27 : decode cX1_agrees 27 = .ok (.iload_n 2, 1) := by decide +kernel
theorem dX1_agrees_28 : decode cX1_agrees 28 = .ok (.iaload, 1) := by decide +kernel
theorem dX1_agrees_29 : decode cX1_agrees 29 = .ok (.aload_n 0, 1) := by decide +kernel
theorem dX1_agrees_30 : decode cX1_agrees 30 = .ok (.iload_n 2, 1) := by decide +kernel
theorem dX1_agrees_31 : decode cX1_agrees 31 = .ok (.iload_n 1, 1) := by decide +kernel
theorem dX1_agrees_32 : decode cX1_agrees 32 = .ok (.invokevirtual 85, 3) := by decide +kernel
theorem dX1_agrees_35 : decode cX1_agrees 35 = .ok (.if_icmp .eq 5, 3) := by decide +kernel
theorem dX1_agrees_38 : decode cX1_agrees 38 = .ok (.iconst 0, 1) := by decide +kernel
theorem dX1_agrees_39 : decode cX1_agrees 39 = .ok (.ireturn, 1) := by decide +kernel
theorem dX1_agrees_40 : decode cX1_agrees 40 = .ok (.iinc 2 1, 3) := by decide +kernel
theorem dX1_agrees_43 : decode cX1_agrees 43 = .ok (.goto (-41), 3) := by decide +kernel
theorem dX1_agrees_46 : decode cX1_agrees 46 = .ok (.iconst 1, 1) := by decide +kernel
theorem dX1_agrees_47 : decode cX1_agrees 47 = .ok (.ireturn, 1) := by decide +kernel
theorem dX1_fits_0 : decode cX1_fits 0 = .ok (.aload_n 0, 1) := by decide +kernel
theorem dX1_fits_1 : decode cX1_fits 1 = .ok (.getfield 34, 3) := by decide +kernel
theorem dX1_fits_4 : decode cX1_fits 4 = .ok (.iload_n 1, 1) := by decide +kernel
theorem dX1_fits_5 : decode cX1_fits 5 = .ok (.lshr, 1) := by decide +kernel
theorem dX1_fits_6 : decode cX1_fits 6 = .ok (.lconst 1, 1) := by decide +kernel
theorem dX1_fits_7 : decode cX1_fits 7 = .ok (.land, 1) := by decide +kernel
theorem dX1_fits_8 : decode cX1_fits 8 = .ok (.lconst 1, 1) := by decide +kernel
theorem dX1_fits_9 : decode cX1_fits 9 = .ok (.lcmp, 1) := by decide +kernel
theorem dX1_fits_10 : decode cX1_fits 10 = .ok (.ifCond .ne 7, 3) := by decide +kernel
theorem dX1_fits_13 : decode cX1_fits 13 = .ok (.iconst 1, 1) := by decide +kernel
theorem dX1_fits_14 : decode cX1_fits 14 = .ok (.goto 4, 3) := by decide +kernel
theorem dX1_fits_17 : decode cX1_fits 17 = .ok (.iconst 0, 1) := by decide +kernel
theorem dX1_fits_18 : decode cX1_fits 18 = .ok (.ireturn, 1) := by decide +kernel
theorem dX1_leastFace_0 : decode cX1_leastFace 0 = .ok (.iconst 0, 1) := by decide +kernel
theorem dX1_leastFace_1 : decode cX1_leastFace 1 = .ok (.istore_n 1, 1) := by decide +kernel
theorem dX1_leastFace_2 : decode cX1_leastFace 2 = .ok (.iload_n 1, 1) := by decide +kernel
theorem dX1_leastFace_3 : decode cX1_leastFace 3 = .ok (.bipush 64, 2) := by decide +kernel
theorem dX1_leastFace_5 : decode cX1_leastFace 5 = .ok (.if_icmp .ge 19, 3) := by decide +kernel
theorem dX1_leastFace_8 : decode cX1_leastFace 8 = .ok (.aload_n 0, 1) := by decide +kernel
theorem dX1_leastFace_9 : decode cX1_leastFace 9 = .ok (.iload_n 1, 1) := by decide +kernel
theorem dX1_leastFace_10 : decode cX1_leastFace 10 = .ok (.invokevirtual 89, 3) := by decide +kernel
theorem dX1_leastFace_13 : decode cX1_leastFace 13 = .ok (.ifCond .eq 5, 3) := by decide +kernel
theorem dX1_leastFace_16 : decode cX1_leastFace 16 = .ok (.iload_n 1, 1) := by decide +kernel
theorem dX1_leastFace_17 : decode cX1_leastFace 17 = .ok (.ireturn, 1) := by decide +kernel
theorem dX1_leastFace_18 : decode cX1_leastFace 18 = .ok (.iinc 1 1, 3) := by decide +kernel
theorem dX1_leastFace_21 : decode cX1_leastFace 21 = .ok (.goto (-19), 3) := by decide +kernel
theorem dX1_leastFace_24 : decode cX1_leastFace 24 = .ok (.iconst (-1), 1) := by decide +kernel
theorem dX1_leastFace_25 : decode cX1_leastFace 25 = .ok (.ireturn, 1) := by decide +kernel
theorem dX1_sureMarks_0 : decode cX1_sureMarks 0 = .ok (.aload_n 0, 1) := by decide +kernel
theorem dX1_sureMarks_1 : decode cX1_sureMarks 1 = .ok (.getfield 34, 3) := by decide +kernel
theorem dX1_sureMarks_4 : decode cX1_sureMarks 4 = .ok (.lconst 0, 1) := by decide +kernel
theorem dX1_sureMarks_5 : decode cX1_sureMarks 5 = .ok (.lcmp, 1) := by decide +kernel
theorem dX1_sureMarks_6 : decode cX1_sureMarks 6 = .ok (.ifCond .ne 7, 3) := by decide +kernel
theorem dX1_sureMarks_9 : decode cX1_sureMarks 9 = .ok (.iconst 0, 1) := by decide +kernel
theorem dX1_sureMarks_10 : decode cX1_sureMarks 10 = .ok (.goto 5, 3) := by decide +kernel
theorem dX1_sureMarks_13 : decode cX1_sureMarks 13 = .ok (.bipush 63, 2) := by decide +kernel
theorem dX1_sureMarks_15 : decode cX1_sureMarks 15 = .ok (.istore_n 2, 1) := by decide +kernel
theorem dX1_sureMarks_16 : decode cX1_sureMarks 16 = .ok (.iconst 0, 1) := by decide +kernel
theorem dX1_sureMarks_17 : decode cX1_sureMarks 17 = .ok (.istore_n 3, 1) := by decide +kernel
theorem dX1_sureMarks_18 : decode cX1_sureMarks 18 = .ok (.iload_n 3, 1) := by decide +kernel
theorem dX1_sureMarks_19 : decode cX1_sureMarks 19 = .ok (.bipush 64, 2) := by decide +kernel
theorem dX1_sureMarks_21 : decode cX1_sureMarks 21 = .ok (.if_icmp .ge 31, 3) := by decide +kernel
theorem dX1_sureMarks_24 : decode cX1_sureMarks 24 = .ok (.aload_n 0, 1) := by decide +kernel
theorem dX1_sureMarks_25 : decode cX1_sureMarks 25 = .ok (.iload_n 3, 1) := by decide +kernel
theorem dX1_sureMarks_26 : decode cX1_sureMarks 26 = .ok (.invokevirtual 89, 3) := by decide +kernel
theorem dX1_sureMarks_29 : decode cX1_sureMarks 29 = .ok (.ifCond .eq 17, 3) := by decide +kernel
theorem dX1_sureMarks_32 : decode cX1_sureMarks 32 = .ok (.iload_n 2, 1) := by decide +kernel
theorem dX1_sureMarks_33 : decode cX1_sureMarks 33 = .ok (.iload_n 1, 1) := by decide +kernel
theorem dX1_sureMarks_34 : decode cX1_sureMarks 34 = .ok (.ifCond .eq 9, 3) := by decide +kernel
theorem dX1_sureMarks_37 : decode cX1_sureMarks 37 = .ok (.iload_n 3, 1) := by decide +kernel
theorem dX1_sureMarks_38 : decode cX1_sureMarks 38 = .ok (.iconst (-1), 1) := by decide +kernel
theorem dX1_sureMarks_39 : decode cX1_sureMarks 39 = .ok (.ixor, 1) := by decide +kernel
theorem dX1_sureMarks_40 : decode cX1_sureMarks 40 = .ok (.goto 4, 3) := by decide +kernel
theorem dX1_sureMarks_43 : decode cX1_sureMarks 43 = .ok (.iload_n 3, 1) := by decide +kernel
theorem dX1_sureMarks_44 : decode cX1_sureMarks 44 = .ok (.iand, 1) := by decide +kernel
theorem dX1_sureMarks_45 : decode cX1_sureMarks 45 = .ok (.istore_n 2, 1) := by decide +kernel
theorem dX1_sureMarks_46 : decode cX1_sureMarks 46 = .ok (.iinc 3 1, 3) := by decide +kernel
theorem dX1_sureMarks_49 : decode cX1_sureMarks 49 = .ok (.goto (-31), 3) := by decide +kernel
theorem dX1_sureMarks_52 : decode cX1_sureMarks 52 = .ok (.iload_n 2, 1) := by decide +kernel
theorem dX1_sureMarks_53 : decode cX1_sureMarks 53 = .ok (.ireturn, 1) := by decide +kernel
theorem dX1_worstBy_0 : decode cX1_worstBy 0 = .ok (.iconst 0, 1) := by decide +kernel
theorem dX1_worstBy_1 : decode cX1_worstBy 1 = .ok (.istore_n 2, 1) := by decide +kernel
theorem dX1_worstBy_2 : decode cX1_worstBy 2 = .ok (.iload_n 2, 1) := by decide +kernel
theorem dX1_worstBy_3 : decode cX1_worstBy 3 = .ok (.bipush 6, 2) := by decide +kernel
theorem dX1_worstBy_5 : decode cX1_worstBy 5 = .ok (.if_icmp .gt 16, 3) := by decide +kernel
theorem dX1_worstBy_8 : decode cX1_worstBy 8 = .ok (.aload_n 0, 1) := by decide +kernel
theorem dX1_worstBy_9 : decode cX1_worstBy 9 = .ok (.getfield 22, 3) := by decide +kernel
theorem dX1_worstBy_12 : decode cX1_worstBy 12 = .ok (.iload_n 2, 1) := by decide +kernel
theorem dX1_worstBy_13 : decode cX1_worstBy 13 = .ok (.iconst 0, 1) := by decide +kernel
theorem dX1_worstBy_14 : decode cX1_worstBy 14 = .ok (.iastore, 1) := by decide +kernel
theorem dX1_worstBy_15 : decode cX1_worstBy 15 = .ok (.iinc 2 1, 3) := by decide +kernel
theorem dX1_worstBy_18 : decode cX1_worstBy 18 = .ok (.goto (-16), 3) := by decide +kernel
theorem dX1_worstBy_21 : decode cX1_worstBy 21 = .ok (.iconst 0, 1) := by decide +kernel
theorem dX1_worstBy_22 : decode cX1_worstBy 22 = .ok (.istore_n 2, 1) := by decide +kernel
theorem dX1_worstBy_23 : decode cX1_worstBy 23 = .ok (.iconst 0, 1) := by decide +kernel
theorem dX1_worstBy_24 : decode cX1_worstBy 24 = .ok (.istore_n 3, 1) := by decide +kernel
theorem dX1_worstBy_25 : decode cX1_worstBy 25 = .ok (.iload_n 3, 1) := by decide +kernel
theorem dX1_worstBy_26 : decode cX1_worstBy 26 = .ok (.bipush 64, 2) := by decide +kernel
theorem dX1_worstBy_28 : decode cX1_worstBy 28 = .ok (.if_icmp .ge 48, 3) := by decide +kernel
theorem dX1_worstBy_31 : decode cX1_worstBy 31 = .ok (.aload_n 0, 1) := by decide +kernel
theorem dX1_worstBy_32 : decode cX1_worstBy 32 = .ok (.iload_n 3, 1) := by decide +kernel
theorem dX1_worstBy_33 : decode cX1_worstBy 33 = .ok (.invokevirtual 89, 3) := by decide +kernel
theorem dX1_worstBy_36 : decode cX1_worstBy 36 = .ok (.ifCond .eq 34, 3) := by decide +kernel
theorem dX1_worstBy_39 : decode cX1_worstBy 39 = .ok (.aload_n 0, 1) := by decide +kernel
theorem dX1_worstBy_40 : decode cX1_worstBy 40 = .ok (.iload_n 1, 1) := by decide +kernel
theorem dX1_worstBy_41 : decode cX1_worstBy 41 = .ok (.iload_n 3, 1) := by decide +kernel
theorem dX1_worstBy_42 : decode cX1_worstBy 42 = .ok (.invokevirtual 85, 3) := by decide +kernel
theorem dX1_worstBy_45 : decode cX1_worstBy 45 = .ok (.istore 4, 2) := by decide +kernel
theorem dX1_worstBy_47 : decode cX1_worstBy 47 = .ok (.aload_n 0, 1) := by decide +kernel
theorem dX1_worstBy_48 : decode cX1_worstBy 48 = .ok (.getfield 22, 3) := by decide +kernel
theorem dX1_worstBy_51 : decode cX1_worstBy 51 = .ok (.iload 4, 2) := by decide +kernel
theorem dX1_worstBy_53 : decode cX1_worstBy 53 = .ok (.dup2, 1) := by decide +kernel
theorem dX1_worstBy_54 : decode cX1_worstBy 54 = .ok (.iaload, 1) := by decide +kernel
theorem dX1_worstBy_55 : decode cX1_worstBy 55 = .ok (.iconst 1, 1) := by decide +kernel
theorem dX1_worstBy_56 : decode cX1_worstBy 56 = .ok (.iadd, 1) := by decide +kernel
theorem dX1_worstBy_57 : decode cX1_worstBy 57 = .ok (.iastore, 1) := by decide +kernel
theorem dX1_worstBy_58 : decode cX1_worstBy 58 = .ok (.iload_n 2, 1) := by decide +kernel
theorem dX1_worstBy_59 : decode cX1_worstBy 59 = .ok (.aload_n 0, 1) := by decide +kernel
theorem dX1_worstBy_60 : decode cX1_worstBy 60 = .ok (.getfield 22, 3) := by decide +kernel
theorem dX1_worstBy_63 : decode cX1_worstBy 63 = .ok (.iload 4, 2) := by decide +kernel
theorem dX1_worstBy_65 : decode cX1_worstBy 65 = .ok (.iaload, 1) := by decide +kernel
theorem dX1_worstBy_66 : decode cX1_worstBy 66 = .ok (.invokestatic 92, 3) := by decide +kernel
theorem dX1_worstBy_69 : decode cX1_worstBy 69 = .ok (.istore_n 2, 1) := by decide +kernel
theorem dX1_worstBy_70 : decode cX1_worstBy 70 = .ok (.iinc 3 1, 3) := by decide +kernel
theorem dX1_worstBy_73 : decode cX1_worstBy 73 = .ok (.goto (-48), 3) := by decide +kernel
theorem dX1_worstBy_76 : decode cX1_worstBy 76 = .ok (.iload_n 2, 1) := by decide +kernel
theorem dX1_worstBy_77 : decode cX1_worstBy 77 = .ok (.ireturn, 1) := by decide +kernel
theorem dX2_init_0 : decode cX2_init 0 = .ok (.aload_n 0, 1) := by decide +kernel
theorem dX2_init_1 : decode cX2_init 1 = .ok (.invokespecial 3, 3) := by decide +kernel
theorem dX2_init_4 : decode cX2_init 4 = .ok (.aload_n 0, 1) := by decide +kernel
theorem dX2_init_5 : decode cX2_init 5 = .ok (.bipush 8, 2) := by decide +kernel
theorem dX2_init_7 : decode cX2_init 7 = .ok (.newarray .int, 2) := by decide +kernel
theorem dX2_init_9 : decode cX2_init 9 = .ok (.putfield 9, 3) := by decide +kernel
theorem dX2_init_12 : decode cX2_init 12 = .ok (.aload_n 0, 1) := by decide +kernel
theorem dX2_init_13 : decode cX2_init 13 = .ok (.bipush 8, 2) := by decide +kernel
theorem dX2_init_15 : decode cX2_init 15 = .ok (.newarray .int, 2) := by decide +kernel
theorem dX2_init_17 : decode cX2_init 17 = .ok (.putfield 15, 3) := by decide +kernel
theorem dX2_init_20 : decode cX2_init 20 = .ok (.aload_n 0, 1) := by decide +kernel
theorem dX2_init_21 : decode cX2_init 21 = .ok (.bipush 8, 2) := by decide +kernel
theorem dX2_init_23 : decode cX2_init 23 = .ok (.newarray .int, 2) := by decide +kernel
theorem dX2_init_25 : decode cX2_init 25 = .ok (.putfield 18, 3) := by decide +kernel
theorem dX2_init_28 : decode cX2_init 28 = .ok (.aload_n 0, 1) := by decide +kernel
theorem dX2_init_29 : decode cX2_init 29 = .ok (.bipush 8, 2) := by decide +kernel
theorem dX2_init_31 : decode cX2_init 31 = .ok (.newarray .int, 2) := by decide +kernel
theorem dX2_init_33 : decode cX2_init 33 = .ok (.putfield 21, 3) := by decide +kernel
theorem dX2_init_36 : decode cX2_init 36 = .ok (.aload_n 0, 1) := by decide +kernel
theorem dX2_init_37 : decode cX2_init 37 = .ok (.iconst 1, 1) := by decide +kernel
theorem dX2_init_38 : decode cX2_init 38 = .ok (.putfield 24, 3) := by decide +kernel
theorem dX2_init_41 : decode cX2_init 41 = .ok (.return_, 1) := by decide +kernel
theorem dX2_copyFrom_0 : decode cX2_copyFrom 0 = .ok (.aload_n 1, 1) := by decide +kernel
theorem dX2_copyFrom_1 : decode cX2_copyFrom 1 = .ok (.getfield 9, 3) := by decide +kernel
theorem dX2_copyFrom_4 : decode cX2_copyFrom 4 = .ok (.iconst 0, 1) := by decide +kernel
theorem dX2_copyFrom_5 : decode cX2_copyFrom 5 = .ok (.aload_n 0, 1) := by decide +kernel
theorem dX2_copyFrom_6 : decode cX2_copyFrom 6 = .ok (.getfield 9, 3) := by decide +kernel
theorem dX2_copyFrom_9 : decode cX2_copyFrom 9 = .ok (.iconst 0, 1) := by decide +kernel
theorem dX2_copyFrom_10 : decode cX2_copyFrom 10 = .ok (.bipush 8, 2) := by decide +kernel
theorem dX2_copyFrom_12 : decode cX2_copyFrom 12 = .ok (.invokestatic 28, 3) := by decide +kernel
theorem dX2_copyFrom_15 : decode cX2_copyFrom 15 = .ok (.aload_n 1, 1) := by decide +kernel
theorem dX2_copyFrom_16 : decode cX2_copyFrom 16 = .ok (.getfield 15, 3) := by decide +kernel
theorem dX2_copyFrom_19 : decode cX2_copyFrom 19 = .ok (.iconst 0, 1) := by decide +kernel
theorem dX2_copyFrom_20 : decode cX2_copyFrom 20 = .ok (.aload_n 0, 1) := by decide +kernel
theorem dX2_copyFrom_21 : decode cX2_copyFrom 21 = .ok (.getfield 15, 3) := by decide +kernel
theorem dX2_copyFrom_24 : decode cX2_copyFrom 24 = .ok (.iconst 0, 1) := by decide +kernel
theorem dX2_copyFrom_25 : decode cX2_copyFrom 25 = .ok (.bipush 8, 2) := by decide +kernel
theorem dX2_copyFrom_27 : decode cX2_copyFrom 27 = .ok (.invokestatic 28, 3) := by decide +kernel
theorem dX2_copyFrom_30 : decode cX2_copyFrom 30 = .ok (.aload_n 1, 1) := by decide +kernel
theorem dX2_copyFrom_31 : decode cX2_copyFrom 31 = .ok (.getfield 18, 3) := by decide +kernel
theorem dX2_copyFrom_34 : decode cX2_copyFrom 34 = .ok (.iconst 0, 1) := by decide +kernel
theorem dX2_copyFrom_35 : decode cX2_copyFrom 35 = .ok (.aload_n 0, 1) := by decide +kernel
theorem dX2_copyFrom_36 : decode cX2_copyFrom 36 = .ok (.getfield 18, 3) := by decide +kernel
theorem dX2_copyFrom_39 : decode cX2_copyFrom 39 = .ok (.iconst 0, 1) := by decide +kernel
theorem dX2_copyFrom_40 : decode cX2_copyFrom 40 = .ok (.bipush 8, 2) := by decide +kernel
theorem dX2_copyFrom_42 : decode cX2_copyFrom 42 = .ok (.invokestatic 28, 3) := by decide +kernel
theorem dX2_copyFrom_45 : decode cX2_copyFrom 45 = .ok (.aload_n 1, 1) := by decide +kernel
theorem dX2_copyFrom_46 : decode cX2_copyFrom 46 = .ok (.getfield 21, 3) := by decide +kernel
theorem dX2_copyFrom_49 : decode cX2_copyFrom 49 = .ok (.iconst 0, 1) := by decide +kernel
theorem dX2_copyFrom_50 : decode cX2_copyFrom 50 = .ok (.aload_n 0, 1) := by decide +kernel
theorem dX2_copyFrom_51 : decode cX2_copyFrom 51 = .ok (.getfield 21, 3) := by decide +kernel
theorem dX2_copyFrom_54 : decode cX2_copyFrom 54 = .ok (.iconst 0, 1) := by decide +kernel
theorem dX2_copyFrom_55 : decode cX2_copyFrom 55 = .ok (.bipush 8, 2) := by decide +kernel
theorem dX2_copyFrom_57 : decode cX2_copyFrom 57 = .ok (.invokestatic 28, 3) := by decide +kernel
theorem dX2_copyFrom_60 : decode cX2_copyFrom 60 = .ok (.aload_n 0, 1) := by decide +kernel
theorem dX2_copyFrom_61 : decode cX2_copyFrom 61 = .ok (.aload_n 1, 1) := by decide +kernel
theorem dX2_copyFrom_62 : decode cX2_copyFrom 62 = .ok (.getfield 34, 3) := by decide +kernel
theorem dX2_copyFrom_65 : decode cX2_copyFrom 65 = .ok (.putfield 34, 3) := by decide +kernel
theorem dX2_copyFrom_68 : decode cX2_copyFrom 68 = .ok (.aload_n 0, 1) := by decide +kernel
theorem dX2_copyFrom_69 : decode cX2_copyFrom 69 = .ok (.aload_n 1, 1) := by decide +kernel
theorem dX2_copyFrom_70 : decode cX2_copyFrom 70 = .ok (.getfield 24, 3) := by decide +kernel
theorem dX2_copyFrom_73 : decode cX2_copyFrom 73 = .ok (.putfield 24, 3) := by decide +kernel
theorem dX2_copyFrom_76 : decode cX2_copyFrom 76 = .ok (.return_, 1) := by decide +kernel
theorem dX2_read_0 : decode cX2_read 0 = .ok (.aload_n 0, 1) := by decide +kernel
theorem dX2_read_1 : decode cX2_read 1 = .ok (.iconst 0, 1) := by decide +kernel
theorem dX2_read_2 : decode cX2_read 2 = .ok (.putfield 34, 3) := by decide +kernel
theorem dX2_read_5 : decode cX2_read 5 = .ok (.aload_n 0, 1) := by decide +kernel
theorem dX2_read_6 : decode cX2_read 6 = .ok (.iconst 1, 1) := by decide +kernel
theorem dX2_read_7 : decode cX2_read 7 = .ok (.putfield 24, 3) := by decide +kernel
theorem dX2_read_10 : decode cX2_read 10 = .ok (.iconst 0, 1) := by decide +kernel
theorem dX2_read_11 : decode cX2_read 11 = .ok (.istore_n 2, 1) := by decide +kernel
theorem dX2_read_12 : decode cX2_read 12 = .ok (.iload_n 2, 1) := by decide +kernel
theorem dX2_read_13 : decode cX2_read 13 = .ok (.bipush 60, 2) := by decide +kernel
theorem dX2_read_15 : decode cX2_read 15 = .ok (.if_icmp .gt 27, 3) := by decide +kernel
theorem dX2_read_18 : decode cX2_read 18 = .ok (.aload_n 1, 1) := by decide +kernel
theorem dX2_read_19 : decode cX2_read 19 = .ok (.invokevirtual 37, 3) := by decide +kernel
theorem dX2_read_22 : decode cX2_read 22 = .ok (.ifCond .ne 20, 3) := by decide +kernel
theorem dX2_read_25 : decode cX2_read 25 = .ok (.aload_n 0, 1) := by decide +kernel
theorem dX2_read_26 : decode cX2_read 26 = .ok (.aload_n 1, 1) := by decide +kernel
theorem dX2_read_27 : decode cX2_read 27 = .ok (.iload_n 2, 1) := by decide +kernel
theorem dX2_read_28 : decode cX2_read 28 = .ok (.invokevirtual 43, 3) := by decide +kernel
theorem dX2_read_31 : decode cX2_read 31 = .ok (.ifCond .ne 5, 3) := by decide +kernel
theorem dX2_read_34 : decode cX2_read 34 = .ok (.iconst 0, 1) := by decide +kernel
theorem dX2_read_35 : decode cX2_read 35 = .ok (.ireturn, 1) := by decide +kernel
theorem dX2_read_36 : decode cX2_read 36 = .ok (.iinc 2 1, 3) := by decide +kernel
theorem dX2_read_39 : decode cX2_read 39 = .ok (.goto (-27), 3) := by decide +kernel
theorem dX2_read_42 : decode cX2_read 42 = .ok (.iconst 1, 1) := by decide +kernel
theorem dX2_read_43 : decode cX2_read 43 = .ok (.ireturn, 1) := by decide +kernel
theorem dX2_readClause_0 : decode cX2_readClause 0 = .ok (.aload_n 1, 1) := by decide +kernel
theorem dX2_readClause_1 : decode cX2_readClause 1 = .ok (.ldc 47, 2) := by decide +kernel
theorem dX2_readClause_3 : decode cX2_readClause 3 = .ok (.invokevirtual 49, 3) := by decide +kernel
theorem dX2_readClause_6 : decode cX2_readClause 6 = .ok (.istore_n 3, 1) := by decide +kernel
theorem dX2_readClause_7 : decode cX2_readClause 7 = .ok (.iload_n 3, 1) := by decide +kernel
theorem dX2_readClause_8 : decode cX2_readClause 8 = .ok (.iconst (-1), 1) := by decide +kernel
theorem dX2_readClause_9 : decode cX2_readClause 9 = .ok (.if_icmp .ne 5, 3) := by decide +kernel
theorem dX2_readClause_12 : decode cX2_readClause 12 = .ok (.iconst 0, 1) := by decide +kernel
theorem dX2_readClause_13 : decode cX2_readClause 13 = .ok (.ireturn, 1) := by decide +kernel
theorem dX2_readClause_14 : decode cX2_readClause 14 = .ok (.iload_n 2, 1) := by decide +kernel
theorem dX2_readClause_15 : decode cX2_readClause 15 = .ok (.bipush 60, 2) := by decide +kernel
theorem dX2_readClause_17 : decode cX2_readClause 17 = .ok (.if_icmp .ge 16, 3) := by decide +kernel
theorem dX2_readClause_20 : decode cX2_readClause 20 = .ok (.iload_n 3, 1) := by decide +kernel
theorem dX2_readClause_21 : decode cX2_readClause 21 = .ok (.ifCond .ne 22, 3) := by decide +kernel
theorem dX2_readClause_24 : decode cX2_readClause 24 = .ok (.aload_n 0, 1) := by decide +kernel
theorem dX2_readClause_25 : decode cX2_readClause 25 = .ok (.getfield 34, 3) := by decide +kernel
theorem dX2_readClause_28 : decode cX2_readClause 28 = .ok (.bipush 8, 2) := by decide +kernel
theorem dX2_readClause_30 : decode cX2_readClause 30 = .ok (.if_icmp .lt 13, 3) := by decide +kernel
theorem dX2_readClause_33 : decode cX2_readClause 33 = .ok (.aload_n 1, 1) := by decide +kernel
theorem dX2_readClause_34 : decode cX2_readClause 34 = .ok (.iconst 3, 1) := by decide +kernel
theorem dX2_readClause_35 : decode cX2_readClause 35 = .ok (.aload_n 1, 1) := by decide +kernel
theorem dX2_readClause_36 : decode cX2_readClause 36 = .ok (.getfield 53, 3) := by decide +kernel
theorem dX2_readClause_39 : decode cX2_readClause 39 = .ok (.invokevirtual 56, 3) := by decide +kernel
theorem dX2_readClause_42 : decode cX2_readClause 42 = .ok (.ireturn, 1) := by decide +kernel
theorem dX2_readClause_43 : decode cX2_readClause 43 = .ok (.iload_n 3, 1) := by decide +kernel
theorem dX2_readClause_44 : decode cX2_readClause 44 = .ok (.ifCond .ne 11, 3) := by decide +kernel
theorem dX2_readClause_47 : decode cX2_readClause 47 = .ok (.aload_n 0, 1) := by decide +kernel
theorem dX2_readClause_48 : decode cX2_readClause 48 = .ok (.aload_n 1, 1) := by decide +kernel
theorem dX2_readClause_49 : decode cX2_readClause 49 = .ok (.invokevirtual 60, 3) := by decide +kernel
theorem dX2_readClause_52 : decode cX2_readClause 52 = .ok (.goto 21, 3) := by decide +kernel
theorem dX2_readClause_55 : decode cX2_readClause 55 = .ok (.iload_n 3, 1) := by decide +kernel
theorem dX2_readClause_56 : decode cX2_readClause 56 = .ok (.iconst 1, 1) := by decide +kernel
theorem dX2_readClause_57 : decode cX2_readClause 57 = .ok (.if_icmp .ne 11, 3) := by decide +kernel
theorem dX2_readClause_60 : decode cX2_readClause 60 = .ok (.aload_n 0, 1) := by decide +kernel
theorem dX2_readClause_61 : decode cX2_readClause 61 = .ok (.aload_n 1, 1) := by decide +kernel
theorem dX2_readClause_62 : decode cX2_readClause 62 = .ok (.invokevirtual 64, 3) := by decide +kernel
theorem dX2_readClause_65 : decode cX2_readClause 65 = .ok (.goto 8, 3) := by decide +kernel
theorem dX2_readClause_68 : decode cX2_readClause 68 = .ok (.aload_n 0, 1) := by decide +kernel
theorem dX2_readClause_69 : decode cX2_readClause 69 = .ok (.aload_n 1, 1) := by decide +kernel
theorem dX2_readClause_70 : decode cX2_readClause 70 = .ok (.invokevirtual 67, 3) := by decide +kernel
theorem dX2_readClause_73 : decode cX2_readClause 73 = .ok (.istore 4, 2) := by decide +kernel
theorem dX2_readClause_75 : decode cX2_readClause 75 = .ok (.iload 4, 2) := by decide +kernel
theorem dX2_readClause_77 : decode cX2_readClause 77 = .ok (.ifCond .eq 16, 3) := by decide +kernel
theorem dX2_readClause_80 : decode cX2_readClause 80 = .ok (.aload_n 1, 1) := by decide +kernel
theorem dX2_readClause_81 : decode cX2_readClause 81 = .ok (.bipush 59, 2) := by decide +kernel
theorem dX2_readClause_83 : decode cX2_readClause 83 = .ok (.invokevirtual 70, 3) := by decide +kernel
theorem dX2_readClause_86 : decode cX2_readClause 86 = .ok (.ifCond .eq 7, 3) := by decide +kernel
theorem dX2_readClause_89 : decode cX2_readClause 89 = .ok (.iconst 1, 1) := by decide +kernel
theorem dX2_readClause_90 : decode cX2_readClause 90 = .ok (.goto 4, 3) := by decide +kernel
theorem dX2_readClause_93 : decode cX2_readClause 93 = .ok (.iconst 0, 1) := by decide +kernel
theorem dX2_readClause_94 : decode cX2_readClause 94 = .ok (.ireturn, 1) := by decide +kernel
theorem dX2_readPerson_0 : decode cX2_readPerson 0 = .ok (.aload_n 1, 1) := by decide +kernel
theorem dX2_readPerson_1 : decode cX2_readPerson 1 = .ok (.bipush 63, 2) := by decide +kernel
theorem dX2_readPerson_3 : decode cX2_readPerson 3 = .ok (.invokevirtual 74, 3) := by decide +kernel
theorem dX2_readPerson_6 : decode cX2_readPerson 6 = .ok (.istore_n 2, 1) := by decide +kernel
theorem dX2_readPerson_7 : decode cX2_readPerson 7 = .ok (.iload_n 2, 1) := by decide +kernel
theorem dX2_readPerson_8 : decode cX2_readPerson 8 = .ok (.iconst (-1), 1) := by decide +kernel
theorem dX2_readPerson_9 : decode cX2_readPerson 9 = .ok (.if_icmp .ne 7, 3) := by decide +kernel
theorem dX2_readPerson_12 : decode cX2_readPerson 12 = .ok (.iconst (-1), 1) := by decide +kernel
theorem dX2_readPerson_13 : decode cX2_readPerson 13 = .ok (.goto 9, 3) := by decide +kernel
theorem dX2_readPerson_16 : decode cX2_readPerson 16 = .ok (.aload_n 1, 1) := by decide +kernel
theorem dX2_readPerson_17 : decode cX2_readPerson 17 = .ok (.bipush 9, 2) := by decide +kernel
theorem dX2_readPerson_19 : decode cX2_readPerson 19 = .ok (.invokevirtual 74, 3) := by decide +kernel
theorem dX2_readPerson_22 : decode cX2_readPerson 22 = .ok (.istore_n 3, 1) := by decide +kernel
theorem dX2_readPerson_23 : decode cX2_readPerson 23 = .ok (.iload_n 3, 1) := by decide +kernel
theorem dX2_readPerson_24 : decode cX2_readPerson 24 = .ok (.iconst (-1), 1) := by decide +kernel
theorem dX2_readPerson_25 : decode cX2_readPerson 25 = .ok (.if_icmp .ne 7, 3) := by decide +kernel
theorem dX2_readPerson_28 : decode cX2_readPerson 28 = .ok (.iconst (-1), 1) := by decide +kernel
theorem dX2_readPerson_29 : decode cX2_readPerson 29 = .ok (.goto 9, 3) := by decide +kernel
theorem dX2_readPerson_32 : decode cX2_readPerson 32 = .ok (.aload_n 1, 1) := by decide +kernel
theorem dX2_readPerson_33 : decode cX2_readPerson 33 = .ok (.bipush 40, 2) := by decide +kernel
theorem dX2_readPerson_35 : decode cX2_readPerson 35 = .ok (.invokevirtual 74, 3) := by decide +kernel
theorem dX2_readPerson_38 : decode cX2_readPerson 38 = .ok (.istore 4, 2) := by decide +kernel
theorem dX2_readPerson_40 : decode cX2_readPerson 40 = .ok (.iload 4, 2) := by decide +kernel
theorem dX2_readPerson_42 : decode cX2_readPerson 42 = .ok (.iconst (-1), 1) := by decide +kernel
theorem dX2_readPerson_43 : decode cX2_readPerson 43 = .ok (.if_icmp .eq 12, 3) := by decide +kernel
theorem dX2_readPerson_46 : decode cX2_readPerson 46 = .ok (.aload_n 0, 1) := by decide +kernel
theorem dX2_readPerson_47 : decode cX2_readPerson 47 = .ok (.getfield 34, 3) := by decide +kernel
theorem dX2_readPerson_50 : decode cX2_readPerson 50 = .ok (.bipush 8, 2) := by decide +kernel
theorem dX2_readPerson_52 : decode cX2_readPerson 52 = .ok (.if_icmp .lt 5, 3) := by decide +kernel
theorem dX2_readPerson_55 : decode cX2_readPerson 55 = .ok (.iconst 0, 1) := by decide +kernel
theorem dX2_readPerson_56 : decode cX2_readPerson 56 = .ok (.ireturn, 1) := by decide +kernel
theorem dX2_readPerson_57 : decode cX2_readPerson 57 = .ok (.aload_n 0, 1) := by decide +kernel
theorem dX2_readPerson_58 : decode cX2_readPerson 58 = .ok (.getfield 9, 3) := by decide +kernel
theorem dX2_readPerson_61 : decode cX2_readPerson 61 = .ok (.aload_n 0, 1) := by decide +kernel
theorem dX2_readPerson_62 : decode cX2_readPerson 62 = .ok (.getfield 34, 3) := by decide +kernel
theorem dX2_readPerson_65 : decode cX2_readPerson 65 = .ok (.iload_n 2, 1) := by decide +kernel
theorem dX2_readPerson_66 : decode cX2_readPerson 66 = .ok (.iastore, 1) := by decide +kernel
theorem dX2_readPerson_67 : decode cX2_readPerson 67 = .ok (.aload_n 0, 1) := by decide +kernel
theorem dX2_readPerson_68 : decode cX2_readPerson 68 = .ok (.getfield 15, 3) := by decide +kernel
theorem dX2_readPerson_71 : decode cX2_readPerson 71 = .ok (.aload_n 0, 1) := by decide +kernel
theorem dX2_readPerson_72 : decode cX2_readPerson 72 = .ok (.getfield 34, 3) := by decide +kernel
theorem dX2_readPerson_75 : decode cX2_readPerson 75 = .ok (.iload_n 3, 1) := by decide +kernel
theorem dX2_readPerson_76 : decode cX2_readPerson 76 = .ok (.iastore, 1) := by decide +kernel
theorem dX2_readPerson_77 : decode cX2_readPerson 77 = .ok (.aload_n 0, 1) := by decide +kernel
theorem dX2_readPerson_78 : decode cX2_readPerson 78 = .ok (.getfield 18, 3) := by decide +kernel
theorem dX2_readPerson_81 : decode cX2_readPerson 81 = .ok (.aload_n 0, 1) := by decide +kernel
theorem dX2_readPerson_82 : decode cX2_readPerson 82 = .ok (.getfield 34, 3) := by decide +kernel
theorem dX2_readPerson_85 : decode cX2_readPerson 85 = .ok (.iload 4, 2) := by decide +kernel
theorem dX2_readPerson_87 : decode cX2_readPerson 87 = .ok (.iastore, 1) := by decide +kernel
theorem dX2_readPerson_88 : decode cX2_readPerson 88 = .ok (.aload_n 0, 1) := by decide +kernel
theorem dX2_readPerson_89 : decode cX2_readPerson 89 = .ok (.getfield 21, 3) := by decide +kernel
theorem dX2_readPerson_92 : decode cX2_readPerson 92 = .ok (.aload_n 0, 1) := by decide +kernel
theorem dX2_readPerson_93 : decode cX2_readPerson 93 = .ok (.getfield 34, 3) := by decide +kernel
theorem dX2_readPerson_96 : decode cX2_readPerson 96 = .ok (.iconst 0, 1) := by decide +kernel
theorem dX2_readPerson_97 : decode cX2_readPerson 97 = .ok (.iastore, 1) := by decide +kernel
theorem dX2_readPerson_98 : decode cX2_readPerson 98 = .ok (.aload_n 0, 1) := by decide +kernel
theorem dX2_readPerson_99 : decode cX2_readPerson 99 = .ok (.dup, 1) := by decide +kernel
theorem dX2_readPerson_100 : decode cX2_readPerson 100 = .ok (.getfield 34, 3) := by decide +kernel
theorem dX2_readPerson_103 : decode cX2_readPerson 103 = .ok (.iconst 1, 1) := by decide +kernel
theorem dX2_readPerson_104 : decode cX2_readPerson 104 = .ok (.iadd, 1) := by decide +kernel
theorem dX2_readPerson_105 : decode cX2_readPerson 105 = .ok (.putfield 34, 3) := by decide +kernel
theorem dX2_readPerson_108 : decode cX2_readPerson 108 = .ok (.iconst 1, 1) := by decide +kernel
theorem dX2_readPerson_109 : decode cX2_readPerson 109 = .ok (.ireturn, 1) := by decide +kernel
theorem dX2_readShy_0 : decode cX2_readShy 0 = .ok (.aload_n 1, 1) := by decide +kernel
theorem dX2_readShy_1 : decode cX2_readShy 1 = .ok (.aload_n 0, 1) := by decide +kernel
theorem dX2_readShy_2 : decode cX2_readShy 2 = .ok (.getfield 34, 3) := by decide +kernel
theorem dX2_readShy_5 : decode cX2_readShy 5 = .ok (.iconst 1, 1) := by decide +kernel
theorem dX2_readShy_6 : decode cX2_readShy 6 = .ok (.isub, 1) := by decide +kernel
theorem dX2_readShy_7 : decode cX2_readShy 7 = .ok (.invokevirtual 74, 3) := by decide +kernel
theorem dX2_readShy_10 : decode cX2_readShy 10 = .ok (.istore_n 2, 1) := by decide +kernel
theorem dX2_readShy_11 : decode cX2_readShy 11 = .ok (.iload_n 2, 1) := by decide +kernel
theorem dX2_readShy_12 : decode cX2_readShy 12 = .ok (.iconst (-1), 1) := by decide +kernel
theorem dX2_readShy_13 : decode cX2_readShy 13 = .ok (.if_icmp .ne 7, 3) := by decide +kernel
theorem dX2_readShy_16 : decode cX2_readShy 16 = .ok (.iconst (-1), 1) := by decide +kernel
theorem dX2_readShy_17 : decode cX2_readShy 17 = .ok (.goto 13, 3) := by decide +kernel
theorem dX2_readShy_20 : decode cX2_readShy 20 = .ok (.aload_n 1, 1) := by decide +kernel
theorem dX2_readShy_21 : decode cX2_readShy 21 = .ok (.aload_n 0, 1) := by decide +kernel
theorem dX2_readShy_22 : decode cX2_readShy 22 = .ok (.getfield 34, 3) := by decide +kernel
theorem dX2_readShy_25 : decode cX2_readShy 25 = .ok (.iconst 1, 1) := by decide +kernel
theorem dX2_readShy_26 : decode cX2_readShy 26 = .ok (.isub, 1) := by decide +kernel
theorem dX2_readShy_27 : decode cX2_readShy 27 = .ok (.invokevirtual 74, 3) := by decide +kernel
theorem dX2_readShy_30 : decode cX2_readShy 30 = .ok (.istore_n 3, 1) := by decide +kernel
theorem dX2_readShy_31 : decode cX2_readShy 31 = .ok (.iload_n 3, 1) := by decide +kernel
theorem dX2_readShy_32 : decode cX2_readShy 32 = .ok (.iconst (-1), 1) := by decide +kernel
theorem dX2_readShy_33 : decode cX2_readShy 33 = .ok (.if_icmp .ne 5, 3) := by decide +kernel
theorem dX2_readShy_36 : decode cX2_readShy 36 = .ok (.iconst 0, 1) := by decide +kernel
theorem dX2_readShy_37 : decode cX2_readShy 37 = .ok (.ireturn, 1) := by decide +kernel
theorem dX2_readShy_38 : decode cX2_readShy 38 = .ok (.aload_n 0, 1) := by decide +kernel
theorem dX2_readShy_39 : decode cX2_readShy 39 = .ok (.getfield 21, 3) := by decide +kernel
theorem dX2_readShy_42 : decode cX2_readShy 42 = .ok (.iload_n 2, 1) := by decide +kernel
theorem dX2_readShy_43 : decode cX2_readShy 43 = .ok (.dup2, 1) := by decide +kernel
theorem dX2_readShy_44 : decode cX2_readShy 44 = .ok (.iaload, 1) := by decide +kernel
theorem dX2_readShy_45 : decode cX2_readShy 45 = .ok (.iconst 1, 1) := by decide +kernel
theorem dX2_readShy_46 : decode cX2_readShy 46 = .ok (.iload_n 3, 1) := by decide +kernel
theorem dX2_readShy_47 : decode cX2_readShy 47 = .ok (.ishl, 1) := by decide +kernel
theorem dX2_readShy_48 : decode cX2_readShy 48 = .ok (.ior, 1) := by decide +kernel
theorem dX2_readShy_49 : decode cX2_readShy 49 = .ok (.iastore, 1) := by decide +kernel
theorem dX2_readShy_50 : decode cX2_readShy 50 = .ok (.iconst 1, 1) := by decide +kernel
theorem dX2_readShy_51 : decode cX2_readShy 51 = .ok (.ireturn, 1) := by decide +kernel
theorem dX2_readLike_0 : decode cX2_readLike 0 = .ok (.aload_n 1, 1) := by decide +kernel
theorem dX2_readLike_1 : decode cX2_readLike 1 = .ok (.bipush 6, 2) := by decide +kernel
theorem dX2_readLike_3 : decode cX2_readLike 3 = .ok (.invokevirtual 74, 3) := by decide +kernel
theorem dX2_readLike_6 : decode cX2_readLike 6 = .ok (.istore_n 2, 1) := by decide +kernel
theorem dX2_readLike_7 : decode cX2_readLike 7 = .ok (.iload_n 2, 1) := by decide +kernel
theorem dX2_readLike_8 : decode cX2_readLike 8 = .ok (.iconst (-1), 1) := by decide +kernel
theorem dX2_readLike_9 : decode cX2_readLike 9 = .ok (.if_icmp .ne 5, 3) := by decide +kernel
theorem dX2_readLike_12 : decode cX2_readLike 12 = .ok (.iconst 0, 1) := by decide +kernel
theorem dX2_readLike_13 : decode cX2_readLike 13 = .ok (.ireturn, 1) := by decide +kernel
theorem dX2_readLike_14 : decode cX2_readLike 14 = .ok (.aload_n 0, 1) := by decide +kernel
theorem dX2_readLike_15 : decode cX2_readLike 15 = .ok (.iload_n 2, 1) := by decide +kernel
theorem dX2_readLike_16 : decode cX2_readLike 16 = .ok (.putfield 24, 3) := by decide +kernel
theorem dX2_readLike_19 : decode cX2_readLike 19 = .ok (.iconst 1, 1) := by decide +kernel
theorem dX2_readLike_20 : decode cX2_readLike 20 = .ok (.ireturn, 1) := by decide +kernel
theorem dX2_everybody_0 : decode cX2_everybody 0 = .ok (.iconst 1, 1) := by decide +kernel
theorem dX2_everybody_1 : decode cX2_everybody 1 = .ok (.aload_n 0, 1) := by decide +kernel
theorem dX2_everybody_2 : decode cX2_everybody 2 = .ok (.getfield 34, 3) := by decide +kernel
theorem dX2_everybody_5 : decode cX2_everybody 5 = .ok (.ishl, 1) := by decide +kernel
theorem dX2_everybody_6 : decode cX2_everybody 6 = .ok (.iconst 1, 1) := by decide +kernel
theorem dX2_everybody_7 : decode cX2_everybody 7 = .ok (.isub, 1) := by decide +kernel
theorem dX2_everybody_8 : decode cX2_everybody 8 = .ok (.ireturn, 1) := by decide +kernel
theorem dX2_alike_0 : decode cX2_alike 0 = .ok (.iload_n 1, 1) := by decide +kernel
theorem dX2_alike_1 : decode cX2_alike 1 = .ok (.iload_n 2, 1) := by decide +kernel
theorem dX2_alike_2 : decode cX2_alike 2 = .ok (.ixor, 1) := by decide +kernel
theorem dX2_alike_3 : decode cX2_alike 3 = .ok (.invokestatic 78, 3) := by decide +kernel
theorem dX2_alike_6 : decode cX2_alike 6 = .ok (.aload_n 0, 1) := by decide +kernel
theorem dX2_alike_7 : decode cX2_alike 7 = .ok (.getfield 24, 3) := by decide +kernel
theorem dX2_alike_10 : decode cX2_alike 10 = .ok (.if_icmp .gt 7, 3) := by decide +kernel
theorem dX2_alike_13 : decode cX2_alike 13 = .ok (.iconst 1, 1) := by decide +kernel
theorem dX2_alike_14 : decode cX2_alike 14 = .ok (.goto 4, 3) := by decide +kernel
theorem dX2_alike_17 : decode cX2_alike 17 = .ok (.iconst 0, 1) := by decide +kernel
theorem dX2_alike_18 : decode cX2_alike 18 = .ok (.ireturn, 1) := by decide +kernel
theorem dX2_never_0 : decode cX2_never 0 = .ok (.aload_n 0, 1) := by decide +kernel
theorem dX2_never_1 : decode cX2_never 1 = .ok (.getfield 21, 3) := by decide +kernel
theorem dX2_never_4 : decode cX2_never 4 = .ok (.iload_n 1, 1) := by decide +kernel
theorem dX2_never_5 : decode cX2_never 5 = .ok (.iaload, 1) := by decide +kernel
theorem dX2_never_6 : decode cX2_never 6 = .ok (.iload_n 2, 1) := by decide +kernel
theorem dX2_never_7 : decode cX2_never 7 = .ok (.ishr, 1) := by decide +kernel
theorem dX2_never_8 : decode cX2_never 8 = .ok (.iconst 1, 1) := by decide +kernel
theorem dX2_never_9 : decode cX2_never 9 = .ok (.iand, 1) := by decide +kernel
theorem dX2_never_10 : decode cX2_never 10 = .ok (.iconst 1, 1) := by decide +kernel
theorem dX2_never_11 : decode cX2_never 11 = .ok (.if_icmp .ne 7, 3) := by decide +kernel
theorem dX2_never_14 : decode cX2_never 14 = .ok (.iconst 1, 1) := by decide +kernel
theorem dX2_never_15 : decode cX2_never 15 = .ok (.goto 4, 3) := by decide +kernel
theorem dX2_never_18 : decode cX2_never 18 = .ok (.iconst 0, 1) := by decide +kernel
theorem dX2_never_19 : decode cX2_never 19 = .ok (.ireturn, 1) := by decide +kernel
theorem dX2_shyPairs_0 : decode cX2_shyPairs 0 = .ok (.iconst 0, 1) := by decide +kernel
theorem dX2_shyPairs_1 : decode cX2_shyPairs 1 = .ok (.istore_n 1, 1) := by decide +kernel
theorem dX2_shyPairs_2 : decode cX2_shyPairs 2 = .ok (.iconst 0, 1) := by decide +kernel
theorem dX2_shyPairs_3 : decode cX2_shyPairs 3 = .ok (.istore_n 2, 1) := by decide +kernel
theorem dX2_shyPairs_4 : decode cX2_shyPairs 4 = .ok (.iload_n 2, 1) := by decide +kernel
theorem dX2_shyPairs_5 : decode cX2_shyPairs 5 = .ok (.aload_n 0, 1) := by decide +kernel
theorem dX2_shyPairs_6 : decode cX2_shyPairs 6 = .ok (.getfield 34, 3) := by decide +kernel
theorem dX2_shyPairs_9 : decode cX2_shyPairs 9 = .ok (.if_icmp .ge 21, 3) := by decide +kernel
theorem dX2_shyPairs_12 : decode cX2_shyPairs 12 = .ok (.iload_n 1, 1) := by decide +kernel
theorem dX2_shyPairs_13 : decode cX2_shyPairs 13 = .ok (.aload_n 0, 1) := by decide +kernel
theorem dX2_shyPairs_14 : decode cX2_shyPairs 14 = .ok (.getfield 21, 3) := by decide +kernel
theorem dX2_shyPairs_17 : decode cX2_shyPairs 17 = .ok (.iload_n 2, 1) := by decide +kernel
theorem dX2_shyPairs_18 : decode cX2_shyPairs 18 = .ok (.iaload, 1) := by decide +kernel
theorem dX2_shyPairs_19 : decode cX2_shyPairs 19 = .ok (.invokestatic 78, 3) := by decide +kernel
theorem dX2_shyPairs_22 : decode cX2_shyPairs 22 = .ok (.iadd, 1) := by decide +kernel
theorem dX2_shyPairs_23 : decode cX2_shyPairs 23 = .ok (.istore_n 1, 1) := by decide +kernel
theorem dX2_shyPairs_24 : decode cX2_shyPairs 24 = .ok (.iinc 2 1, 3) := by decide +kernel
theorem dX2_shyPairs_27 : decode cX2_shyPairs 27 = .ok (.goto (-23), 3) := by decide +kernel
theorem dX2_shyPairs_30 : decode cX2_shyPairs 30 = .ok (.iload_n 1, 1) := by decide +kernel
theorem dX2_shyPairs_31 : decode cX2_shyPairs 31 = .ok (.ireturn, 1) := by decide +kernel
theorem dX2_nearest_0 : decode cX2_nearest 0 = .ok (.iconst 0, 1) := by decide +kernel
theorem dX2_nearest_1 : decode cX2_nearest 1 = .ok (.istore_n 2, 1) := by decide +kernel
theorem dX2_nearest_2 : decode cX2_nearest 2 = .ok (.iconst 1, 1) := by decide +kernel
theorem dX2_nearest_3 : decode cX2_nearest 3 = .ok (.istore_n 3, 1) := by decide +kernel
theorem dX2_nearest_4 : decode cX2_nearest 4 = .ok (.iload_n 3, 1) := by decide +kernel
theorem dX2_nearest_5 : decode cX2_nearest 5 = .ok (.aload_n 0, 1) := by decide +kernel
theorem dX2_nearest_6 : decode cX2_nearest 6 = .ok (.getfield 34, 3) := by decide +kernel
theorem dX2_nearest_9 : decode cX2_nearest 9 = .ok (.if_icmp .ge 36, 3) := by decide +kernel
theorem dX2_nearest_12 : decode cX2_nearest 12 = .ok (.aload_n 0, 1) := by decide +kernel
theorem dX2_nearest_13 : decode cX2_nearest 13 = .ok (.getfield 9, 3) := by decide +kernel
theorem dX2_nearest_16 : decode cX2_nearest 16 = .ok (.iload_n 3, 1) := by decide +kernel
theorem dX2_nearest_17 : decode cX2_nearest 17 = .ok (.iaload, 1) := by decide +kernel
theorem dX2_nearest_18 : decode cX2_nearest 18 = .ok (.iload_n 1, 1) := by decide +kernel
theorem dX2_nearest_19 : decode cX2_nearest 19 = .ok (.ixor, 1) := by decide +kernel
theorem dX2_nearest_20 : decode cX2_nearest 20 = .ok (.invokestatic 78, 3) := by decide +kernel
theorem dX2_nearest_23 : decode cX2_nearest 23 = .ok (.aload_n 0, 1) := by decide +kernel
theorem dX2_nearest_24 : decode cX2_nearest 24 = .ok (.getfield 9, 3) := by decide +kernel
theorem dX2_nearest_27 : decode cX2_nearest 27 = .ok (.iload_n 2, 1) := by decide +kernel
theorem dX2_nearest_28 : decode cX2_nearest 28 = .ok (.iaload, 1) := by decide +kernel
theorem dX2_nearest_29 : decode cX2_nearest 29 = .ok (.iload_n 1, 1) := by decide +kernel
theorem dX2_nearest_30 : decode cX2_nearest 30 = .ok (.ixor, 1) := by decide +kernel
theorem dX2_nearest_31 : decode cX2_nearest 31 = .ok (.invokestatic 78, 3) := by decide +kernel
theorem dX2_nearest_34 : decode cX2_nearest 34 = .ok (.if_icmp .ge 5, 3) := by decide +kernel
theorem dX2_nearest_37 : decode cX2_nearest 37 = .ok (.iload_n 3, 1) := by decide +kernel
theorem dX2_nearest_38 : decode cX2_nearest 38 = .ok (.istore_n 2, 1) := by decide +kernel
theorem dX2_nearest_39 : decode cX2_nearest 39 = .ok (.iinc 3 1, 3) := by decide +kernel
theorem dX2_nearest_42 : decode cX2_nearest 42 = .ok (.goto (-38), 3) := by decide +kernel
theorem dX2_nearest_45 : decode cX2_nearest 45 = .ok (.iload_n 2, 1) := by decide +kernel
theorem dX2_nearest_46 : decode cX2_nearest 46 = .ok (.ireturn, 1) := by decide +kernel
theorem dX2_together_0 : decode cX2_together 0 = .ok (.iconst 0, 1) := by decide +kernel
theorem dX2_together_1 : decode cX2_together 1 = .ok (.istore_n 2, 1) := by decide +kernel
theorem dX2_together_2 : decode cX2_together 2 = .ok (.iconst 0, 1) := by decide +kernel
theorem dX2_together_3 : decode cX2_together 3 = .ok (.istore_n 3, 1) := by decide +kernel
theorem dX2_together_4 : decode cX2_together 4 = .ok (.iload_n 3, 1) := by decide +kernel
theorem dX2_together_5 : decode cX2_together 5 = .ok (.aload_n 0, 1) := by decide +kernel
theorem dX2_together_6 : decode cX2_together 6 = .ok (.getfield 34, 3) := by decide +kernel
theorem dX2_together_9 : decode cX2_together 9 = .ok (.if_icmp .ge 27, 3) := by decide +kernel
theorem dX2_together_12 : decode cX2_together 12 = .ok (.iload_n 1, 1) := by decide +kernel
theorem dX2_together_13 : decode cX2_together 13 = .ok (.iload_n 3, 1) := by decide +kernel
theorem dX2_together_14 : decode cX2_together 14 = .ok (.ishr, 1) := by decide +kernel
theorem dX2_together_15 : decode cX2_together 15 = .ok (.iconst 1, 1) := by decide +kernel
theorem dX2_together_16 : decode cX2_together 16 = .ok (.iand, 1) := by decide +kernel
theorem dX2_together_17 : decode cX2_together 17 = .ok (.iconst 1, 1) := by decide +kernel
theorem dX2_together_18 : decode cX2_together 18 = .ok (.if_icmp .ne 12, 3) := by decide +kernel
theorem dX2_together_21 : decode cX2_together 21 = .ok (.iload_n 2, 1) := by decide +kernel
theorem dX2_together_22 : decode cX2_together 22 = .ok (.aload_n 0, 1) := by decide +kernel
theorem dX2_together_23 : decode cX2_together 23 = .ok (.getfield 9, 3) := by decide +kernel
theorem dX2_together_26 : decode cX2_together 26 = .ok (.iload_n 3, 1) := by decide +kernel
theorem dX2_together_27 : decode cX2_together 27 = .ok (.iaload, 1) := by decide +kernel
theorem dX2_together_28 : decode cX2_together 28 = .ok (.ior, 1) := by decide +kernel
theorem dX2_together_29 : decode cX2_together 29 = .ok (.istore_n 2, 1) := by decide +kernel
theorem dX2_together_30 : decode cX2_together 30 = .ok (.iinc 3 1, 3) := by decide +kernel
theorem dX2_together_33 : decode cX2_together 33 = .ok (.goto (-29), 3) := by decide +kernel
theorem dX2_together_36 : decode cX2_together 36 = .ok (.iload_n 2, 1) := by decide +kernel
theorem dX2_together_37 : decode cX2_together 37 = .ok (.ireturn, 1) := by decide +kernel
theorem dX2_priceOf_0 : decode cX2_priceOf 0 = .ok (.aload_n 0, 1) := by decide +kernel
theorem dX2_priceOf_1 : decode cX2_priceOf 1 = .ok (.iload_n 1, 1) := by decide +kernel
theorem dX2_priceOf_2 : decode cX2_priceOf 2 = .ok (.bipush 40, 2) := by decide +kernel
theorem dX2_priceOf_4 : decode cX2_priceOf 4 = .ok (.invokevirtual 83, 3) := by decide +kernel
theorem dX2_priceOf_7 : decode cX2_priceOf 7 = .ok (.ireturn, 1) := by decide +kernel
theorem dX2_givenBy_0 : decode cX2_givenBy 0 = .ok (.iconst 0, 1) := by decide +kernel
theorem dX2_givenBy_1 : decode cX2_givenBy 1 = .ok (.istore_n 3, 1) := by decide +kernel
theorem dX2_givenBy_2 : decode cX2_givenBy 2 = .ok (.iconst 0, 1) := by decide +kernel
theorem dX2_givenBy_3 : decode cX2_givenBy 3 = .ok (.istore 4, 2) := by decide +kernel
theorem dX2_givenBy_5 : decode cX2_givenBy 5 = .ok (.iload 4, 2) := by decide +kernel
theorem dX2_givenBy_7 : decode cX2_givenBy 7 = .ok (.aload_n 0, 1) := by decide +kernel
theorem dX2_givenBy_8 : decode cX2_givenBy 8 = .ok (.getfield 34, 3) := by decide +kernel
theorem dX2_givenBy_11 : decode cX2_givenBy 11 = .ok (.if_icmp .ge 33, 3) := by decide +kernel
theorem dX2_givenBy_14 : decode cX2_givenBy 14 = .ok (.iload_n 1, 1) := by decide +kernel
theorem dX2_givenBy_15 : decode cX2_givenBy 15 = .ok (.iload 4, 2) := by decide +kernel
theorem dX2_givenBy_17 : decode cX2_givenBy 17 = .ok (.ishr, 1) := by decide +kernel
theorem dX2_givenBy_18 : decode cX2_givenBy 18 = .ok (.iconst 1, 1) := by decide +kernel
theorem dX2_givenBy_19 : decode cX2_givenBy 19 = .ok (.iand, 1) := by decide +kernel
theorem dX2_givenBy_20 : decode cX2_givenBy 20 = .ok (.iconst 1, 1) := by decide +kernel
theorem dX2_givenBy_21 : decode cX2_givenBy 21 = .ok (.if_icmp .ne 17, 3) := by decide +kernel
theorem dX2_givenBy_24 : decode cX2_givenBy 24 = .ok (.iload_n 3, 1) := by decide +kernel
theorem dX2_givenBy_25 : decode cX2_givenBy 25 = .ok (.aload_n 0, 1) := by decide +kernel
theorem dX2_givenBy_26 : decode cX2_givenBy 26 = .ok (.getfield 18, 3) := by decide +kernel
theorem dX2_givenBy_29 : decode cX2_givenBy 29 = .ok (.iload 4, 2) := by decide +kernel
theorem dX2_givenBy_31 : decode cX2_givenBy 31 = .ok (.iaload, 1) := by decide +kernel
theorem dX2_givenBy_32 : decode cX2_givenBy 32 = .ok (.iload_n 2, 1) := by decide +kernel
theorem dX2_givenBy_33 : decode cX2_givenBy 33 = .ok (.invokestatic 87, 3) := by decide +kernel
theorem dX2_givenBy_36 : decode cX2_givenBy 36 = .ok (.iadd, 1) := by decide +kernel
theorem dX2_givenBy_37 : decode cX2_givenBy 37 = .ok (.istore_n 3, 1) := by decide +kernel
theorem dX2_givenBy_38 : decode cX2_givenBy 38 = .ok (.iinc 4 1, 3) := by decide +kernel
theorem dX2_givenBy_41 : decode cX2_givenBy 41 = .ok (.goto (-36), 3) := by decide +kernel
theorem dX2_givenBy_44 : decode cX2_givenBy 44 = .ok (.iload_n 3, 1) := by decide +kernel
theorem dX2_givenBy_45 : decode cX2_givenBy 45 = .ok (.ireturn, 1) := by decide +kernel
theorem dX3_init_0 : decode cX3_init 0 = .ok (.aload_n 0, 1) := by decide +kernel
theorem dX3_init_1 : decode cX3_init 1 = .ok (.invokespecial 1, 3) := by decide +kernel
theorem dX3_init_4 : decode cX3_init 4 = .ok (.aload_n 0, 1) := by decide +kernel
theorem dX3_init_5 : decode cX3_init 5 = .ok (.new 7, 3) := by decide +kernel
theorem dX3_init_8 : decode cX3_init 8 = .ok (.dup, 1) := by decide +kernel
theorem dX3_init_9 : decode cX3_init 9 = .ok (.invokespecial 9, 3) := by decide +kernel
theorem dX3_init_12 : decode cX3_init 12 = .ok (.putfield 10, 3) := by decide +kernel
theorem dX3_init_15 : decode cX3_init 15 = .ok (.aload_n 0, 1) := by decide +kernel
theorem dX3_init_16 : decode cX3_init 16 = .ok (.getfield 10, 3) := by decide +kernel
theorem dX3_init_19 : decode cX3_init 19 = .ok (.aload_n 1, 1) := by decide +kernel
theorem dX3_init_20 : decode cX3_init 20 = .ok (.invokevirtual 16, 3) := by decide +kernel
theorem dX3_init_23 : decode cX3_init 23 = .ok (.aload_n 0, 1) := by decide +kernel
theorem dX3_init_24 : decode cX3_init 24 = .ok (.aload_n 2, 1) := by decide +kernel
theorem dX3_init_25 : decode cX3_init 25 = .ok (.putfield 20, 3) := by decide +kernel
theorem dX3_init_28 : decode cX3_init 28 = .ok (.aload_n 0, 1) := by decide +kernel
theorem dX3_init_29 : decode cX3_init 29 = .ok (.aload_n 2, 1) := by decide +kernel
theorem dX3_init_30 : decode cX3_init 30 = .ok (.ifnonnull 7, 3) := by decide +kernel
theorem dX3_init_33 : decode cX3_init 33 = .ok (.iconst 1, 1) := by decide +kernel
theorem dX3_init_34 : decode cX3_init 34 = .ok (.goto 9, 3) := by decide +kernel
theorem dX3_init_37 : decode cX3_init 37 = .ok (.aload_n 2, 1) := by decide +kernel
theorem dX3_init_38 : decode cX3_init 38 = .ok (.getfield 24, 3) := by decide +kernel
theorem dX3_init_41 : decode cX3_init 41 = .ok (.iconst 1, 1) := by decide +kernel
theorem dX3_init_42 : decode cX3_init 42 = .ok (.iadd, 1) := by decide +kernel
theorem dX3_init_43 : decode cX3_init 43 = .ok (.putfield 24, 3) := by decide +kernel
theorem dX3_init_46 : decode cX3_init 46 = .ok (.return_, 1) := by decide +kernel
theorem dX4_init_0 : decode cX4_init 0 = .ok (.aload_n 0, 1) := by decide +kernel
theorem dX4_init_1 : decode cX4_init 1 = .ok (.invokespecial 3, 3) := by decide +kernel
theorem dX4_init_4 : decode cX4_init 4 = .ok (.aload_n 0, 1) := by decide +kernel
theorem dX4_init_5 : decode cX4_init 5 = .ok (.sipush 150, 3) := by decide +kernel
theorem dX4_init_8 : decode cX4_init 8 = .ok (.newarray .int, 2) := by decide +kernel
theorem dX4_init_10 : decode cX4_init 10 = .ok (.putfield 9, 3) := by decide +kernel
theorem dX4_init_13 : decode cX4_init 13 = .ok (.aload_n 0, 1) := by decide +kernel
theorem dX4_init_14 : decode cX4_init 14 = .ok (.bipush 24, 2) := by decide +kernel
theorem dX4_init_16 : decode cX4_init 16 = .ok (.newarray .int, 2) := by decide +kernel
theorem dX4_init_18 : decode cX4_init 18 = .ok (.putfield 15, 3) := by decide +kernel
theorem dX4_init_21 : decode cX4_init 21 = .ok (.aload_n 0, 1) := by decide +kernel
theorem dX4_init_22 : decode cX4_init 22 = .ok (.invokevirtual 18, 3) := by decide +kernel
theorem dX4_init_25 : decode cX4_init 25 = .ok (.return_, 1) := by decide +kernel
theorem dX4_setUsual_0 : decode cX4_setUsual 0 = .ok (.aload_n 0, 1) := by decide +kernel
theorem dX4_setUsual_1 : decode cX4_setUsual 1 = .ok (.iconst 0, 1) := by decide +kernel
theorem dX4_setUsual_2 : decode cX4_setUsual 2 = .ok (.putfield 21, 3) := by decide +kernel
theorem dX4_setUsual_5 : decode cX4_setUsual 5 = .ok (.aload_n 0, 1) := by decide +kernel
theorem dX4_setUsual_6 : decode cX4_setUsual 6 = .ok (.sipush 1000, 3) := by decide +kernel
theorem dX4_setUsual_9 : decode cX4_setUsual 9 = .ok (.invokevirtual 25, 3) := by decide +kernel
theorem dX4_setUsual_12 : decode cX4_setUsual 12 = .ok (.pop, 1) := by decide +kernel
theorem dX4_setUsual_13 : decode cX4_setUsual 13 = .ok (.aload_n 0, 1) := by decide +kernel
theorem dX4_setUsual_14 : decode cX4_setUsual 14 = .ok (.sipush 1002, 3) := by decide +kernel
theorem dX4_setUsual_17 : decode cX4_setUsual 17 = .ok (.invokevirtual 25, 3) := by decide +kernel
theorem dX4_setUsual_20 : decode cX4_setUsual 20 = .ok (.pop, 1) := by decide +kernel
theorem dX4_setUsual_21 : decode cX4_setUsual 21 = .ok (.aload_n 0, 1) := by decide +kernel
theorem dX4_setUsual_22 : decode cX4_setUsual 22 = .ok (.sipush 2000, 3) := by decide +kernel
theorem dX4_setUsual_25 : decode cX4_setUsual 25 = .ok (.invokevirtual 25, 3) := by decide +kernel
theorem dX4_setUsual_28 : decode cX4_setUsual 28 = .ok (.pop, 1) := by decide +kernel
theorem dX4_setUsual_29 : decode cX4_setUsual 29 = .ok (.return_, 1) := by decide +kernel
theorem dX4_copyFrom_0 : decode cX4_copyFrom 0 = .ok (.aload_n 1, 1) := by decide +kernel
theorem dX4_copyFrom_1 : decode cX4_copyFrom 1 = .ok (.getfield 9, 3) := by decide +kernel
theorem dX4_copyFrom_4 : decode cX4_copyFrom 4 = .ok (.iconst 0, 1) := by decide +kernel
theorem dX4_copyFrom_5 : decode cX4_copyFrom 5 = .ok (.aload_n 0, 1) := by decide +kernel
theorem dX4_copyFrom_6 : decode cX4_copyFrom 6 = .ok (.getfield 9, 3) := by decide +kernel
theorem dX4_copyFrom_9 : decode cX4_copyFrom 9 = .ok (.iconst 0, 1) := by decide +kernel
theorem dX4_copyFrom_10 : decode cX4_copyFrom 10 = .ok (.sipush 150, 3) := by decide +kernel
theorem dX4_copyFrom_13 : decode cX4_copyFrom 13 = .ok (.invokestatic 29, 3) := by decide +kernel
theorem dX4_copyFrom_16 : decode cX4_copyFrom 16 = .ok (.aload_n 0, 1) := by decide +kernel
theorem dX4_copyFrom_17 : decode cX4_copyFrom 17 = .ok (.aload_n 1, 1) := by decide +kernel
theorem dX4_copyFrom_18 : decode cX4_copyFrom 18 = .ok (.getfield 21, 3) := by decide +kernel
theorem dX4_copyFrom_21 : decode cX4_copyFrom 21 = .ok (.putfield 21, 3) := by decide +kernel
theorem dX4_copyFrom_24 : decode cX4_copyFrom 24 = .ok (.return_, 1) := by decide +kernel
theorem dX4_put_0 : decode cX4_put 0 = .ok (.aload_n 0, 1) := by decide +kernel
theorem dX4_put_1 : decode cX4_put 1 = .ok (.getfield 21, 3) := by decide +kernel
theorem dX4_put_4 : decode cX4_put 4 = .ok (.aload_n 0, 1) := by decide +kernel
theorem dX4_put_5 : decode cX4_put 5 = .ok (.getfield 9, 3) := by decide +kernel
theorem dX4_put_8 : decode cX4_put 8 = .ok (.arraylength, 1) := by decide +kernel
theorem dX4_put_9 : decode cX4_put 9 = .ok (.if_icmp .lt 5, 3) := by decide +kernel
theorem dX4_put_12 : decode cX4_put 12 = .ok (.iconst 0, 1) := by decide +kernel
theorem dX4_put_13 : decode cX4_put 13 = .ok (.ireturn, 1) := by decide +kernel
theorem dX4_put_14 : decode cX4_put 14 = .ok (.aload_n 0, 1) := by decide +kernel
theorem dX4_put_15 : decode cX4_put 15 = .ok (.getfield 9, 3) := by decide +kernel
theorem dX4_put_18 : decode cX4_put 18 = .ok (.aload_n 0, 1) := by decide +kernel
theorem dX4_put_19 : decode cX4_put 19 = .ok (.getfield 21, 3) := by decide +kernel
theorem dX4_put_22 : decode cX4_put 22 = .ok (.iload_n 1, 1) := by decide +kernel
theorem dX4_put_23 : decode cX4_put 23 = .ok (.iastore, 1) := by decide +kernel
theorem dX4_put_24 : decode cX4_put 24 = .ok (.aload_n 0, 1) := by decide +kernel
theorem dX4_put_25 : decode cX4_put 25 = .ok (.dup, 1) := by decide +kernel
theorem dX4_put_26 : decode cX4_put 26 = .ok (.getfield 21, 3) := by decide +kernel
theorem dX4_put_29 : decode cX4_put 29 = .ok (.iconst 1, 1) := by decide +kernel
theorem dX4_put_30 : decode cX4_put 30 = .ok (.iadd, 1) := by decide +kernel
theorem dX4_put_31 : decode cX4_put 31 = .ok (.putfield 21, 3) := by decide +kernel
theorem dX4_put_34 : decode cX4_put 34 = .ok (.iconst 1, 1) := by decide +kernel
theorem dX4_put_35 : decode cX4_put 35 = .ok (.ireturn, 1) := by decide +kernel
theorem dX4_read_0 : decode cX4_read 0 = .ok (.aload_n 0, 1) := by decide +kernel
theorem dX4_read_1 : decode cX4_read 1 = .ok (.iconst 0, 1) := by decide +kernel
theorem dX4_read_2 : decode cX4_read 2 = .ok (.putfield 21, 3) := by decide +kernel
theorem dX4_read_5 : decode cX4_read 5 = .ok (.aload_n 0, 1) := by decide +kernel
theorem dX4_read_6 : decode cX4_read 6 = .ok (.aload_n 1, 1) := by decide +kernel
theorem dX4_read_7 : decode cX4_read 7 = .ok (.iconst 0, 1) := by decide +kernel
theorem dX4_read_8 : decode cX4_read 8 = .ok (.invokevirtual 35, 3) := by decide +kernel
theorem dX4_read_11 : decode cX4_read 11 = .ok (.ifCond .eq 26, 3) := by decide +kernel
theorem dX4_read_14 : decode cX4_read 14 = .ok (.aload_n 1, 1) := by decide +kernel
theorem dX4_read_15 : decode cX4_read 15 = .ok (.invokevirtual 39, 3) := by decide +kernel
theorem dX4_read_18 : decode cX4_read 18 = .ok (.ifCond .ne 15, 3) := by decide +kernel
theorem dX4_read_21 : decode cX4_read 21 = .ok (.aload_n 1, 1) := by decide +kernel
theorem dX4_read_22 : decode cX4_read 22 = .ok (.iconst 1, 1) := by decide +kernel
theorem dX4_read_23 : decode cX4_read 23 = .ok (.aload_n 1, 1) := by decide +kernel
theorem dX4_read_24 : decode cX4_read 24 = .ok (.getfield 45, 3) := by decide +kernel
theorem dX4_read_27 : decode cX4_read 27 = .ok (.invokevirtual 48, 3) := by decide +kernel
theorem dX4_read_30 : decode cX4_read 30 = .ok (.ifCond .eq 7, 3) := by decide +kernel
theorem dX4_read_33 : decode cX4_read 33 = .ok (.iconst 1, 1) := by decide +kernel
theorem dX4_read_34 : decode cX4_read 34 = .ok (.goto 4, 3) := by decide +kernel
theorem dX4_read_37 : decode cX4_read 37 = .ok (.iconst 0, 1) := by decide +kernel
theorem dX4_read_38 : decode cX4_read 38 = .ok (.ireturn, 1) := by decide +kernel
theorem dX4_readSum_0 : decode cX4_readSum 0 = .ok (.aload_n 0, 1) := by decide +kernel
theorem dX4_readSum_1 : decode cX4_readSum 1 = .ok (.aload_n 1, 1) := by decide +kernel
theorem dX4_readSum_2 : decode cX4_readSum 2 = .ok (.iload_n 2, 1) := by decide +kernel
theorem dX4_readSum_3 : decode cX4_readSum 3 = .ok (.invokevirtual 52, 3) := by decide +kernel
theorem dX4_readSum_6 : decode cX4_readSum 6 = .ok (.istore_n 3, 1) := by decide +kernel
theorem dX4_readSum_7 : decode cX4_readSum 7 = .ok (.iconst 0, 1) := by decide +kernel
theorem dX4_readSum_8 : decode cX4_readSum 8 = .ok (.istore 4, 2) := by decide +kernel
theorem dX4_readSum_10 : decode cX4_readSum 10 = .ok (.iload_n 3, 1) := by decide +kernel
theorem dX4_readSum_11 : decode cX4_readSum 11 = .ok (.ifCond .eq 82, 3) := by decide +kernel
theorem dX4_readSum_14 : decode cX4_readSum 14 = .ok (.iload 4, 2) := by decide +kernel
theorem dX4_readSum_16 : decode cX4_readSum 16 = .ok (.sipush 150, 3) := by decide +kernel
theorem dX4_readSum_19 : decode cX4_readSum 19 = .ok (.if_icmp .ge 74, 3) := by decide +kernel
theorem dX4_readSum_22 : decode cX4_readSum 22 = .ok (.aload_n 1, 1) := by decide +kernel
theorem dX4_readSum_23 : decode cX4_readSum 23 = .ok (.bipush 43, 2) := by decide +kernel
theorem dX4_readSum_25 : decode cX4_readSum 25 = .ok (.invokevirtual 55, 3) := by decide +kernel
theorem dX4_readSum_28 : decode cX4_readSum 28 = .ok (.ifCond .eq 9, 3) := by decide +kernel
theorem dX4_readSum_31 : decode cX4_readSum 31 = .ok (.sipush 2000, 3) := by decide +kernel
theorem dX4_readSum_34 : decode cX4_readSum 34 = .ok (.goto 19, 3) := by decide +kernel
theorem dX4_readSum_37 : decode cX4_readSum 37 = .ok (.aload_n 1, 1) := by decide +kernel
theorem dX4_readSum_38 : decode cX4_readSum 38 = .ok (.bipush 45, 2) := by decide +kernel
theorem dX4_readSum_40 : decode cX4_readSum 40 = .ok (.invokevirtual 55, 3) := by decide +kernel
theorem dX4_readSum_43 : decode cX4_readSum 43 = .ok (.ifCond .eq 9, 3) := by decide +kernel
theorem dX4_readSum_46 : decode cX4_readSum 46 = .ok (.sipush 2001, 3) := by decide +kernel
theorem dX4_readSum_49 : decode cX4_readSum 49 = .ok (.goto 4, 3) := by decide +kernel
theorem dX4_readSum_52 : decode cX4_readSum 52 = .ok (.iconst (-1), 1) := by decide +kernel
theorem dX4_readSum_53 : decode cX4_readSum 53 = .ok (.istore 5, 2) := by decide +kernel
theorem dX4_readSum_55 : decode cX4_readSum 55 = .ok (.iload 5, 2) := by decide +kernel
theorem dX4_readSum_57 : decode cX4_readSum 57 = .ok (.iconst (-1), 1) := by decide +kernel
theorem dX4_readSum_58 : decode cX4_readSum 58 = .ok (.if_icmp .ne 5, 3) := by decide +kernel
theorem dX4_readSum_61 : decode cX4_readSum 61 = .ok (.iconst 1, 1) := by decide +kernel
theorem dX4_readSum_62 : decode cX4_readSum 62 = .ok (.ireturn, 1) := by decide +kernel
theorem dX4_readSum_63 : decode cX4_readSum 63 = .ok (.aload_n 0, 1) := by decide +kernel
theorem dX4_readSum_64 : decode cX4_readSum 64 = .ok (.aload_n 1, 1) := by decide +kernel
theorem dX4_readSum_65 : decode cX4_readSum 65 = .ok (.iload_n 2, 1) := by decide +kernel
theorem dX4_readSum_66 : decode cX4_readSum 66 = .ok (.invokevirtual 52, 3) := by decide +kernel
theorem dX4_readSum_69 : decode cX4_readSum 69 = .ok (.ifCond .eq 16, 3) := by decide +kernel
theorem dX4_readSum_72 : decode cX4_readSum 72 = .ok (.aload_n 0, 1) := by decide +kernel
theorem dX4_readSum_73 : decode cX4_readSum 73 = .ok (.iload 5, 2) := by decide +kernel
theorem dX4_readSum_75 : decode cX4_readSum 75 = .ok (.invokevirtual 25, 3) := by decide +kernel
theorem dX4_readSum_78 : decode cX4_readSum 78 = .ok (.ifCond .eq 7, 3) := by decide +kernel
theorem dX4_readSum_81 : decode cX4_readSum 81 = .ok (.iconst 1, 1) := by decide +kernel
theorem dX4_readSum_82 : decode cX4_readSum 82 = .ok (.goto 4, 3) := by decide +kernel
theorem dX4_readSum_85 : decode cX4_readSum 85 = .ok (.iconst 0, 1) := by decide +kernel
theorem dX4_readSum_86 : decode cX4_readSum 86 = .ok (.istore_n 3, 1) := by decide +kernel
theorem dX4_readSum_87 : decode cX4_readSum 87 = .ok (.iinc 4 1, 3) := by decide +kernel
theorem dX4_readSum_90 : decode cX4_readSum 90 = .ok (.goto (-80), 3) := by decide +kernel
theorem dX4_readSum_93 : decode cX4_readSum 93 = .ok (.iload_n 3, 1) := by decide +kernel
theorem dX4_readSum_94 : decode cX4_readSum 94 = .ok (.ireturn, 1) := by decide +kernel
theorem dX4_readProduct_0 : decode cX4_readProduct 0 = .ok (.aload_n 0, 1) := by decide +kernel
theorem dX4_readProduct_1 : decode cX4_readProduct 1 = .ok (.aload_n 1, 1) := by decide +kernel
theorem dX4_readProduct_2 : decode cX4_readProduct 2 = .ok (.iload_n 2, 1) := by decide +kernel
theorem dX4_readProduct_3 : decode cX4_readProduct 3 = .ok (.invokevirtual 58, 3) := by decide +kernel
theorem dX4_readProduct_6 : decode cX4_readProduct 6 = .ok (.istore_n 3, 1) := by decide +kernel
theorem dX4_readProduct_7 : decode cX4_readProduct 7 = .ok (.iconst 0, 1) := by decide +kernel
theorem dX4_readProduct_8 : decode cX4_readProduct 8 = .ok (.istore 4, 2) := by decide +kernel
theorem dX4_readProduct_10 : decode cX4_readProduct 10 = .ok (.iload_n 3, 1) := by decide +kernel
theorem dX4_readProduct_11 : decode cX4_readProduct 11 = .ok (.ifCond .eq 97, 3) := by decide +kernel
theorem dX4_readProduct_14 : decode cX4_readProduct 14 = .ok (.iload 4, 2) := by decide +kernel
theorem dX4_readProduct_16 : decode cX4_readProduct 16 = .ok (.sipush 150, 3) := by decide +kernel
theorem dX4_readProduct_19 : decode cX4_readProduct 19 = .ok (.if_icmp .ge 89, 3) := by decide +kernel
theorem dX4_readProduct_22 : decode cX4_readProduct 22 = .ok (.aload_n 1, 1) := by decide +kernel
theorem dX4_readProduct_23 : decode cX4_readProduct 23 = .ok (.bipush 42, 2) := by decide +kernel
theorem dX4_readProduct_25 : decode cX4_readProduct 25 = .ok (.invokevirtual 55, 3) := by decide +kernel
theorem dX4_readProduct_28 : decode cX4_readProduct 28 = .ok (.ifCond .eq 9, 3) := by decide +kernel
theorem dX4_readProduct_31 : decode cX4_readProduct 31 = .ok (.sipush 2002, 3) := by decide +kernel
theorem dX4_readProduct_34 : decode cX4_readProduct 34 = .ok (.goto 34, 3) := by decide +kernel
theorem dX4_readProduct_37 : decode cX4_readProduct 37 = .ok (.aload_n 1, 1) := by decide +kernel
theorem dX4_readProduct_38 : decode cX4_readProduct 38 = .ok (.bipush 47, 2) := by decide +kernel
theorem dX4_readProduct_40 : decode cX4_readProduct 40 = .ok (.invokevirtual 55, 3) := by decide +kernel
theorem dX4_readProduct_43 : decode cX4_readProduct 43 = .ok (.ifCond .eq 9, 3) := by decide +kernel
theorem dX4_readProduct_46 : decode cX4_readProduct 46 = .ok (.sipush 2003, 3) := by decide +kernel
theorem dX4_readProduct_49 : decode cX4_readProduct 49 = .ok (.goto 19, 3) := by decide +kernel
theorem dX4_readProduct_52 : decode cX4_readProduct 52 = .ok (.aload_n 1, 1) := by decide +kernel
theorem dX4_readProduct_53 : decode cX4_readProduct 53 = .ok (.bipush 37, 2) := by decide +kernel
theorem dX4_readProduct_55 : decode cX4_readProduct 55 = .ok (.invokevirtual 55, 3) := by decide +kernel
theorem dX4_readProduct_58 : decode cX4_readProduct 58 = .ok (.ifCond .eq 9, 3) := by decide +kernel
theorem dX4_readProduct_61 : decode cX4_readProduct 61 = .ok (.sipush 2004, 3) := by decide +kernel
theorem dX4_readProduct_64 : decode cX4_readProduct 64 = .ok (.goto 4, 3) := by decide +kernel
theorem dX4_readProduct_67 : decode cX4_readProduct 67 = .ok (.iconst (-1), 1) := by decide +kernel
theorem dX4_readProduct_68 : decode cX4_readProduct 68 = .ok (.istore 5, 2) := by decide +kernel
theorem dX4_readProduct_70 : decode cX4_readProduct 70 = .ok (.iload 5, 2) := by decide +kernel
theorem dX4_readProduct_72 : decode cX4_readProduct 72 = .ok (.iconst (-1), 1) := by decide +kernel
theorem dX4_readProduct_73 : decode cX4_readProduct 73 = .ok (.if_icmp .ne 5, 3) := by decide +kernel
theorem dX4_readProduct_76 : decode cX4_readProduct 76 = .ok (.iconst 1, 1) := by decide +kernel
theorem dX4_readProduct_77 : decode cX4_readProduct 77 = .ok (.ireturn, 1) := by decide +kernel
theorem dX4_readProduct_78 : decode cX4_readProduct 78 = .ok (.aload_n 0, 1) := by decide +kernel
theorem dX4_readProduct_79 : decode cX4_readProduct 79 = .ok (.aload_n 1, 1) := by decide +kernel
theorem dX4_readProduct_80 : decode cX4_readProduct 80 = .ok (.iload_n 2, 1) := by decide +kernel
theorem dX4_readProduct_81 : decode cX4_readProduct 81 = .ok (.invokevirtual 58, 3) := by decide +kernel
theorem dX4_readProduct_84 : decode cX4_readProduct 84 = .ok (.ifCond .eq 16, 3) := by decide +kernel
theorem dX4_readProduct_87 : decode cX4_readProduct 87 = .ok (.aload_n 0, 1) := by decide +kernel
theorem dX4_readProduct_88 : decode cX4_readProduct 88 = .ok (.iload 5, 2) := by decide +kernel
theorem dX4_readProduct_90 : decode cX4_readProduct 90 = .ok (.invokevirtual 25, 3) := by decide +kernel
theorem dX4_readProduct_93 : decode cX4_readProduct 93 = .ok (.ifCond .eq 7, 3) := by decide +kernel
theorem dX4_readProduct_96 : decode cX4_readProduct 96 = .ok (.iconst 1, 1) := by decide +kernel
theorem dX4_readProduct_97 : decode cX4_readProduct 97 = .ok (.goto 4, 3) := by decide +kernel
theorem dX4_readProduct_100 : decode cX4_readProduct 100 = .ok (.iconst 0, 1) := by decide +kernel
theorem dX4_readProduct_101 : decode cX4_readProduct 101 = .ok (.istore_n 3, 1) := by decide +kernel
theorem dX4_readProduct_102 : decode cX4_readProduct 102 = .ok (.iinc 4 1, 3) := by decide +kernel
theorem dX4_readProduct_105 : decode cX4_readProduct 105 = .ok (.goto (-95), 3) := by decide +kernel
theorem dX4_readProduct_108 : decode cX4_readProduct 108 = .ok (.iload_n 3, 1) := by decide +kernel
theorem dX4_readProduct_109 : decode cX4_readProduct 109 = .ok (.ireturn, 1) := by decide +kernel
theorem dX4_readUnit_0 : decode cX4_readUnit 0 = .ok (.aload_n 1, 1) := by decide +kernel
theorem dX4_readUnit_1 : decode cX4_readUnit 1 = .ok (.invokevirtual 61, 3) := by decide +kernel
theorem dX4_readUnit_4 : decode cX4_readUnit 4 = .ok (.ifCond .eq 30, 3) := by decide +kernel
theorem dX4_readUnit_7 : decode cX4_readUnit 7 = .ok (.aload_n 1, 1) := by decide +kernel
theorem dX4_readUnit_8 : decode cX4_readUnit 8 = .ok (.sipush 999, 3) := by decide +kernel
theorem dX4_readUnit_11 : decode cX4_readUnit 11 = .ok (.invokevirtual 64, 3) := by decide +kernel
theorem dX4_readUnit_14 : decode cX4_readUnit 14 = .ok (.istore_n 3, 1) := by decide +kernel
theorem dX4_readUnit_15 : decode cX4_readUnit 15 = .ok (.iload_n 3, 1) := by decide +kernel
theorem dX4_readUnit_16 : decode cX4_readUnit 16 = .ok (.iconst (-1), 1) := by decide +kernel
theorem dX4_readUnit_17 : decode cX4_readUnit 17 = .ok (.if_icmp .eq 15, 3) := by decide +kernel
theorem dX4_readUnit_20 : decode cX4_readUnit 20 = .ok (.aload_n 0, 1) := by decide +kernel
theorem dX4_readUnit_21 : decode cX4_readUnit 21 = .ok (.iload_n 3, 1) := by decide +kernel
theorem dX4_readUnit_22 : decode cX4_readUnit 22 = .ok (.invokevirtual 25, 3) := by decide +kernel
theorem dX4_readUnit_25 : decode cX4_readUnit 25 = .ok (.ifCond .eq 7, 3) := by decide +kernel
theorem dX4_readUnit_28 : decode cX4_readUnit 28 = .ok (.iconst 1, 1) := by decide +kernel
theorem dX4_readUnit_29 : decode cX4_readUnit 29 = .ok (.goto 4, 3) := by decide +kernel
theorem dX4_readUnit_32 : decode cX4_readUnit 32 = .ok (.iconst 0, 1) := by decide +kernel
theorem dX4_readUnit_33 : decode cX4_readUnit 33 = .ok (.ireturn, 1) := by decide +kernel
theorem dX4_readUnit_34 : decode cX4_readUnit 34 = .ok (.aload_n 1, 1) := by decide +kernel
theorem dX4_readUnit_35 : decode cX4_readUnit 35 = .ok (.bipush 40, 2) := by decide +kernel
theorem dX4_readUnit_37 : decode cX4_readUnit 37 = .ok (.invokevirtual 68, 3) := by decide +kernel
theorem dX4_readUnit_40 : decode cX4_readUnit 40 = .ok (.ifCond .eq 10, 3) := by decide +kernel
theorem dX4_readUnit_43 : decode cX4_readUnit 43 = .ok (.aload_n 0, 1) := by decide +kernel
theorem dX4_readUnit_44 : decode cX4_readUnit 44 = .ok (.aload_n 1, 1) := by decide +kernel
theorem dX4_readUnit_45 : decode cX4_readUnit 45 = .ok (.iload_n 2, 1) := by decide +kernel
theorem dX4_readUnit_46 : decode cX4_readUnit 46 = .ok (.invokevirtual 71, 3) := by decide +kernel
theorem dX4_readUnit_49 : decode cX4_readUnit 49 = .ok (.ireturn, 1) := by decide +kernel
theorem dX4_readUnit_50 : decode cX4_readUnit 50 = .ok (.aload_n 1, 1) := by decide +kernel
theorem dX4_readUnit_51 : decode cX4_readUnit 51 = .ok (.ldc 74, 2) := by decide +kernel
theorem dX4_readUnit_53 : decode cX4_readUnit 53 = .ok (.invokevirtual 76, 3) := by decide +kernel
theorem dX4_readUnit_56 : decode cX4_readUnit 56 = .ok (.istore_n 3, 1) := by decide +kernel
theorem dX4_readUnit_57 : decode cX4_readUnit 57 = .ok (.iload_n 3, 1) := by decide +kernel
theorem dX4_readUnit_58 : decode cX4_readUnit 58 = .ok (.iconst (-1), 1) := by decide +kernel
theorem dX4_readUnit_59 : decode cX4_readUnit 59 = .ok (.if_icmp .ne 5, 3) := by decide +kernel
theorem dX4_readUnit_62 : decode cX4_readUnit 62 = .ok (.iconst 0, 1) := by decide +kernel
theorem dX4_readUnit_63 : decode cX4_readUnit 63 = .ok (.ireturn, 1) := by decide +kernel
theorem dX4_readUnit_64 : decode cX4_readUnit 64 = .ok (.iload_n 3, 1) := by decide +kernel
theorem dX4_readUnit_65 : decode cX4_readUnit 65 = .ok (.bipush 8, 2) := by decide +kernel
theorem dX4_readUnit_67 : decode cX4_readUnit 67 = .ok (.if_icmp .ge 15, 3) := by decide +kernel
theorem dX4_readUnit_70 : decode cX4_readUnit 70 = .ok (.aload_n 0, 1) := by decide +kernel
theorem dX4_readUnit_71 : decode cX4_readUnit 71 = .ok (.sipush 1000, 3) := by decide +kernel
theorem dX4_readUnit_74 : decode cX4_readUnit 74 = .ok (.iload_n 3, 1) := by decide +kernel
theorem dX4_readUnit_75 : decode cX4_readUnit 75 = .ok (.iadd, 1) := by decide +kernel
theorem dX4_readUnit_76 : decode cX4_readUnit 76 = .ok (.invokevirtual 25, 3) := by decide +kernel
theorem dX4_readUnit_79 : decode cX4_readUnit 79 = .ok (.goto 24, 3) := by decide +kernel
theorem dX4_readUnit_82 : decode cX4_readUnit 82 = .ok (.aload_n 0, 1) := by decide +kernel
theorem dX4_readUnit_83 : decode cX4_readUnit 83 = .ok (.aload_n 1, 1) := by decide +kernel
theorem dX4_readUnit_84 : decode cX4_readUnit 84 = .ok (.iload_n 2, 1) := by decide +kernel
theorem dX4_readUnit_85 : decode cX4_readUnit 85 = .ok (.iload_n 3, 1) := by decide +kernel
theorem dX4_readUnit_86 : decode cX4_readUnit 86 = .ok (.bipush 8, 2) := by decide +kernel
theorem dX4_readUnit_88 : decode cX4_readUnit 88 = .ok (.if_icmp .ne 9, 3) := by decide +kernel
theorem dX4_readUnit_91 : decode cX4_readUnit 91 = .ok (.sipush 2005, 3) := by decide +kernel
theorem dX4_readUnit_94 : decode cX4_readUnit 94 = .ok (.goto 6, 3) := by decide +kernel
theorem dX4_readUnit_97 : decode cX4_readUnit 97 = .ok (.sipush 2006, 3) := by decide +kernel
theorem dX4_readUnit_100 : decode cX4_readUnit 100 = .ok (.invokevirtual 80, 3) := by decide +kernel
theorem dX4_readUnit_103 : decode cX4_readUnit 103 = .ok (.ireturn, 1) := by decide +kernel
theorem dX4_readBracket_0 : decode cX4_readBracket 0 = .ok (.iload_n 2, 1) := by decide +kernel
theorem dX4_readBracket_1 : decode cX4_readBracket 1 = .ok (.bipush 6, 2) := by decide +kernel
theorem dX4_readBracket_3 : decode cX4_readBracket 3 = .ok (.if_icmp .lt 13, 3) := by decide +kernel
theorem dX4_readBracket_6 : decode cX4_readBracket 6 = .ok (.aload_n 1, 1) := by decide +kernel
theorem dX4_readBracket_7 : decode cX4_readBracket 7 = .ok (.iconst 3, 1) := by decide +kernel
theorem dX4_readBracket_8 : decode cX4_readBracket 8 = .ok (.aload_n 1, 1) := by decide +kernel
theorem dX4_readBracket_9 : decode cX4_readBracket 9 = .ok (.getfield 45, 3) := by decide +kernel
theorem dX4_readBracket_12 : decode cX4_readBracket 12 = .ok (.invokevirtual 48, 3) := by decide +kernel
theorem dX4_readBracket_15 : decode cX4_readBracket 15 = .ok (.ireturn, 1) := by decide +kernel
theorem dX4_readBracket_16 : decode cX4_readBracket 16 = .ok (.aload_n 1, 1) := by decide +kernel
theorem dX4_readBracket_17 : decode cX4_readBracket 17 = .ok (.bipush 40, 2) := by decide +kernel
theorem dX4_readBracket_19 : decode cX4_readBracket 19 = .ok (.invokevirtual 84, 3) := by decide +kernel
theorem dX4_readBracket_22 : decode cX4_readBracket 22 = .ok (.ifCond .eq 27, 3) := by decide +kernel
theorem dX4_readBracket_25 : decode cX4_readBracket 25 = .ok (.aload_n 0, 1) := by decide +kernel
theorem dX4_readBracket_26 : decode cX4_readBracket 26 = .ok (.aload_n 1, 1) := by decide +kernel
theorem dX4_readBracket_27 : decode cX4_readBracket 27 = .ok (.iload_n 2, 1) := by decide +kernel
theorem dX4_readBracket_28 : decode cX4_readBracket 28 = .ok (.iconst 1, 1) := by decide +kernel
theorem dX4_readBracket_29 : decode cX4_readBracket 29 = .ok (.iadd, 1) := by decide +kernel
theorem dX4_readBracket_30 : decode cX4_readBracket 30 = .ok (.invokevirtual 35, 3) := by decide +kernel
theorem dX4_readBracket_33 : decode cX4_readBracket 33 = .ok (.ifCond .eq 16, 3) := by decide +kernel
theorem dX4_readBracket_36 : decode cX4_readBracket 36 = .ok (.aload_n 1, 1) := by decide +kernel
theorem dX4_readBracket_37 : decode cX4_readBracket 37 = .ok (.bipush 41, 2) := by decide +kernel
theorem dX4_readBracket_39 : decode cX4_readBracket 39 = .ok (.invokevirtual 84, 3) := by decide +kernel
theorem dX4_readBracket_42 : decode cX4_readBracket 42 = .ok (.ifCond .eq 7, 3) := by decide +kernel
theorem dX4_readBracket_45 : decode cX4_readBracket 45 = .ok (.iconst 1, 1) := by decide +kernel
theorem dX4_readBracket_46 : decode cX4_readBracket 46 = .ok (.goto 4, 3) := by decide +kernel
theorem dX4_readBracket_49 : decode cX4_readBracket 49 = .ok (.iconst 0, 1) := by decide +kernel
theorem dX4_readBracket_50 : decode cX4_readBracket 50 = .ok (.ireturn, 1) := by decide +kernel
theorem dX4_readPair_0 : decode cX4_readPair 0 = .ok (.iload_n 2, 1) := by decide +kernel
theorem dX4_readPair_1 : decode cX4_readPair 1 = .ok (.bipush 6, 2) := by decide +kernel
theorem dX4_readPair_3 : decode cX4_readPair 3 = .ok (.if_icmp .lt 13, 3) := by decide +kernel
theorem dX4_readPair_6 : decode cX4_readPair 6 = .ok (.aload_n 1, 1) := by decide +kernel
theorem dX4_readPair_7 : decode cX4_readPair 7 = .ok (.iconst 3, 1) := by decide +kernel
theorem dX4_readPair_8 : decode cX4_readPair 8 = .ok (.aload_n 1, 1) := by decide +kernel
theorem dX4_readPair_9 : decode cX4_readPair 9 = .ok (.getfield 87, 3) := by decide +kernel
theorem dX4_readPair_12 : decode cX4_readPair 12 = .ok (.invokevirtual 48, 3) := by decide +kernel
theorem dX4_readPair_15 : decode cX4_readPair 15 = .ok (.ireturn, 1) := by decide +kernel
theorem dX4_readPair_16 : decode cX4_readPair 16 = .ok (.aload_n 1, 1) := by decide +kernel
theorem dX4_readPair_17 : decode cX4_readPair 17 = .ok (.bipush 91, 2) := by decide +kernel
theorem dX4_readPair_19 : decode cX4_readPair 19 = .ok (.invokevirtual 84, 3) := by decide +kernel
theorem dX4_readPair_22 : decode cX4_readPair 22 = .ok (.ifCond .eq 55, 3) := by decide +kernel
theorem dX4_readPair_25 : decode cX4_readPair 25 = .ok (.aload_n 0, 1) := by decide +kernel
theorem dX4_readPair_26 : decode cX4_readPair 26 = .ok (.aload_n 1, 1) := by decide +kernel
theorem dX4_readPair_27 : decode cX4_readPair 27 = .ok (.iload_n 2, 1) := by decide +kernel
theorem dX4_readPair_28 : decode cX4_readPair 28 = .ok (.iconst 1, 1) := by decide +kernel
theorem dX4_readPair_29 : decode cX4_readPair 29 = .ok (.iadd, 1) := by decide +kernel
theorem dX4_readPair_30 : decode cX4_readPair 30 = .ok (.invokevirtual 35, 3) := by decide +kernel
theorem dX4_readPair_33 : decode cX4_readPair 33 = .ok (.ifCond .eq 44, 3) := by decide +kernel
theorem dX4_readPair_36 : decode cX4_readPair 36 = .ok (.aload_n 1, 1) := by decide +kernel
theorem dX4_readPair_37 : decode cX4_readPair 37 = .ok (.bipush 44, 2) := by decide +kernel
theorem dX4_readPair_39 : decode cX4_readPair 39 = .ok (.invokevirtual 84, 3) := by decide +kernel
theorem dX4_readPair_42 : decode cX4_readPair 42 = .ok (.ifCond .eq 35, 3) := by decide +kernel
theorem dX4_readPair_45 : decode cX4_readPair 45 = .ok (.aload_n 0, 1) := by decide +kernel
theorem dX4_readPair_46 : decode cX4_readPair 46 = .ok (.aload_n 1, 1) := by decide +kernel
theorem dX4_readPair_47 : decode cX4_readPair 47 = .ok (.iload_n 2, 1) := by decide +kernel
theorem dX4_readPair_48 : decode cX4_readPair 48 = .ok (.iconst 1, 1) := by decide +kernel
theorem dX4_readPair_49 : decode cX4_readPair 49 = .ok (.iadd, 1) := by decide +kernel
theorem dX4_readPair_50 : decode cX4_readPair 50 = .ok (.invokevirtual 35, 3) := by decide +kernel
theorem dX4_readPair_53 : decode cX4_readPair 53 = .ok (.ifCond .eq 24, 3) := by decide +kernel
theorem dX4_readPair_56 : decode cX4_readPair 56 = .ok (.aload_n 1, 1) := by decide +kernel
theorem dX4_readPair_57 : decode cX4_readPair 57 = .ok (.bipush 93, 2) := by decide +kernel
theorem dX4_readPair_59 : decode cX4_readPair 59 = .ok (.invokevirtual 84, 3) := by decide +kernel
theorem dX4_readPair_62 : decode cX4_readPair 62 = .ok (.ifCond .eq 15, 3) := by decide +kernel
theorem dX4_readPair_65 : decode cX4_readPair 65 = .ok (.aload_n 0, 1) := by decide +kernel
theorem dX4_readPair_66 : decode cX4_readPair 66 = .ok (.iload_n 3, 1) := by decide +kernel
theorem dX4_readPair_67 : decode cX4_readPair 67 = .ok (.invokevirtual 25, 3) := by decide +kernel
theorem dX4_readPair_70 : decode cX4_readPair 70 = .ok (.ifCond .eq 7, 3) := by decide +kernel
theorem dX4_readPair_73 : decode cX4_readPair 73 = .ok (.iconst 1, 1) := by decide +kernel
theorem dX4_readPair_74 : decode cX4_readPair 74 = .ok (.goto 4, 3) := by decide +kernel
theorem dX4_readPair_77 : decode cX4_readPair 77 = .ok (.iconst 0, 1) := by decide +kernel
theorem dX4_readPair_78 : decode cX4_readPair 78 = .ok (.ireturn, 1) := by decide +kernel
theorem dX4_faceFor_0 : decode cX4_faceFor 0 = .ok (.iconst 0, 1) := by decide +kernel
theorem dX4_faceFor_1 : decode cX4_faceFor 1 = .ok (.istore_n 2, 1) := by decide +kernel
theorem dX4_faceFor_2 : decode cX4_faceFor 2 = .ok (.iconst 0, 1) := by decide +kernel
theorem dX4_faceFor_3 : decode cX4_faceFor 3 = .ok (.istore_n 3, 1) := by decide +kernel
theorem dX4_faceFor_4 : decode cX4_faceFor 4 = .ok (.iload_n 3, 1) := by decide +kernel
theorem dX4_faceFor_5 : decode cX4_faceFor 5 = .ok (.aload_n 0, 1) := by decide +kernel
theorem dX4_faceFor_6 : decode cX4_faceFor 6 = .ok (.getfield 21, 3) := by decide +kernel
theorem dX4_faceFor_9 : decode cX4_faceFor 9 = .ok (.if_icmp .ge 111, 3) := by decide +kernel
theorem dX4_faceFor_12 : decode cX4_faceFor 12 = .ok (.aload_n 0, 1) := by decide +kernel
theorem dX4_faceFor_13 : decode cX4_faceFor 13 = .ok (.getfield 9, 3) := by decide +kernel
theorem dX4_faceFor_16 : decode cX4_faceFor 16 = .ok (.iload_n 3, 1) := by decide +kernel
theorem dX4_faceFor_17 : decode cX4_faceFor 17 = .ok (.iaload, 1) := by decide +kernel
theorem dX4_faceFor_18 : decode cX4_faceFor 18 = .ok (.istore 4, 2) := by decide +kernel
theorem dX4_faceFor_20 : decode cX4_faceFor 20 = .ok (.iload 4, 2) := by decide +kernel
theorem dX4_faceFor_22 : decode cX4_faceFor 22 = .ok (.sipush 2000, 3) := by decide +kernel
theorem dX4_faceFor_25 : decode cX4_faceFor 25 = .ok (.if_icmp .lt 43, 3) := by decide +kernel
theorem dX4_faceFor_28 : decode cX4_faceFor 28 = .ok (.iload_n 2, 1) := by decide +kernel
theorem dX4_faceFor_29 : decode cX4_faceFor 29 = .ok (.iconst 2, 1) := by decide +kernel
theorem dX4_faceFor_30 : decode cX4_faceFor 30 = .ok (.if_icmp .ge 5, 3) := by decide +kernel
theorem dX4_faceFor_33 : decode cX4_faceFor 33 = .ok (.iconst 0, 1) := by decide +kernel
theorem dX4_faceFor_34 : decode cX4_faceFor 34 = .ok (.ireturn, 1) := by decide +kernel
theorem dX4_faceFor_35 : decode cX4_faceFor 35 = .ok (.iinc 2 (-1), 3) := by decide +kernel
theorem dX4_faceFor_38 : decode cX4_faceFor 38 = .ok (.aload_n 0, 1) := by decide +kernel
theorem dX4_faceFor_39 : decode cX4_faceFor 39 = .ok (.getfield 15, 3) := by decide +kernel
theorem dX4_faceFor_42 : decode cX4_faceFor 42 = .ok (.iload_n 2, 1) := by decide +kernel
theorem dX4_faceFor_43 : decode cX4_faceFor 43 = .ok (.iconst 1, 1) := by decide +kernel
theorem dX4_faceFor_44 : decode cX4_faceFor 44 = .ok (.isub, 1) := by decide +kernel
theorem dX4_faceFor_45 : decode cX4_faceFor 45 = .ok (.iload 4, 2) := by decide +kernel
theorem dX4_faceFor_47 : decode cX4_faceFor 47 = .ok (.aload_n 0, 1) := by decide +kernel
theorem dX4_faceFor_48 : decode cX4_faceFor 48 = .ok (.getfield 15, 3) := by decide +kernel
theorem dX4_faceFor_51 : decode cX4_faceFor 51 = .ok (.iload_n 2, 1) := by decide +kernel
theorem dX4_faceFor_52 : decode cX4_faceFor 52 = .ok (.iconst 1, 1) := by decide +kernel
theorem dX4_faceFor_53 : decode cX4_faceFor 53 = .ok (.isub, 1) := by decide +kernel
theorem dX4_faceFor_54 : decode cX4_faceFor 54 = .ok (.iaload, 1) := by decide +kernel
theorem dX4_faceFor_55 : decode cX4_faceFor 55 = .ok (.aload_n 0, 1) := by decide +kernel
theorem dX4_faceFor_56 : decode cX4_faceFor 56 = .ok (.getfield 15, 3) := by decide +kernel
theorem dX4_faceFor_59 : decode cX4_faceFor 59 = .ok (.iload_n 2, 1) := by decide +kernel
theorem dX4_faceFor_60 : decode cX4_faceFor 60 = .ok (.iaload, 1) := by decide +kernel
theorem dX4_faceFor_61 : decode cX4_faceFor 61 = .ok (.invokestatic 90, 3) := by decide +kernel
theorem dX4_faceFor_64 : decode cX4_faceFor 64 = .ok (.iastore, 1) := by decide +kernel
theorem dX4_faceFor_65 : decode cX4_faceFor 65 = .ok (.goto 49, 3) := by decide +kernel
theorem dX4_faceFor_68 : decode cX4_faceFor 68 = .ok (.iload 4, 2) := by decide +kernel
theorem dX4_faceFor_70 : decode cX4_faceFor 70 = .ok (.sipush 1000, 3) := by decide +kernel
theorem dX4_faceFor_73 : decode cX4_faceFor 73 = .ok (.isub, 1) := by decide +kernel
theorem dX4_faceFor_74 : decode cX4_faceFor 74 = .ok (.istore 5, 2) := by decide +kernel
theorem dX4_faceFor_76 : decode cX4_faceFor 76 = .ok (.iload_n 2, 1) := by decide +kernel
theorem dX4_faceFor_77 : decode cX4_faceFor 77 = .ok (.bipush 24, 2) := by decide +kernel
theorem dX4_faceFor_79 : decode cX4_faceFor 79 = .ok (.if_icmp .ge 10, 3) := by decide +kernel
theorem dX4_faceFor_82 : decode cX4_faceFor 82 = .ok (.iload 5, 2) := by decide +kernel
theorem dX4_faceFor_84 : decode cX4_faceFor 84 = .ok (.aload_n 1, 1) := by decide +kernel
theorem dX4_faceFor_85 : decode cX4_faceFor 85 = .ok (.arraylength, 1) := by decide +kernel
theorem dX4_faceFor_86 : decode cX4_faceFor 86 = .ok (.if_icmp .lt 5, 3) := by decide +kernel
theorem dX4_faceFor_89 : decode cX4_faceFor 89 = .ok (.iconst 0, 1) := by decide +kernel
theorem dX4_faceFor_90 : decode cX4_faceFor 90 = .ok (.ireturn, 1) := by decide +kernel
theorem dX4_faceFor_91 : decode cX4_faceFor 91 = .ok (.aload_n 0, 1) := by decide +kernel
theorem dX4_faceFor_92 : decode cX4_faceFor 92 = .ok (.getfield 15, 3) := by decide +kernel
theorem dX4_faceFor_95 : decode cX4_faceFor 95 = .ok (.iload_n 2, 1) := by decide +kernel
theorem dX4_faceFor_96 : decode cX4_faceFor 96 = .ok (.iload 5, 2) := by decide +kernel
theorem dX4_faceFor_98 : decode cX4_faceFor 98 = .ok (.ifCond .lt 10, 3) := by decide +kernel
theorem dX4_faceFor_101 : decode cX4_faceFor 101 = .ok (.aload_n 1, 1) := by decide +kernel
theorem dX4_faceFor_102 : decode cX4_faceFor 102 = .ok (.iload 5, 2) := by decide +kernel
theorem dX4_faceFor_104 : decode cX4_faceFor 104 = .ok (.iaload, 1) := by decide +kernel
theorem dX4_faceFor_105 : decode cX4_faceFor 105 = .ok (.goto 5, 3) := by decide +kernel
theorem dX4_faceFor_108 : decode cX4_faceFor 108 = .ok (.iload 4, 2) := by decide +kernel
theorem dX4_faceFor_110 : decode cX4_faceFor 110 = .ok (.iastore, 1) := by decide +kernel
theorem dX4_faceFor_111 : decode cX4_faceFor 111 = .ok (.iinc 2 1, 3) := by decide +kernel
theorem dX4_faceFor_114 : decode cX4_faceFor 114 = .ok (.iinc 3 1, 3) := by decide +kernel
theorem dX4_faceFor_117 : decode cX4_faceFor 117 = .ok (.goto (-113), 3) := by decide +kernel
theorem dX4_faceFor_120 : decode cX4_faceFor 120 = .ok (.iload_n 2, 1) := by decide +kernel
theorem dX4_faceFor_121 : decode cX4_faceFor 121 = .ok (.iconst 1, 1) := by decide +kernel
theorem dX4_faceFor_122 : decode cX4_faceFor 122 = .ok (.if_icmp .ne 21, 3) := by decide +kernel
theorem dX4_faceFor_125 : decode cX4_faceFor 125 = .ok (.iconst 0, 1) := by decide +kernel
theorem dX4_faceFor_126 : decode cX4_faceFor 126 = .ok (.bipush 63, 2) := by decide +kernel
theorem dX4_faceFor_128 : decode cX4_faceFor 128 = .ok (.aload_n 0, 1) := by decide +kernel
theorem dX4_faceFor_129 : decode cX4_faceFor 129 = .ok (.getfield 15, 3) := by decide +kernel
theorem dX4_faceFor_132 : decode cX4_faceFor 132 = .ok (.iconst 0, 1) := by decide +kernel
theorem dX4_faceFor_133 : decode cX4_faceFor 133 = .ok (.iaload, 1) := by decide +kernel
theorem dX4_faceFor_134 : decode cX4_faceFor 134 = .ok (.invokestatic 94, 3) := by decide +kernel
theorem dX4_faceFor_137 : decode cX4_faceFor 137 = .ok (.invokestatic 100, 3) := by decide +kernel
theorem dX4_faceFor_140 : decode cX4_faceFor 140 = .ok (.goto 4, 3) := by decide +kernel
theorem dX4_faceFor_143 : decode cX4_faceFor 143 = .ok (.iconst 0, 1) := by decide +kernel
theorem dX4_faceFor_144 : decode cX4_faceFor 144 = .ok (.ireturn, 1) := by decide +kernel
theorem dX4_joined_0 : decode cX4_joined 0 = .ok (.iload_n 0, 1) := by decide +kernel
theorem dX4_joined_1 : decode cX4_joined 1 = .ok (.tableswitch 86 2000 2005 #[39, 43, 47, 51, 63, 75], 39) := by decide +kernel
theorem dX4_joined_40 : decode cX4_joined 40 = .ok (.iload_n 1, 1) := by decide +kernel
theorem dX4_joined_41 : decode cX4_joined 41 = .ok (.iload_n 2, 1) := by decide +kernel
theorem dX4_joined_42 : decode cX4_joined 42 = .ok (.iadd, 1) := by decide +kernel
theorem dX4_joined_43 : decode cX4_joined 43 = .ok (.ireturn, 1) := by decide +kernel
theorem dX4_joined_44 : decode cX4_joined 44 = .ok (.iload_n 1, 1) := by decide +kernel
theorem dX4_joined_45 : decode cX4_joined 45 = .ok (.iload_n 2, 1) := by decide +kernel
theorem dX4_joined_46 : decode cX4_joined 46 = .ok (.isub, 1) := by decide +kernel
theorem dX4_joined_47 : decode cX4_joined 47 = .ok (.ireturn, 1) := by decide +kernel
theorem dX4_joined_48 : decode cX4_joined 48 = .ok (.iload_n 1, 1) := by decide +kernel
theorem dX4_joined_49 : decode cX4_joined 49 = .ok (.iload_n 2, 1) := by decide +kernel
theorem dX4_joined_50 : decode cX4_joined 50 = .ok (.imul, 1) := by decide +kernel
theorem dX4_joined_51 : decode cX4_joined 51 = .ok (.ireturn, 1) := by decide +kernel
theorem dX4_joined_52 : decode cX4_joined 52 = .ok (.iload_n 2, 1) := by decide +kernel
theorem dX4_joined_53 : decode cX4_joined 53 = .ok (.ifCond .ne 7, 3) := by decide +kernel
theorem dX4_joined_56 : decode cX4_joined 56 = .ok (.iconst 0, 1) := by decide +kernel
theorem dX4_joined_57 : decode cX4_joined 57 = .ok (.goto 6, 3) := by decide +kernel
theorem dX4_joined_60 : decode cX4_joined 60 = .ok (.iload_n 1, 1) := by decide +kernel
theorem dX4_joined_61 : decode cX4_joined 61 = .ok (.iload_n 2, 1) := by decide +kernel
theorem dX4_joined_62 : decode cX4_joined 62 = .ok (.idiv, 1) := by decide +kernel
theorem dX4_joined_63 : decode cX4_joined 63 = .ok (.ireturn, 1) := by decide +kernel
theorem dX4_joined_64 : decode cX4_joined 64 = .ok (.iload_n 2, 1) := by decide +kernel
theorem dX4_joined_65 : decode cX4_joined 65 = .ok (.ifCond .ne 7, 3) := by decide +kernel
theorem dX4_joined_68 : decode cX4_joined 68 = .ok (.iconst 0, 1) := by decide +kernel
theorem dX4_joined_69 : decode cX4_joined 69 = .ok (.goto 6, 3) := by decide +kernel
theorem dX4_joined_72 : decode cX4_joined 72 = .ok (.iload_n 1, 1) := by decide +kernel
theorem dX4_joined_73 : decode cX4_joined 73 = .ok (.iload_n 2, 1) := by decide +kernel
theorem dX4_joined_74 : decode cX4_joined 74 = .ok (.irem, 1) := by decide +kernel
theorem dX4_joined_75 : decode cX4_joined 75 = .ok (.ireturn, 1) := by decide +kernel
theorem dX4_joined_76 : decode cX4_joined 76 = .ok (.iload_n 1, 1) := by decide +kernel
theorem dX4_joined_77 : decode cX4_joined 77 = .ok (.iload_n 2, 1) := by decide +kernel
theorem dX4_joined_78 : decode cX4_joined 78 = .ok (.if_icmp .ge 7, 3) := by decide +kernel
theorem dX4_joined_81 : decode cX4_joined 81 = .ok (.iload_n 1, 1) := by decide +kernel
theorem dX4_joined_82 : decode cX4_joined 82 = .ok (.goto 4, 3) := by decide +kernel
theorem dX4_joined_85 : decode cX4_joined 85 = .ok (.iload_n 2, 1) := by decide +kernel
theorem dX4_joined_86 : decode cX4_joined 86 = .ok (.ireturn, 1) := by decide +kernel
theorem dX4_joined_87 : decode cX4_joined 87 = .ok (.iload_n 1, 1) := by decide +kernel
theorem dX4_joined_88 : decode cX4_joined 88 = .ok (.iload_n 2, 1) := by decide +kernel
theorem dX4_joined_89 : decode cX4_joined 89 = .ok (.if_icmp .le 7, 3) := by decide +kernel
theorem dX4_joined_92 : decode cX4_joined 92 = .ok (.iload_n 1, 1) := by decide +kernel
theorem dX4_joined_93 : decode cX4_joined 93 = .ok (.goto 4, 3) := by decide +kernel
theorem dX4_joined_96 : decode cX4_joined 96 = .ok (.iload_n 2, 1) := by decide +kernel
theorem dX4_joined_97 : decode cX4_joined 97 = .ok (.ireturn, 1) := by decide +kernel
theorem dX5_init_0 : decode cX5_init 0 = .ok (.aload_n 0, 1) := by decide +kernel
theorem dX5_init_1 : decode cX5_init 1 = .ok (.invokespecial 3, 3) := by decide +kernel
theorem dX5_init_4 : decode cX5_init 4 = .ok (.aload_n 0, 1) := by decide +kernel
theorem dX5_init_5 : decode cX5_init 5 = .ok (.bipush 8, 2) := by decide +kernel
theorem dX5_init_7 : decode cX5_init 7 = .ok (.newarray .int, 2) := by decide +kernel
theorem dX5_init_9 : decode cX5_init 9 = .ok (.putfield 9, 3) := by decide +kernel
theorem dX5_init_12 : decode cX5_init 12 = .ok (.aload_n 0, 1) := by decide +kernel
theorem dX5_init_13 : decode cX5_init 13 = .ok (.bipush 8, 2) := by decide +kernel
theorem dX5_init_15 : decode cX5_init 15 = .ok (.newarray .int, 2) := by decide +kernel
theorem dX5_init_17 : decode cX5_init 17 = .ok (.putfield 15, 3) := by decide +kernel
theorem dX5_init_20 : decode cX5_init 20 = .ok (.aload_n 0, 1) := by decide +kernel
theorem dX5_init_21 : decode cX5_init 21 = .ok (.bipush 8, 2) := by decide +kernel
theorem dX5_init_23 : decode cX5_init 23 = .ok (.newarray .int, 2) := by decide +kernel
theorem dX5_init_25 : decode cX5_init 25 = .ok (.putfield 18, 3) := by decide +kernel
theorem dX5_init_28 : decode cX5_init 28 = .ok (.aload_n 0, 1) := by decide +kernel
theorem dX5_init_29 : decode cX5_init 29 = .ok (.bipush 40, 2) := by decide +kernel
theorem dX5_init_31 : decode cX5_init 31 = .ok (.newarray .int, 2) := by decide +kernel
theorem dX5_init_33 : decode cX5_init 33 = .ok (.putfield 21, 3) := by decide +kernel
theorem dX5_init_36 : decode cX5_init 36 = .ok (.return_, 1) := by decide +kernel
theorem dX5_clear_0 : decode cX5_clear 0 = .ok (.iconst 0, 1) := by decide +kernel
theorem dX5_clear_1 : decode cX5_clear 1 = .ok (.istore_n 1, 1) := by decide +kernel
theorem dX5_clear_2 : decode cX5_clear 2 = .ok (.iload_n 1, 1) := by decide +kernel
theorem dX5_clear_3 : decode cX5_clear 3 = .ok (.bipush 8, 2) := by decide +kernel
theorem dX5_clear_5 : decode cX5_clear 5 = .ok (.if_icmp .ge 30, 3) := by decide +kernel
theorem dX5_clear_8 : decode cX5_clear 8 = .ok (.aload_n 0, 1) := by decide +kernel
theorem dX5_clear_9 : decode cX5_clear 9 = .ok (.getfield 9, 3) := by decide +kernel
theorem dX5_clear_12 : decode cX5_clear 12 = .ok (.iload_n 1, 1) := by decide +kernel
theorem dX5_clear_13 : decode cX5_clear 13 = .ok (.iconst 0, 1) := by decide +kernel
theorem dX5_clear_14 : decode cX5_clear 14 = .ok (.iastore, 1) := by decide +kernel
theorem dX5_clear_15 : decode cX5_clear 15 = .ok (.aload_n 0, 1) := by decide +kernel
theorem dX5_clear_16 : decode cX5_clear 16 = .ok (.getfield 15, 3) := by decide +kernel
theorem dX5_clear_19 : decode cX5_clear 19 = .ok (.iload_n 1, 1) := by decide +kernel
theorem dX5_clear_20 : decode cX5_clear 20 = .ok (.iconst 0, 1) := by decide +kernel
theorem dX5_clear_21 : decode cX5_clear 21 = .ok (.iastore, 1) := by decide +kernel
theorem dX5_clear_22 : decode cX5_clear 22 = .ok (.aload_n 0, 1) := by decide +kernel
theorem dX5_clear_23 : decode cX5_clear 23 = .ok (.getfield 18, 3) := by decide +kernel
theorem dX5_clear_26 : decode cX5_clear 26 = .ok (.iload_n 1, 1) := by decide +kernel
theorem dX5_clear_27 : decode cX5_clear 27 = .ok (.iconst 0, 1) := by decide +kernel
theorem dX5_clear_28 : decode cX5_clear 28 = .ok (.iastore, 1) := by decide +kernel
theorem dX5_clear_29 : decode cX5_clear 29 = .ok (.iinc 1 1, 3) := by decide +kernel
theorem dX5_clear_32 : decode cX5_clear 32 = .ok (.goto (-30), 3) := by decide +kernel
theorem dX5_clear_35 : decode cX5_clear 35 = .ok (.aload_n 0, 1) := by decide +kernel
theorem dX5_clear_36 : decode cX5_clear 36 = .ok (.iconst 0, 1) := by decide +kernel
theorem dX5_clear_37 : decode cX5_clear 37 = .ok (.putfield 24, 3) := by decide +kernel
theorem dX5_clear_40 : decode cX5_clear 40 = .ok (.aload_n 0, 1) := by decide +kernel
theorem dX5_clear_41 : decode cX5_clear 41 = .ok (.iconst 0, 1) := by decide +kernel
theorem dX5_clear_42 : decode cX5_clear 42 = .ok (.putfield 28, 3) := by decide +kernel
theorem dX5_clear_45 : decode cX5_clear 45 = .ok (.return_, 1) := by decide +kernel
theorem dX5_copyFrom_0 : decode cX5_copyFrom 0 = .ok (.aload_n 1, 1) := by decide +kernel
theorem dX5_copyFrom_1 : decode cX5_copyFrom 1 = .ok (.getfield 9, 3) := by decide +kernel
theorem dX5_copyFrom_4 : decode cX5_copyFrom 4 = .ok (.iconst 0, 1) := by decide +kernel
theorem dX5_copyFrom_5 : decode cX5_copyFrom 5 = .ok (.aload_n 0, 1) := by decide +kernel
theorem dX5_copyFrom_6 : decode cX5_copyFrom 6 = .ok (.getfield 9, 3) := by decide +kernel
theorem dX5_copyFrom_9 : decode cX5_copyFrom 9 = .ok (.iconst 0, 1) := by decide +kernel
theorem dX5_copyFrom_10 : decode cX5_copyFrom 10 = .ok (.bipush 8, 2) := by decide +kernel
theorem dX5_copyFrom_12 : decode cX5_copyFrom 12 = .ok (.invokestatic 31, 3) := by decide +kernel
theorem dX5_copyFrom_15 : decode cX5_copyFrom 15 = .ok (.aload_n 1, 1) := by decide +kernel
theorem dX5_copyFrom_16 : decode cX5_copyFrom 16 = .ok (.getfield 15, 3) := by decide +kernel
theorem dX5_copyFrom_19 : decode cX5_copyFrom 19 = .ok (.iconst 0, 1) := by decide +kernel
theorem dX5_copyFrom_20 : decode cX5_copyFrom 20 = .ok (.aload_n 0, 1) := by decide +kernel
theorem dX5_copyFrom_21 : decode cX5_copyFrom 21 = .ok (.getfield 15, 3) := by decide +kernel
theorem dX5_copyFrom_24 : decode cX5_copyFrom 24 = .ok (.iconst 0, 1) := by decide +kernel
theorem dX5_copyFrom_25 : decode cX5_copyFrom 25 = .ok (.bipush 8, 2) := by decide +kernel
theorem dX5_copyFrom_27 : decode cX5_copyFrom 27 = .ok (.invokestatic 31, 3) := by decide +kernel
theorem dX5_copyFrom_30 : decode cX5_copyFrom 30 = .ok (.aload_n 1, 1) := by decide +kernel
theorem dX5_copyFrom_31 : decode cX5_copyFrom 31 = .ok (.getfield 18, 3) := by decide +kernel
theorem dX5_copyFrom_34 : decode cX5_copyFrom 34 = .ok (.iconst 0, 1) := by decide +kernel
theorem dX5_copyFrom_35 : decode cX5_copyFrom 35 = .ok (.aload_n 0, 1) := by decide +kernel
theorem dX5_copyFrom_36 : decode cX5_copyFrom 36 = .ok (.getfield 18, 3) := by decide +kernel
theorem dX5_copyFrom_39 : decode cX5_copyFrom 39 = .ok (.iconst 0, 1) := by decide +kernel
theorem dX5_copyFrom_40 : decode cX5_copyFrom 40 = .ok (.bipush 8, 2) := by decide +kernel
theorem dX5_copyFrom_42 : decode cX5_copyFrom 42 = .ok (.invokestatic 31, 3) := by decide +kernel
theorem dX5_copyFrom_45 : decode cX5_copyFrom 45 = .ok (.aload_n 1, 1) := by decide +kernel
theorem dX5_copyFrom_46 : decode cX5_copyFrom 46 = .ok (.getfield 21, 3) := by decide +kernel
theorem dX5_copyFrom_49 : decode cX5_copyFrom 49 = .ok (.iconst 0, 1) := by decide +kernel
theorem dX5_copyFrom_50 : decode cX5_copyFrom 50 = .ok (.aload_n 0, 1) := by decide +kernel
theorem dX5_copyFrom_51 : decode cX5_copyFrom 51 = .ok (.getfield 21, 3) := by decide +kernel
theorem dX5_copyFrom_54 : decode cX5_copyFrom 54 = .ok (.iconst 0, 1) := by decide +kernel
theorem dX5_copyFrom_55 : decode cX5_copyFrom 55 = .ok (.bipush 40, 2) := by decide +kernel
theorem dX5_copyFrom_57 : decode cX5_copyFrom 57 = .ok (.invokestatic 31, 3) := by decide +kernel
theorem dX5_copyFrom_60 : decode cX5_copyFrom 60 = .ok (.aload_n 0, 1) := by decide +kernel
theorem dX5_copyFrom_61 : decode cX5_copyFrom 61 = .ok (.aload_n 1, 1) := by decide +kernel
theorem dX5_copyFrom_62 : decode cX5_copyFrom 62 = .ok (.getfield 24, 3) := by decide +kernel
theorem dX5_copyFrom_65 : decode cX5_copyFrom 65 = .ok (.putfield 24, 3) := by decide +kernel
theorem dX5_copyFrom_68 : decode cX5_copyFrom 68 = .ok (.aload_n 0, 1) := by decide +kernel
theorem dX5_copyFrom_69 : decode cX5_copyFrom 69 = .ok (.aload_n 1, 1) := by decide +kernel
theorem dX5_copyFrom_70 : decode cX5_copyFrom 70 = .ok (.getfield 28, 3) := by decide +kernel
theorem dX5_copyFrom_73 : decode cX5_copyFrom 73 = .ok (.putfield 28, 3) := by decide +kernel
theorem dX5_copyFrom_76 : decode cX5_copyFrom 76 = .ok (.return_, 1) := by decide +kernel
theorem dX5_takerOf_0 : decode cX5_takerOf 0 = .ok (.aload_n 0, 1) := by decide +kernel
theorem dX5_takerOf_1 : decode cX5_takerOf 1 = .ok (.getfield 21, 3) := by decide +kernel
theorem dX5_takerOf_4 : decode cX5_takerOf 4 = .ok (.iload_n 1, 1) := by decide +kernel
theorem dX5_takerOf_5 : decode cX5_takerOf 5 = .ok (.iaload, 1) := by decide +kernel
theorem dX5_takerOf_6 : decode cX5_takerOf 6 = .ok (.bipush 7, 2) := by decide +kernel
theorem dX5_takerOf_8 : decode cX5_takerOf 8 = .ok (.iand, 1) := by decide +kernel
theorem dX5_takerOf_9 : decode cX5_takerOf 9 = .ok (.ireturn, 1) := by decide +kernel
theorem dX5_sitterOf_0 : decode cX5_sitterOf 0 = .ok (.aload_n 0, 1) := by decide +kernel
theorem dX5_sitterOf_1 : decode cX5_sitterOf 1 = .ok (.getfield 21, 3) := by decide +kernel
theorem dX5_sitterOf_4 : decode cX5_sitterOf 4 = .ok (.iload_n 1, 1) := by decide +kernel
theorem dX5_sitterOf_5 : decode cX5_sitterOf 5 = .ok (.iaload, 1) := by decide +kernel
theorem dX5_sitterOf_6 : decode cX5_sitterOf 6 = .ok (.iconst 3, 1) := by decide +kernel
theorem dX5_sitterOf_7 : decode cX5_sitterOf 7 = .ok (.ishr, 1) := by decide +kernel
theorem dX5_sitterOf_8 : decode cX5_sitterOf 8 = .ok (.bipush 7, 2) := by decide +kernel
theorem dX5_sitterOf_10 : decode cX5_sitterOf 10 = .ok (.iand, 1) := by decide +kernel
theorem dX5_sitterOf_11 : decode cX5_sitterOf 11 = .ok (.ireturn, 1) := by decide +kernel
theorem dX5_hallOf_0 : decode cX5_hallOf 0 = .ok (.aload_n 0, 1) := by decide +kernel
theorem dX5_hallOf_1 : decode cX5_hallOf 1 = .ok (.getfield 21, 3) := by decide +kernel
theorem dX5_hallOf_4 : decode cX5_hallOf 4 = .ok (.iload_n 1, 1) := by decide +kernel
theorem dX5_hallOf_5 : decode cX5_hallOf 5 = .ok (.iaload, 1) := by decide +kernel
theorem dX5_hallOf_6 : decode cX5_hallOf 6 = .ok (.bipush 6, 2) := by decide +kernel
theorem dX5_hallOf_8 : decode cX5_hallOf 8 = .ok (.ishr, 1) := by decide +kernel
theorem dX5_hallOf_9 : decode cX5_hallOf 9 = .ok (.bipush 7, 2) := by decide +kernel
theorem dX5_hallOf_11 : decode cX5_hallOf 11 = .ok (.iand, 1) := by decide +kernel
theorem dX5_hallOf_12 : decode cX5_hallOf 12 = .ok (.ireturn, 1) := by decide +kernel
theorem dX5_faceOn_0 : decode cX5_faceOn 0 = .ok (.aload_n 0, 1) := by decide +kernel
theorem dX5_faceOn_1 : decode cX5_faceOn 1 = .ok (.getfield 21, 3) := by decide +kernel
theorem dX5_faceOn_4 : decode cX5_faceOn 4 = .ok (.iload_n 1, 1) := by decide +kernel
theorem dX5_faceOn_5 : decode cX5_faceOn 5 = .ok (.iaload, 1) := by decide +kernel
theorem dX5_faceOn_6 : decode cX5_faceOn 6 = .ok (.bipush 9, 2) := by decide +kernel
theorem dX5_faceOn_8 : decode cX5_faceOn 8 = .ok (.ishr, 1) := by decide +kernel
theorem dX5_faceOn_9 : decode cX5_faceOn 9 = .ok (.bipush 63, 2) := by decide +kernel
theorem dX5_faceOn_11 : decode cX5_faceOn 11 = .ok (.iand, 1) := by decide +kernel
theorem dX5_faceOn_12 : decode cX5_faceOn 12 = .ok (.ireturn, 1) := by decide +kernel
theorem dX5_yearOf_0 : decode cX5_yearOf 0 = .ok (.aload_n 0, 1) := by decide +kernel
theorem dX5_yearOf_1 : decode cX5_yearOf 1 = .ok (.getfield 21, 3) := by decide +kernel
theorem dX5_yearOf_4 : decode cX5_yearOf 4 = .ok (.iload_n 1, 1) := by decide +kernel
theorem dX5_yearOf_5 : decode cX5_yearOf 5 = .ok (.iaload, 1) := by decide +kernel
theorem dX5_yearOf_6 : decode cX5_yearOf 6 = .ok (.bipush 15, 2) := by decide +kernel
theorem dX5_yearOf_8 : decode cX5_yearOf 8 = .ok (.ishr, 1) := by decide +kernel
theorem dX5_yearOf_9 : decode cX5_yearOf 9 = .ok (.ireturn, 1) := by decide +kernel
theorem dX5_isFull_0 : decode cX5_isFull 0 = .ok (.aload_n 0, 1) := by decide +kernel
theorem dX5_isFull_1 : decode cX5_isFull 1 = .ok (.getfield 24, 3) := by decide +kernel
theorem dX5_isFull_4 : decode cX5_isFull 4 = .ok (.bipush 40, 2) := by decide +kernel
theorem dX5_isFull_6 : decode cX5_isFull 6 = .ok (.if_icmp .lt 7, 3) := by decide +kernel
theorem dX5_isFull_9 : decode cX5_isFull 9 = .ok (.iconst 1, 1) := by decide +kernel
theorem dX5_isFull_10 : decode cX5_isFull 10 = .ok (.goto 4, 3) := by decide +kernel
theorem dX5_isFull_13 : decode cX5_isFull 13 = .ok (.iconst 0, 1) := by decide +kernel
theorem dX5_isFull_14 : decode cX5_isFull 14 = .ok (.ireturn, 1) := by decide +kernel
theorem dX5_hang_0 : decode cX5_hang 0 = .ok (.aload_n 0, 1) := by decide +kernel
theorem dX5_hang_1 : decode cX5_hang 1 = .ok (.invokevirtual 37, 3) := by decide +kernel
theorem dX5_hang_4 : decode cX5_hang 4 = .ok (.ifCond .eq 4, 3) := by decide +kernel
theorem dX5_hang_7 : decode cX5_hang 7 = .ok (.return_, 1) := by decide +kernel
theorem dX5_hang_8 : decode cX5_hang 8 = .ok (.aload_n 0, 1) := by decide +kernel
theorem dX5_hang_9 : decode cX5_hang 9 = .ok (.getfield 21, 3) := by decide +kernel
theorem dX5_hang_12 : decode cX5_hang 12 = .ok (.aload_n 0, 1) := by decide +kernel
theorem dX5_hang_13 : decode cX5_hang 13 = .ok (.getfield 24, 3) := by decide +kernel
theorem dX5_hang_16 : decode cX5_hang 16 = .ok (.iload_n 1, 1) := by decide +kernel
theorem dX5_hang_17 : decode cX5_hang 17 = .ok (.iload_n 2, 1) := by decide +kernel
theorem dX5_hang_18 : decode cX5_hang 18 = .ok (.iconst 3, 1) := by decide +kernel
theorem dX5_hang_19 : decode cX5_hang 19 = .ok (.ishl, 1) := by decide +kernel
theorem dX5_hang_20 : decode cX5_hang 20 = .ok (.ior, 1) := by decide +kernel
theorem dX5_hang_21 : decode cX5_hang 21 = .ok (.iload_n 3, 1) := by decide +kernel
theorem dX5_hang_22 : decode cX5_hang 22 = .ok (.bipush 6, 2) := by decide +kernel
theorem dX5_hang_24 : decode cX5_hang 24 = .ok (.ishl, 1) := by decide +kernel
theorem dX5_hang_25 : decode cX5_hang 25 = .ok (.ior, 1) := by decide +kernel
theorem dX5_hang_26 : decode cX5_hang 26 = .ok (.iload 4, 2) := by decide +kernel
theorem dX5_hang_28 : decode cX5_hang 28 = .ok (.bipush 9, 2) := by decide +kernel
theorem dX5_hang_30 : decode cX5_hang 30 = .ok (.ishl, 1) := by decide +kernel
theorem dX5_hang_31 : decode cX5_hang 31 = .ok (.ior, 1) := by decide +kernel
theorem dX5_hang_32 : decode cX5_hang 32 = .ok (.aload_n 0, 1) := by decide +kernel
theorem dX5_hang_33 : decode cX5_hang 33 = .ok (.getfield 28, 3) := by decide +kernel
theorem dX5_hang_36 : decode cX5_hang 36 = .ok (.bipush 15, 2) := by decide +kernel
theorem dX5_hang_38 : decode cX5_hang 38 = .ok (.ishl, 1) := by decide +kernel
theorem dX5_hang_39 : decode cX5_hang 39 = .ok (.ior, 1) := by decide +kernel
theorem dX5_hang_40 : decode cX5_hang 40 = .ok (.iastore, 1) := by decide +kernel
theorem dX5_hang_41 : decode cX5_hang 41 = .ok (.aload_n 0, 1) := by decide +kernel
theorem dX5_hang_42 : decode cX5_hang 42 = .ok (.dup, 1) := by decide +kernel
theorem dX5_hang_43 : decode cX5_hang 43 = .ok (.getfield 24, 3) := by decide +kernel
theorem dX5_hang_46 : decode cX5_hang 46 = .ok (.iconst 1, 1) := by decide +kernel
theorem dX5_hang_47 : decode cX5_hang 47 = .ok (.iadd, 1) := by decide +kernel
theorem dX5_hang_48 : decode cX5_hang 48 = .ok (.putfield 24, 3) := by decide +kernel
theorem dX5_hang_51 : decode cX5_hang 51 = .ok (.aload_n 0, 1) := by decide +kernel
theorem dX5_hang_52 : decode cX5_hang 52 = .ok (.getfield 15, 3) := by decide +kernel
theorem dX5_hang_55 : decode cX5_hang 55 = .ok (.iload_n 1, 1) := by decide +kernel
theorem dX5_hang_56 : decode cX5_hang 56 = .ok (.dup2, 1) := by decide +kernel
theorem dX5_hang_57 : decode cX5_hang 57 = .ok (.iaload, 1) := by decide +kernel
theorem dX5_hang_58 : decode cX5_hang 58 = .ok (.iconst 1, 1) := by decide +kernel
theorem dX5_hang_59 : decode cX5_hang 59 = .ok (.iadd, 1) := by decide +kernel
theorem dX5_hang_60 : decode cX5_hang 60 = .ok (.iastore, 1) := by decide +kernel
theorem dX5_hang_61 : decode cX5_hang 61 = .ok (.aload_n 0, 1) := by decide +kernel
theorem dX5_hang_62 : decode cX5_hang 62 = .ok (.getfield 18, 3) := by decide +kernel
theorem dX5_hang_65 : decode cX5_hang 65 = .ok (.iload_n 2, 1) := by decide +kernel
theorem dX5_hang_66 : decode cX5_hang 66 = .ok (.dup2, 1) := by decide +kernel
theorem dX5_hang_67 : decode cX5_hang 67 = .ok (.iaload, 1) := by decide +kernel
theorem dX5_hang_68 : decode cX5_hang 68 = .ok (.iconst 1, 1) := by decide +kernel
theorem dX5_hang_69 : decode cX5_hang 69 = .ok (.iadd, 1) := by decide +kernel
theorem dX5_hang_70 : decode cX5_hang 70 = .ok (.iastore, 1) := by decide +kernel
theorem dX5_hang_71 : decode cX5_hang 71 = .ok (.return_, 1) := by decide +kernel
theorem dX5_burn_0 : decode cX5_burn 0 = .ok (.iconst 0, 1) := by decide +kernel
theorem dX5_burn_1 : decode cX5_burn 1 = .ok (.istore_n 2, 1) := by decide +kernel
theorem dX5_burn_2 : decode cX5_burn 2 = .ok (.iconst 0, 1) := by decide +kernel
theorem dX5_burn_3 : decode cX5_burn 3 = .ok (.istore_n 3, 1) := by decide +kernel
theorem dX5_burn_4 : decode cX5_burn 4 = .ok (.iload_n 3, 1) := by decide +kernel
theorem dX5_burn_5 : decode cX5_burn 5 = .ok (.aload_n 0, 1) := by decide +kernel
theorem dX5_burn_6 : decode cX5_burn 6 = .ok (.getfield 24, 3) := by decide +kernel
theorem dX5_burn_9 : decode cX5_burn 9 = .ok (.if_icmp .ge 33, 3) := by decide +kernel
theorem dX5_burn_12 : decode cX5_burn 12 = .ok (.aload_n 0, 1) := by decide +kernel
theorem dX5_burn_13 : decode cX5_burn 13 = .ok (.iload_n 3, 1) := by decide +kernel
theorem dX5_burn_14 : decode cX5_burn 14 = .ok (.invokevirtual 41, 3) := by decide +kernel
theorem dX5_burn_17 : decode cX5_burn 17 = .ok (.iload_n 1, 1) := by decide +kernel
theorem dX5_burn_18 : decode cX5_burn 18 = .ok (.if_icmp .eq 18, 3) := by decide +kernel
theorem dX5_burn_21 : decode cX5_burn 21 = .ok (.aload_n 0, 1) := by decide +kernel
theorem dX5_burn_22 : decode cX5_burn 22 = .ok (.getfield 21, 3) := by decide +kernel
theorem dX5_burn_25 : decode cX5_burn 25 = .ok (.iload_n 2, 1) := by decide +kernel
theorem dX5_burn_26 : decode cX5_burn 26 = .ok (.aload_n 0, 1) := by decide +kernel
theorem dX5_burn_27 : decode cX5_burn 27 = .ok (.getfield 21, 3) := by decide +kernel
theorem dX5_burn_30 : decode cX5_burn 30 = .ok (.iload_n 3, 1) := by decide +kernel
theorem dX5_burn_31 : decode cX5_burn 31 = .ok (.iaload, 1) := by decide +kernel
theorem dX5_burn_32 : decode cX5_burn 32 = .ok (.iastore, 1) := by decide +kernel
theorem dX5_burn_33 : decode cX5_burn 33 = .ok (.iinc 2 1, 3) := by decide +kernel
theorem dX5_burn_36 : decode cX5_burn 36 = .ok (.iinc 3 1, 3) := by decide +kernel
theorem dX5_burn_39 : decode cX5_burn 39 = .ok (.goto (-35), 3) := by decide +kernel
theorem dX5_burn_42 : decode cX5_burn 42 = .ok (.iload_n 2, 1) := by decide +kernel
theorem dX5_burn_43 : decode cX5_burn 43 = .ok (.aload_n 0, 1) := by decide +kernel
theorem dX5_burn_44 : decode cX5_burn 44 = .ok (.getfield 24, 3) := by decide +kernel
theorem dX5_burn_47 : decode cX5_burn 47 = .ok (.if_icmp .ge 7, 3) := by decide +kernel
theorem dX5_burn_50 : decode cX5_burn 50 = .ok (.iconst 1, 1) := by decide +kernel
theorem dX5_burn_51 : decode cX5_burn 51 = .ok (.goto 4, 3) := by decide +kernel
theorem dX5_burn_54 : decode cX5_burn 54 = .ok (.iconst 0, 1) := by decide +kernel
theorem dX5_burn_55 : decode cX5_burn 55 = .ok (.istore_n 3, 1) := by decide +kernel
theorem dX5_burn_56 : decode cX5_burn 56 = .ok (.aload_n 0, 1) := by decide +kernel
theorem dX5_burn_57 : decode cX5_burn 57 = .ok (.iload_n 2, 1) := by decide +kernel
theorem dX5_burn_58 : decode cX5_burn 58 = .ok (.putfield 24, 3) := by decide +kernel
theorem dX5_burn_61 : decode cX5_burn 61 = .ok (.iload_n 3, 1) := by decide +kernel
theorem dX5_burn_62 : decode cX5_burn 62 = .ok (.ireturn, 1) := by decide +kernel
theorem dX5_setMood_0 : decode cX5_setMood 0 = .ok (.aload_n 0, 1) := by decide +kernel
theorem dX5_setMood_1 : decode cX5_setMood 1 = .ok (.getfield 9, 3) := by decide +kernel
theorem dX5_setMood_4 : decode cX5_setMood 4 = .ok (.iload_n 1, 1) := by decide +kernel
theorem dX5_setMood_5 : decode cX5_setMood 5 = .ok (.iaload, 1) := by decide +kernel
theorem dX5_setMood_6 : decode cX5_setMood 6 = .ok (.iload_n 2, 1) := by decide +kernel
theorem dX5_setMood_7 : decode cX5_setMood 7 = .ok (.if_icmp .eq 7, 3) := by decide +kernel
theorem dX5_setMood_10 : decode cX5_setMood 10 = .ok (.iconst 1, 1) := by decide +kernel
theorem dX5_setMood_11 : decode cX5_setMood 11 = .ok (.goto 4, 3) := by decide +kernel
theorem dX5_setMood_14 : decode cX5_setMood 14 = .ok (.iconst 0, 1) := by decide +kernel
theorem dX5_setMood_15 : decode cX5_setMood 15 = .ok (.istore_n 3, 1) := by decide +kernel
theorem dX5_setMood_16 : decode cX5_setMood 16 = .ok (.aload_n 0, 1) := by decide +kernel
theorem dX5_setMood_17 : decode cX5_setMood 17 = .ok (.getfield 9, 3) := by decide +kernel
theorem dX5_setMood_20 : decode cX5_setMood 20 = .ok (.iload_n 1, 1) := by decide +kernel
theorem dX5_setMood_21 : decode cX5_setMood 21 = .ok (.iload_n 2, 1) := by decide +kernel
theorem dX5_setMood_22 : decode cX5_setMood 22 = .ok (.iastore, 1) := by decide +kernel
theorem dX5_setMood_23 : decode cX5_setMood 23 = .ok (.iload_n 3, 1) := by decide +kernel
theorem dX5_setMood_24 : decode cX5_setMood 24 = .ok (.ireturn, 1) := by decide +kernel
theorem dX5_turnYear_0 : decode cX5_turnYear 0 = .ok (.aload_n 0, 1) := by decide +kernel
theorem dX5_turnYear_1 : decode cX5_turnYear 1 = .ok (.dup, 1) := by decide +kernel
theorem dX5_turnYear_2 : decode cX5_turnYear 2 = .ok (.getfield 28, 3) := by decide +kernel
theorem dX5_turnYear_5 : decode cX5_turnYear 5 = .ok (.iconst 1, 1) := by decide +kernel
theorem dX5_turnYear_6 : decode cX5_turnYear 6 = .ok (.iadd, 1) := by decide +kernel
theorem dX5_turnYear_7 : decode cX5_turnYear 7 = .ok (.putfield 28, 3) := by decide +kernel
theorem dX5_turnYear_10 : decode cX5_turnYear 10 = .ok (.iconst 0, 1) := by decide +kernel
theorem dX5_turnYear_11 : decode cX5_turnYear 11 = .ok (.istore_n 1, 1) := by decide +kernel
theorem dX5_turnYear_12 : decode cX5_turnYear 12 = .ok (.iload_n 1, 1) := by decide +kernel
theorem dX5_turnYear_13 : decode cX5_turnYear 13 = .ok (.bipush 8, 2) := by decide +kernel
theorem dX5_turnYear_15 : decode cX5_turnYear 15 = .ok (.if_icmp .ge 16, 3) := by decide +kernel
theorem dX5_turnYear_18 : decode cX5_turnYear 18 = .ok (.aload_n 0, 1) := by decide +kernel
theorem dX5_turnYear_19 : decode cX5_turnYear 19 = .ok (.getfield 9, 3) := by decide +kernel
theorem dX5_turnYear_22 : decode cX5_turnYear 22 = .ok (.iload_n 1, 1) := by decide +kernel
theorem dX5_turnYear_23 : decode cX5_turnYear 23 = .ok (.iconst 0, 1) := by decide +kernel
theorem dX5_turnYear_24 : decode cX5_turnYear 24 = .ok (.iastore, 1) := by decide +kernel
theorem dX5_turnYear_25 : decode cX5_turnYear 25 = .ok (.iinc 1 1, 3) := by decide +kernel
theorem dX5_turnYear_28 : decode cX5_turnYear 28 = .ok (.goto (-16), 3) := by decide +kernel
theorem dX5_turnYear_31 : decode cX5_turnYear 31 = .ok (.return_, 1) := by decide +kernel
theorem dX5_everTaken_0 : decode cX5_everTaken 0 = .ok (.iconst 0, 1) := by decide +kernel
theorem dX5_everTaken_1 : decode cX5_everTaken 1 = .ok (.istore_n 1, 1) := by decide +kernel
theorem dX5_everTaken_2 : decode cX5_everTaken 2 = .ok (.iconst 0, 1) := by decide +kernel
theorem dX5_everTaken_3 : decode cX5_everTaken 3 = .ok (.istore_n 2, 1) := by decide +kernel
theorem dX5_everTaken_4 : decode cX5_everTaken 4 = .ok (.iload_n 2, 1) := by decide +kernel
theorem dX5_everTaken_5 : decode cX5_everTaken 5 = .ok (.bipush 8, 2) := by decide +kernel
theorem dX5_everTaken_7 : decode cX5_everTaken 7 = .ok (.if_icmp .ge 18, 3) := by decide +kernel
theorem dX5_everTaken_10 : decode cX5_everTaken 10 = .ok (.iload_n 1, 1) := by decide +kernel
theorem dX5_everTaken_11 : decode cX5_everTaken 11 = .ok (.aload_n 0, 1) := by decide +kernel
theorem dX5_everTaken_12 : decode cX5_everTaken 12 = .ok (.getfield 15, 3) := by decide +kernel
theorem dX5_everTaken_15 : decode cX5_everTaken 15 = .ok (.iload_n 2, 1) := by decide +kernel
theorem dX5_everTaken_16 : decode cX5_everTaken 16 = .ok (.iaload, 1) := by decide +kernel
theorem dX5_everTaken_17 : decode cX5_everTaken 17 = .ok (.iadd, 1) := by decide +kernel
theorem dX5_everTaken_18 : decode cX5_everTaken 18 = .ok (.istore_n 1, 1) := by decide +kernel
theorem dX5_everTaken_19 : decode cX5_everTaken 19 = .ok (.iinc 2 1, 3) := by decide +kernel
theorem dX5_everTaken_22 : decode cX5_everTaken 22 = .ok (.goto (-18), 3) := by decide +kernel
theorem dX5_everTaken_25 : decode cX5_everTaken 25 = .ok (.iload_n 1, 1) := by decide +kernel
theorem dX5_everTaken_26 : decode cX5_everTaken 26 = .ok (.ireturn, 1) := by decide +kernel
theorem dX5_hangingBy_0 : decode cX5_hangingBy 0 = .ok (.iconst 0, 1) := by decide +kernel
theorem dX5_hangingBy_1 : decode cX5_hangingBy 1 = .ok (.istore_n 2, 1) := by decide +kernel
theorem dX5_hangingBy_2 : decode cX5_hangingBy 2 = .ok (.iconst 0, 1) := by decide +kernel
theorem dX5_hangingBy_3 : decode cX5_hangingBy 3 = .ok (.istore_n 3, 1) := by decide +kernel
theorem dX5_hangingBy_4 : decode cX5_hangingBy 4 = .ok (.iload_n 3, 1) := by decide +kernel
theorem dX5_hangingBy_5 : decode cX5_hangingBy 5 = .ok (.aload_n 0, 1) := by decide +kernel
theorem dX5_hangingBy_6 : decode cX5_hangingBy 6 = .ok (.getfield 24, 3) := by decide +kernel
theorem dX5_hangingBy_9 : decode cX5_hangingBy 9 = .ok (.if_icmp .ge 21, 3) := by decide +kernel
theorem dX5_hangingBy_12 : decode cX5_hangingBy 12 = .ok (.aload_n 0, 1) := by decide +kernel
theorem dX5_hangingBy_13 : decode cX5_hangingBy 13 = .ok (.iload_n 3, 1) := by decide +kernel
theorem dX5_hangingBy_14 : decode cX5_hangingBy 14 = .ok (.invokevirtual 45, 3) := by decide +kernel
theorem dX5_hangingBy_17 : decode cX5_hangingBy 17 = .ok (.iload_n 1, 1) := by decide +kernel
theorem dX5_hangingBy_18 : decode cX5_hangingBy 18 = .ok (.if_icmp .ne 6, 3) := by decide +kernel
theorem dX5_hangingBy_21 : decode cX5_hangingBy 21 = .ok (.iinc 2 1, 3) := by decide +kernel
theorem dX5_hangingBy_24 : decode cX5_hangingBy 24 = .ok (.iinc 3 1, 3) := by decide +kernel
theorem dX5_hangingBy_27 : decode cX5_hangingBy 27 = .ok (.goto (-23), 3) := by decide +kernel
theorem dX5_hangingBy_30 : decode cX5_hangingBy 30 = .ok (.iload_n 2, 1) := by decide +kernel
theorem dX5_hangingBy_31 : decode cX5_hangingBy 31 = .ok (.ireturn, 1) := by decide +kernel
theorem dX6_init_0 : decode cX6_init 0 = .ok (.aload_n 0, 1) := by decide +kernel
theorem dX6_init_1 : decode cX6_init 1 = .ok (.invokespecial 1, 3) := by decide +kernel
theorem dX6_init_4 : decode cX6_init 4 = .ok (.aload_n 0, 1) := by decide +kernel
theorem dX6_init_5 : decode cX6_init 5 = .ok (.aload_n 1, 1) := by decide +kernel
theorem dX6_init_6 : decode cX6_init 6 = .ok (.putfield 7, 3) := by decide +kernel
theorem dX6_init_9 : decode cX6_init 9 = .ok (.aload_n 0, 1) := by decide +kernel
theorem dX6_init_10 : decode cX6_init 10 = .ok (.aload_n 2, 1) := by decide +kernel
theorem dX6_init_11 : decode cX6_init 11 = .ok (.putfield 13, 3) := by decide +kernel
theorem dX6_init_14 : decode cX6_init 14 = .ok (.aload_n 0, 1) := by decide +kernel
theorem dX6_init_15 : decode cX6_init 15 = .ok (.bipush 8, 2) := by decide +kernel
theorem dX6_init_17 : decode cX6_init 17 = .ok (.newarray .int, 2) := by decide +kernel
theorem dX6_init_19 : decode cX6_init 19 = .ok (.putfield 19, 3) := by decide +kernel
theorem dX6_init_22 : decode cX6_init 22 = .ok (.return_, 1) := by decide +kernel
theorem dX6_faceBy_0 : decode cX6_faceBy 0 = .ok (.aload_n 0, 1) := by decide +kernel
theorem dX6_faceBy_1 : decode cX6_faceBy 1 = .ok (.getfield 19, 3) := by decide +kernel
theorem dX6_faceBy_4 : decode cX6_faceBy 4 = .ok (.iconst 0, 1) := by decide +kernel
theorem dX6_faceBy_5 : decode cX6_faceBy 5 = .ok (.aload_n 0, 1) := by decide +kernel
theorem dX6_faceBy_6 : decode cX6_faceBy 6 = .ok (.getfield 7, 3) := by decide +kernel
theorem dX6_faceBy_9 : decode cX6_faceBy 9 = .ok (.getfield 23, 3) := by decide +kernel
theorem dX6_faceBy_12 : decode cX6_faceBy 12 = .ok (.iload_n 2, 1) := by decide +kernel
theorem dX6_faceBy_13 : decode cX6_faceBy 13 = .ok (.iaload, 1) := by decide +kernel
theorem dX6_faceBy_14 : decode cX6_faceBy 14 = .ok (.iastore, 1) := by decide +kernel
theorem dX6_faceBy_15 : decode cX6_faceBy 15 = .ok (.aload_n 0, 1) := by decide +kernel
theorem dX6_faceBy_16 : decode cX6_faceBy 16 = .ok (.getfield 19, 3) := by decide +kernel
theorem dX6_faceBy_19 : decode cX6_faceBy 19 = .ok (.iconst 1, 1) := by decide +kernel
theorem dX6_faceBy_20 : decode cX6_faceBy 20 = .ok (.aload_n 0, 1) := by decide +kernel
theorem dX6_faceBy_21 : decode cX6_faceBy 21 = .ok (.getfield 7, 3) := by decide +kernel
theorem dX6_faceBy_24 : decode cX6_faceBy 24 = .ok (.getfield 28, 3) := by decide +kernel
theorem dX6_faceBy_27 : decode cX6_faceBy 27 = .ok (.iload_n 2, 1) := by decide +kernel
theorem dX6_faceBy_28 : decode cX6_faceBy 28 = .ok (.iaload, 1) := by decide +kernel
theorem dX6_faceBy_29 : decode cX6_faceBy 29 = .ok (.iastore, 1) := by decide +kernel
theorem dX6_faceBy_30 : decode cX6_faceBy 30 = .ok (.aload_n 0, 1) := by decide +kernel
theorem dX6_faceBy_31 : decode cX6_faceBy 31 = .ok (.getfield 19, 3) := by decide +kernel
theorem dX6_faceBy_34 : decode cX6_faceBy 34 = .ok (.iconst 2, 1) := by decide +kernel
theorem dX6_faceBy_35 : decode cX6_faceBy 35 = .ok (.iload 5, 2) := by decide +kernel
theorem dX6_faceBy_37 : decode cX6_faceBy 37 = .ok (.iastore, 1) := by decide +kernel
theorem dX6_faceBy_38 : decode cX6_faceBy 38 = .ok (.aload_n 0, 1) := by decide +kernel
theorem dX6_faceBy_39 : decode cX6_faceBy 39 = .ok (.getfield 19, 3) := by decide +kernel
theorem dX6_faceBy_42 : decode cX6_faceBy 42 = .ok (.iconst 3, 1) := by decide +kernel
theorem dX6_faceBy_43 : decode cX6_faceBy 43 = .ok (.aload_n 0, 1) := by decide +kernel
theorem dX6_faceBy_44 : decode cX6_faceBy 44 = .ok (.getfield 7, 3) := by decide +kernel
theorem dX6_faceBy_47 : decode cX6_faceBy 47 = .ok (.getfield 23, 3) := by decide +kernel
theorem dX6_faceBy_50 : decode cX6_faceBy 50 = .ok (.iload_n 3, 1) := by decide +kernel
theorem dX6_faceBy_51 : decode cX6_faceBy 51 = .ok (.iaload, 1) := by decide +kernel
theorem dX6_faceBy_52 : decode cX6_faceBy 52 = .ok (.iastore, 1) := by decide +kernel
theorem dX6_faceBy_53 : decode cX6_faceBy 53 = .ok (.aload_n 0, 1) := by decide +kernel
theorem dX6_faceBy_54 : decode cX6_faceBy 54 = .ok (.getfield 19, 3) := by decide +kernel
theorem dX6_faceBy_57 : decode cX6_faceBy 57 = .ok (.iconst 4, 1) := by decide +kernel
theorem dX6_faceBy_58 : decode cX6_faceBy 58 = .ok (.iload_n 2, 1) := by decide +kernel
theorem dX6_faceBy_59 : decode cX6_faceBy 59 = .ok (.iload_n 3, 1) := by decide +kernel
theorem dX6_faceBy_60 : decode cX6_faceBy 60 = .ok (.if_icmp .ne 7, 3) := by decide +kernel
theorem dX6_faceBy_63 : decode cX6_faceBy 63 = .ok (.iconst 1, 1) := by decide +kernel
theorem dX6_faceBy_64 : decode cX6_faceBy 64 = .ok (.goto 4, 3) := by decide +kernel
theorem dX6_faceBy_67 : decode cX6_faceBy 67 = .ok (.iconst 0, 1) := by decide +kernel
theorem dX6_faceBy_68 : decode cX6_faceBy 68 = .ok (.iastore, 1) := by decide +kernel
theorem dX6_faceBy_69 : decode cX6_faceBy 69 = .ok (.aload_n 0, 1) := by decide +kernel
theorem dX6_faceBy_70 : decode cX6_faceBy 70 = .ok (.getfield 19, 3) := by decide +kernel
theorem dX6_faceBy_73 : decode cX6_faceBy 73 = .ok (.iconst 5, 1) := by decide +kernel
theorem dX6_faceBy_74 : decode cX6_faceBy 74 = .ok (.aload_n 1, 1) := by decide +kernel
theorem dX6_faceBy_75 : decode cX6_faceBy 75 = .ok (.getfield 31, 3) := by decide +kernel
theorem dX6_faceBy_78 : decode cX6_faceBy 78 = .ok (.iastore, 1) := by decide +kernel
theorem dX6_faceBy_79 : decode cX6_faceBy 79 = .ok (.aload_n 0, 1) := by decide +kernel
theorem dX6_faceBy_80 : decode cX6_faceBy 80 = .ok (.getfield 19, 3) := by decide +kernel
theorem dX6_faceBy_83 : decode cX6_faceBy 83 = .ok (.bipush 6, 2) := by decide +kernel
theorem dX6_faceBy_85 : decode cX6_faceBy 85 = .ok (.aload_n 1, 1) := by decide +kernel
theorem dX6_faceBy_86 : decode cX6_faceBy 86 = .ok (.getfield 37, 3) := by decide +kernel
theorem dX6_faceBy_89 : decode cX6_faceBy 89 = .ok (.iload_n 2, 1) := by decide +kernel
theorem dX6_faceBy_90 : decode cX6_faceBy 90 = .ok (.iaload, 1) := by decide +kernel
theorem dX6_faceBy_91 : decode cX6_faceBy 91 = .ok (.iastore, 1) := by decide +kernel
theorem dX6_faceBy_92 : decode cX6_faceBy 92 = .ok (.aload_n 0, 1) := by decide +kernel
theorem dX6_faceBy_93 : decode cX6_faceBy 93 = .ok (.getfield 19, 3) := by decide +kernel
theorem dX6_faceBy_96 : decode cX6_faceBy 96 = .ok (.bipush 7, 2) := by decide +kernel
theorem dX6_faceBy_98 : decode cX6_faceBy 98 = .ok (.iload 4, 2) := by decide +kernel
theorem dX6_faceBy_100 : decode cX6_faceBy 100 = .ok (.iastore, 1) := by decide +kernel
theorem dX6_faceBy_101 : decode cX6_faceBy 101 = .ok (.aload_n 0, 1) := by decide +kernel
theorem dX6_faceBy_102 : decode cX6_faceBy 102 = .ok (.getfield 13, 3) := by decide +kernel
theorem dX6_faceBy_105 : decode cX6_faceBy 105 = .ok (.aload_n 0, 1) := by decide +kernel
theorem dX6_faceBy_106 : decode cX6_faceBy 106 = .ok (.getfield 19, 3) := by decide +kernel
theorem dX6_faceBy_109 : decode cX6_faceBy 109 = .ok (.invokevirtual 40, 3) := by decide +kernel
theorem dX6_faceBy_112 : decode cX6_faceBy 112 = .ok (.ireturn, 1) := by decide +kernel
theorem dX6_take_0 : decode cX6_take 0 = .ok (.aload_n 0, 1) := by decide +kernel
theorem dX6_take_1 : decode cX6_take 1 = .ok (.getfield 7, 3) := by decide +kernel
theorem dX6_take_4 : decode cX6_take 4 = .ok (.iload_n 2, 1) := by decide +kernel
theorem dX6_take_5 : decode cX6_take 5 = .ok (.iload_n 3, 1) := by decide +kernel
theorem dX6_take_6 : decode cX6_take 6 = .ok (.invokevirtual 44, 3) := by decide +kernel
theorem dX6_take_9 : decode cX6_take 9 = .ok (.ifCond .ne 10, 3) := by decide +kernel
theorem dX6_take_12 : decode cX6_take 12 = .ok (.aload_n 1, 1) := by decide +kernel
theorem dX6_take_13 : decode cX6_take 13 = .ok (.invokevirtual 48, 3) := by decide +kernel
theorem dX6_take_16 : decode cX6_take 16 = .ok (.ifCond .eq 5, 3) := by decide +kernel
theorem dX6_take_19 : decode cX6_take 19 = .ok (.iconst 0, 1) := by decide +kernel
theorem dX6_take_20 : decode cX6_take 20 = .ok (.ireturn, 1) := by decide +kernel
theorem dX6_take_21 : decode cX6_take 21 = .ok (.aload_n 1, 1) := by decide +kernel
theorem dX6_take_22 : decode cX6_take 22 = .ok (.iload_n 2, 1) := by decide +kernel
theorem dX6_take_23 : decode cX6_take 23 = .ok (.iload_n 3, 1) := by decide +kernel
theorem dX6_take_24 : decode cX6_take 24 = .ok (.iload 4, 2) := by decide +kernel
theorem dX6_take_26 : decode cX6_take 26 = .ok (.aload_n 0, 1) := by decide +kernel
theorem dX6_take_27 : decode cX6_take 27 = .ok (.aload_n 1, 1) := by decide +kernel
theorem dX6_take_28 : decode cX6_take 28 = .ok (.iload_n 2, 1) := by decide +kernel
theorem dX6_take_29 : decode cX6_take 29 = .ok (.iload_n 3, 1) := by decide +kernel
theorem dX6_take_30 : decode cX6_take 30 = .ok (.iload 4, 2) := by decide +kernel
theorem dX6_take_32 : decode cX6_take 32 = .ok (.aload_n 1, 1) := by decide +kernel
theorem dX6_take_33 : decode cX6_take 33 = .ok (.getfield 52, 3) := by decide +kernel
theorem dX6_take_36 : decode cX6_take 36 = .ok (.iload_n 2, 1) := by decide +kernel
theorem dX6_take_37 : decode cX6_take 37 = .ok (.iaload, 1) := by decide +kernel
theorem dX6_take_38 : decode cX6_take 38 = .ok (.invokevirtual 55, 3) := by decide +kernel
theorem dX6_take_41 : decode cX6_take 41 = .ok (.invokevirtual 59, 3) := by decide +kernel
theorem dX6_take_44 : decode cX6_take 44 = .ok (.iconst 1, 1) := by decide +kernel
theorem dX6_take_45 : decode cX6_take 45 = .ok (.ireturn, 1) := by decide +kernel
theorem dX6_hasAsHimself_0 : decode cX6_hasAsHimself 0 = .ok (.aload_n 0, 1) := by decide +kernel
theorem dX6_hasAsHimself_1 : decode cX6_hasAsHimself 1 = .ok (.getfield 7, 3) := by decide +kernel
theorem dX6_hasAsHimself_4 : decode cX6_hasAsHimself 4 = .ok (.iload_n 2, 1) := by decide +kernel
theorem dX6_hasAsHimself_5 : decode cX6_hasAsHimself 5 = .ok (.iload_n 3, 1) := by decide +kernel
theorem dX6_hasAsHimself_6 : decode cX6_hasAsHimself 6 = .ok (.invokevirtual 44, 3) := by decide +kernel
theorem dX6_hasAsHimself_9 : decode cX6_hasAsHimself 9 = .ok (.ifCond .ne 36, 3) := by decide +kernel
theorem dX6_hasAsHimself_12 : decode cX6_hasAsHimself 12 = .ok (.aload_n 0, 1) := by decide +kernel
theorem dX6_hasAsHimself_13 : decode cX6_hasAsHimself 13 = .ok (.getfield 7, 3) := by decide +kernel
theorem dX6_hasAsHimself_16 : decode cX6_hasAsHimself 16 = .ok (.aload_n 0, 1) := by decide +kernel
theorem dX6_hasAsHimself_17 : decode cX6_hasAsHimself 17 = .ok (.aload_n 1, 1) := by decide +kernel
theorem dX6_hasAsHimself_18 : decode cX6_hasAsHimself 18 = .ok (.iload_n 2, 1) := by decide +kernel
theorem dX6_hasAsHimself_19 : decode cX6_hasAsHimself 19 = .ok (.iload_n 3, 1) := by decide +kernel
theorem dX6_hasAsHimself_20 : decode cX6_hasAsHimself 20 = .ok (.iconst 0, 1) := by decide +kernel
theorem dX6_hasAsHimself_21 : decode cX6_hasAsHimself 21 = .ok (.iload 4, 2) := by decide +kernel
theorem dX6_hasAsHimself_23 : decode cX6_hasAsHimself 23 = .ok (.invokevirtual 55, 3) := by decide +kernel
theorem dX6_hasAsHimself_26 : decode cX6_hasAsHimself 26 = .ok (.aload_n 0, 1) := by decide +kernel
theorem dX6_hasAsHimself_27 : decode cX6_hasAsHimself 27 = .ok (.getfield 7, 3) := by decide +kernel
theorem dX6_hasAsHimself_30 : decode cX6_hasAsHimself 30 = .ok (.getfield 23, 3) := by decide +kernel
theorem dX6_hasAsHimself_33 : decode cX6_hasAsHimself 33 = .ok (.iload_n 3, 1) := by decide +kernel
theorem dX6_hasAsHimself_34 : decode cX6_hasAsHimself 34 = .ok (.iaload, 1) := by decide +kernel
theorem dX6_hasAsHimself_35 : decode cX6_hasAsHimself 35 = .ok (.invokevirtual 63, 3) := by decide +kernel
theorem dX6_hasAsHimself_38 : decode cX6_hasAsHimself 38 = .ok (.ifCond .eq 7, 3) := by decide +kernel
theorem dX6_hasAsHimself_41 : decode cX6_hasAsHimself 41 = .ok (.iconst 1, 1) := by decide +kernel
theorem dX6_hasAsHimself_42 : decode cX6_hasAsHimself 42 = .ok (.goto 4, 3) := by decide +kernel
theorem dX6_hasAsHimself_45 : decode cX6_hasAsHimself 45 = .ok (.iconst 0, 1) := by decide +kernel
theorem dX6_hasAsHimself_46 : decode cX6_hasAsHimself 46 = .ok (.ireturn, 1) := by decide +kernel
theorem dX6_takersOf_0 : decode cX6_takersOf 0 = .ok (.iconst 0, 1) := by decide +kernel
theorem dX6_takersOf_1 : decode cX6_takersOf 1 = .ok (.istore_n 3, 1) := by decide +kernel
theorem dX6_takersOf_2 : decode cX6_takersOf 2 = .ok (.iconst 0, 1) := by decide +kernel
theorem dX6_takersOf_3 : decode cX6_takersOf 3 = .ok (.istore 4, 2) := by decide +kernel
theorem dX6_takersOf_5 : decode cX6_takersOf 5 = .ok (.iload 4, 2) := by decide +kernel
theorem dX6_takersOf_7 : decode cX6_takersOf 7 = .ok (.aload_n 0, 1) := by decide +kernel
theorem dX6_takersOf_8 : decode cX6_takersOf 8 = .ok (.getfield 7, 3) := by decide +kernel
theorem dX6_takersOf_11 : decode cX6_takersOf 11 = .ok (.getfield 66, 3) := by decide +kernel
theorem dX6_takersOf_14 : decode cX6_takersOf 14 = .ok (.if_icmp .ge 34, 3) := by decide +kernel
theorem dX6_takersOf_17 : decode cX6_takersOf 17 = .ok (.aload_n 0, 1) := by decide +kernel
theorem dX6_takersOf_18 : decode cX6_takersOf 18 = .ok (.aload_n 1, 1) := by decide +kernel
theorem dX6_takersOf_19 : decode cX6_takersOf 19 = .ok (.iload 4, 2) := by decide +kernel
theorem dX6_takersOf_21 : decode cX6_takersOf 21 = .ok (.iload_n 2, 1) := by decide +kernel
theorem dX6_takersOf_22 : decode cX6_takersOf 22 = .ok (.aload_n 1, 1) := by decide +kernel
theorem dX6_takersOf_23 : decode cX6_takersOf 23 = .ok (.getfield 52, 3) := by decide +kernel
theorem dX6_takersOf_26 : decode cX6_takersOf 26 = .ok (.iload 4, 2) := by decide +kernel
theorem dX6_takersOf_28 : decode cX6_takersOf 28 = .ok (.iaload, 1) := by decide +kernel
theorem dX6_takersOf_29 : decode cX6_takersOf 29 = .ok (.invokevirtual 69, 3) := by decide +kernel
theorem dX6_takersOf_32 : decode cX6_takersOf 32 = .ok (.ifCond .eq 10, 3) := by decide +kernel
theorem dX6_takersOf_35 : decode cX6_takersOf 35 = .ok (.iload_n 3, 1) := by decide +kernel
theorem dX6_takersOf_36 : decode cX6_takersOf 36 = .ok (.iconst 1, 1) := by decide +kernel
theorem dX6_takersOf_37 : decode cX6_takersOf 37 = .ok (.iload 4, 2) := by decide +kernel
theorem dX6_takersOf_39 : decode cX6_takersOf 39 = .ok (.ishl, 1) := by decide +kernel
theorem dX6_takersOf_40 : decode cX6_takersOf 40 = .ok (.ior, 1) := by decide +kernel
theorem dX6_takersOf_41 : decode cX6_takersOf 41 = .ok (.istore_n 3, 1) := by decide +kernel
theorem dX6_takersOf_42 : decode cX6_takersOf 42 = .ok (.iinc 4 1, 3) := by decide +kernel
theorem dX6_takersOf_45 : decode cX6_takersOf 45 = .ok (.goto (-40), 3) := by decide +kernel
theorem dX6_takersOf_48 : decode cX6_takersOf 48 = .ok (.iload_n 3, 1) := by decide +kernel
theorem dX6_takersOf_49 : decode cX6_takersOf 49 = .ok (.ireturn, 1) := by decide +kernel
theorem dX6_hadBits_0 : decode cX6_hadBits 0 = .ok (.iconst 0, 1) := by decide +kernel
theorem dX6_hadBits_1 : decode cX6_hadBits 1 = .ok (.istore_n 3, 1) := by decide +kernel
theorem dX6_hadBits_2 : decode cX6_hadBits 2 = .ok (.iconst 0, 1) := by decide +kernel
theorem dX6_hadBits_3 : decode cX6_hadBits 3 = .ok (.istore 4, 2) := by decide +kernel
theorem dX6_hadBits_5 : decode cX6_hadBits 5 = .ok (.iload 4, 2) := by decide +kernel
theorem dX6_hadBits_7 : decode cX6_hadBits 7 = .ok (.aload_n 1, 1) := by decide +kernel
theorem dX6_hadBits_8 : decode cX6_hadBits 8 = .ok (.getfield 73, 3) := by decide +kernel
theorem dX6_hadBits_11 : decode cX6_hadBits 11 = .ok (.if_icmp .ge 60, 3) := by decide +kernel
theorem dX6_hadBits_14 : decode cX6_hadBits 14 = .ok (.aload_n 1, 1) := by decide +kernel
theorem dX6_hadBits_15 : decode cX6_hadBits 15 = .ok (.iload 4, 2) := by decide +kernel
theorem dX6_hadBits_17 : decode cX6_hadBits 17 = .ok (.invokevirtual 76, 3) := by decide +kernel
theorem dX6_hadBits_20 : decode cX6_hadBits 20 = .ok (.istore 5, 2) := by decide +kernel
theorem dX6_hadBits_22 : decode cX6_hadBits 22 = .ok (.aload_n 1, 1) := by decide +kernel
theorem dX6_hadBits_23 : decode cX6_hadBits 23 = .ok (.iload 4, 2) := by decide +kernel
theorem dX6_hadBits_25 : decode cX6_hadBits 25 = .ok (.invokevirtual 80, 3) := by decide +kernel
theorem dX6_hadBits_28 : decode cX6_hadBits 28 = .ok (.iload_n 2, 1) := by decide +kernel
theorem dX6_hadBits_29 : decode cX6_hadBits 29 = .ok (.if_icmp .eq 36, 3) := by decide +kernel
theorem dX6_hadBits_32 : decode cX6_hadBits 32 = .ok (.aload_n 0, 1) := by decide +kernel
theorem dX6_hadBits_33 : decode cX6_hadBits 33 = .ok (.getfield 7, 3) := by decide +kernel
theorem dX6_hadBits_36 : decode cX6_hadBits 36 = .ok (.aload_n 1, 1) := by decide +kernel
theorem dX6_hadBits_37 : decode cX6_hadBits 37 = .ok (.iload 4, 2) := by decide +kernel
theorem dX6_hadBits_39 : decode cX6_hadBits 39 = .ok (.invokevirtual 83, 3) := by decide +kernel
theorem dX6_hadBits_42 : decode cX6_hadBits 42 = .ok (.aload_n 0, 1) := by decide +kernel
theorem dX6_hadBits_43 : decode cX6_hadBits 43 = .ok (.getfield 7, 3) := by decide +kernel
theorem dX6_hadBits_46 : decode cX6_hadBits 46 = .ok (.getfield 23, 3) := by decide +kernel
theorem dX6_hadBits_49 : decode cX6_hadBits 49 = .ok (.iload 5, 2) := by decide +kernel
theorem dX6_hadBits_51 : decode cX6_hadBits 51 = .ok (.iaload, 1) := by decide +kernel
theorem dX6_hadBits_52 : decode cX6_hadBits 52 = .ok (.invokevirtual 63, 3) := by decide +kernel
theorem dX6_hadBits_55 : decode cX6_hadBits 55 = .ok (.ifCond .eq 10, 3) := by decide +kernel
theorem dX6_hadBits_58 : decode cX6_hadBits 58 = .ok (.iload_n 3, 1) := by decide +kernel
theorem dX6_hadBits_59 : decode cX6_hadBits 59 = .ok (.iconst 1, 1) := by decide +kernel
theorem dX6_hadBits_60 : decode cX6_hadBits 60 = .ok (.iload 5, 2) := by decide +kernel
theorem dX6_hadBits_62 : decode cX6_hadBits 62 = .ok (.ishl, 1) := by decide +kernel
theorem dX6_hadBits_63 : decode cX6_hadBits 63 = .ok (.ior, 1) := by decide +kernel
theorem dX6_hadBits_64 : decode cX6_hadBits 64 = .ok (.istore_n 3, 1) := by decide +kernel
theorem dX6_hadBits_65 : decode cX6_hadBits 65 = .ok (.iinc 4 1, 3) := by decide +kernel
theorem dX6_hadBits_68 : decode cX6_hadBits 68 = .ok (.goto (-63), 3) := by decide +kernel
theorem dX6_hadBits_71 : decode cX6_hadBits 71 = .ok (.iload_n 3, 1) := by decide +kernel
theorem dX6_hadBits_72 : decode cX6_hadBits 72 = .ok (.ireturn, 1) := by decide +kernel
theorem dX7_init_0 : decode cX7_init 0 = .ok (.aload_n 0, 1) := by decide +kernel
theorem dX7_init_1 : decode cX7_init 1 = .ok (.invokespecial 3, 3) := by decide +kernel
theorem dX7_init_4 : decode cX7_init 4 = .ok (.aload_n 0, 1) := by decide +kernel
theorem dX7_init_5 : decode cX7_init 5 = .ok (.aload_n 1, 1) := by decide +kernel
theorem dX7_init_6 : decode cX7_init 6 = .ok (.putfield 9, 3) := by decide +kernel
theorem dX7_init_9 : decode cX7_init 9 = .ok (.aload_n 0, 1) := by decide +kernel
theorem dX7_init_10 : decode cX7_init 10 = .ok (.aload_n 1, 1) := by decide +kernel
theorem dX7_init_11 : decode cX7_init 11 = .ok (.getfield 15, 3) := by decide +kernel
theorem dX7_init_14 : decode cX7_init 14 = .ok (.putfield 21, 3) := by decide +kernel
theorem dX7_init_17 : decode cX7_init 17 = .ok (.aload_n 0, 1) := by decide +kernel
theorem dX7_init_18 : decode cX7_init 18 = .ok (.bipush 8, 2) := by decide +kernel
theorem dX7_init_20 : decode cX7_init 20 = .ok (.newarray .int, 2) := by decide +kernel
theorem dX7_init_22 : decode cX7_init 22 = .ok (.putfield 22, 3) := by decide +kernel
theorem dX7_init_25 : decode cX7_init 25 = .ok (.aload_n 0, 1) := by decide +kernel
theorem dX7_init_26 : decode cX7_init 26 = .ok (.iconst 5, 1) := by decide +kernel
theorem dX7_init_27 : decode cX7_init 27 = .ok (.newarray .int, 2) := by decide +kernel
theorem dX7_init_29 : decode cX7_init 29 = .ok (.putfield 26, 3) := by decide +kernel
theorem dX7_init_32 : decode cX7_init 32 = .ok (.return_, 1) := by decide +kernel
theorem dX7_look_0 : decode cX7_look 0 = .ok (.iconst 0, 1) := by decide +kernel
theorem dX7_look_1 : decode cX7_look 1 = .ok (.istore_n 2, 1) := by decide +kernel
theorem dX7_look_2 : decode cX7_look 2 = .ok (.iload_n 2, 1) := by decide +kernel
theorem dX7_look_3 : decode cX7_look 3 = .ok (.aload_n 0, 1) := by decide +kernel
theorem dX7_look_4 : decode cX7_look 4 = .ok (.getfield 21, 3) := by decide +kernel
theorem dX7_look_7 : decode cX7_look 7 = .ok (.getfield 29, 3) := by decide +kernel
theorem dX7_look_10 : decode cX7_look 10 = .ok (.if_icmp .ge 24, 3) := by decide +kernel
theorem dX7_look_13 : decode cX7_look 13 = .ok (.aload_n 0, 1) := by decide +kernel
theorem dX7_look_14 : decode cX7_look 14 = .ok (.getfield 22, 3) := by decide +kernel
theorem dX7_look_17 : decode cX7_look 17 = .ok (.iload_n 2, 1) := by decide +kernel
theorem dX7_look_18 : decode cX7_look 18 = .ok (.aload_n 0, 1) := by decide +kernel
theorem dX7_look_19 : decode cX7_look 19 = .ok (.getfield 9, 3) := by decide +kernel
theorem dX7_look_22 : decode cX7_look 22 = .ok (.aload_n 1, 1) := by decide +kernel
theorem dX7_look_23 : decode cX7_look 23 = .ok (.iload_n 2, 1) := by decide +kernel
theorem dX7_look_24 : decode cX7_look 24 = .ok (.invokevirtual 35, 3) := by decide +kernel
theorem dX7_look_27 : decode cX7_look 27 = .ok (.iastore, 1) := by decide +kernel
theorem dX7_look_28 : decode cX7_look 28 = .ok (.iinc 2 1, 3) := by decide +kernel
theorem dX7_look_31 : decode cX7_look 31 = .ok (.goto (-29), 3) := by decide +kernel
theorem dX7_look_34 : decode cX7_look 34 = .ok (.return_, 1) := by decide +kernel
theorem dX7_leastSet_0 : decode cX7_leastSet 0 = .ok (.iconst (-1), 1) := by decide +kernel
theorem dX7_leastSet_1 : decode cX7_leastSet 1 = .ok (.istore_n 3, 1) := by decide +kernel
theorem dX7_leastSet_2 : decode cX7_leastSet 2 = .ok (.iconst 0, 1) := by decide +kernel
theorem dX7_leastSet_3 : decode cX7_leastSet 3 = .ok (.istore 4, 2) := by decide +kernel
theorem dX7_leastSet_5 : decode cX7_leastSet 5 = .ok (.iconst 0, 1) := by decide +kernel
theorem dX7_leastSet_6 : decode cX7_leastSet 6 = .ok (.istore 5, 2) := by decide +kernel
theorem dX7_leastSet_8 : decode cX7_leastSet 8 = .ok (.iload 5, 2) := by decide +kernel
theorem dX7_leastSet_10 : decode cX7_leastSet 10 = .ok (.aload_n 0, 1) := by decide +kernel
theorem dX7_leastSet_11 : decode cX7_leastSet 11 = .ok (.getfield 21, 3) := by decide +kernel
theorem dX7_leastSet_14 : decode cX7_leastSet 14 = .ok (.invokevirtual 39, 3) := by decide +kernel
theorem dX7_leastSet_17 : decode cX7_leastSet 17 = .ok (.if_icmp .gt 61, 3) := by decide +kernel
theorem dX7_leastSet_20 : decode cX7_leastSet 20 = .ok (.iload_n 2, 1) := by decide +kernel
theorem dX7_leastSet_21 : decode cX7_leastSet 21 = .ok (.ifCond .eq 15, 3) := by decide +kernel
theorem dX7_leastSet_24 : decode cX7_leastSet 24 = .ok (.aload_n 0, 1) := by decide +kernel
theorem dX7_leastSet_25 : decode cX7_leastSet 25 = .ok (.getfield 21, 3) := by decide +kernel
theorem dX7_leastSet_28 : decode cX7_leastSet 28 = .ok (.iload 5, 2) := by decide +kernel
theorem dX7_leastSet_30 : decode cX7_leastSet 30 = .ok (.invokevirtual 43, 3) := by decide +kernel
theorem dX7_leastSet_33 : decode cX7_leastSet 33 = .ok (.goto 8, 3) := by decide +kernel
theorem dX7_leastSet_36 : decode cX7_leastSet 36 = .ok (.iload 5, 2) := by decide +kernel
theorem dX7_leastSet_38 : decode cX7_leastSet 38 = .ok (.invokestatic 47, 3) := by decide +kernel
theorem dX7_leastSet_41 : decode cX7_leastSet 41 = .ok (.istore 6, 2) := by decide +kernel
theorem dX7_leastSet_43 : decode cX7_leastSet 43 = .ok (.iload_n 3, 1) := by decide +kernel
theorem dX7_leastSet_44 : decode cX7_leastSet 44 = .ok (.iconst (-1), 1) := by decide +kernel
theorem dX7_leastSet_45 : decode cX7_leastSet 45 = .ok (.if_icmp .eq 10, 3) := by decide +kernel
theorem dX7_leastSet_48 : decode cX7_leastSet 48 = .ok (.iload 6, 2) := by decide +kernel
theorem dX7_leastSet_50 : decode cX7_leastSet 50 = .ok (.iload 4, 2) := by decide +kernel
theorem dX7_leastSet_52 : decode cX7_leastSet 52 = .ok (.if_icmp .ge 20, 3) := by decide +kernel
theorem dX7_leastSet_55 : decode cX7_leastSet 55 = .ok (.aload_n 0, 1) := by decide +kernel
theorem dX7_leastSet_56 : decode cX7_leastSet 56 = .ok (.iload 5, 2) := by decide +kernel
theorem dX7_leastSet_58 : decode cX7_leastSet 58 = .ok (.iload_n 1, 1) := by decide +kernel
theorem dX7_leastSet_59 : decode cX7_leastSet 59 = .ok (.invokevirtual 52, 3) := by decide +kernel
theorem dX7_leastSet_62 : decode cX7_leastSet 62 = .ok (.ifCond .eq 10, 3) := by decide +kernel
theorem dX7_leastSet_65 : decode cX7_leastSet 65 = .ok (.iload 5, 2) := by decide +kernel
theorem dX7_leastSet_67 : decode cX7_leastSet 67 = .ok (.istore_n 3, 1) := by decide +kernel
theorem dX7_leastSet_68 : decode cX7_leastSet 68 = .ok (.iload 6, 2) := by decide +kernel
theorem dX7_leastSet_70 : decode cX7_leastSet 70 = .ok (.istore 4, 2) := by decide +kernel
theorem dX7_leastSet_72 : decode cX7_leastSet 72 = .ok (.iinc 5 1, 3) := by decide +kernel
theorem dX7_leastSet_75 : decode cX7_leastSet 75 = .ok (.goto (-67), 3) := by decide +kernel
theorem dX7_leastSet_78 : decode cX7_leastSet 78 = .ok (.iload_n 3, 1) := by decide +kernel
theorem dX7_leastSet_79 : decode cX7_leastSet 79 = .ok (.ireturn, 1) := by decide +kernel
theorem dX7_takesAll_0 : decode cX7_takesAll 0 = .ok (.iconst 0, 1) := by decide +kernel
theorem dX7_takesAll_1 : decode cX7_takesAll 1 = .ok (.istore_n 3, 1) := by decide +kernel
theorem dX7_takesAll_2 : decode cX7_takesAll 2 = .ok (.iload_n 3, 1) := by decide +kernel
theorem dX7_takesAll_3 : decode cX7_takesAll 3 = .ok (.aload_n 0, 1) := by decide +kernel
theorem dX7_takesAll_4 : decode cX7_takesAll 4 = .ok (.getfield 21, 3) := by decide +kernel
theorem dX7_takesAll_7 : decode cX7_takesAll 7 = .ok (.getfield 29, 3) := by decide +kernel
theorem dX7_takesAll_10 : decode cX7_takesAll 10 = .ok (.if_icmp .ge 31, 3) := by decide +kernel
theorem dX7_takesAll_13 : decode cX7_takesAll 13 = .ok (.iload_n 2, 1) := by decide +kernel
theorem dX7_takesAll_14 : decode cX7_takesAll 14 = .ok (.iload_n 3, 1) := by decide +kernel
theorem dX7_takesAll_15 : decode cX7_takesAll 15 = .ok (.ishr, 1) := by decide +kernel
theorem dX7_takesAll_16 : decode cX7_takesAll 16 = .ok (.iconst 1, 1) := by decide +kernel
theorem dX7_takesAll_17 : decode cX7_takesAll 17 = .ok (.iand, 1) := by decide +kernel
theorem dX7_takesAll_18 : decode cX7_takesAll 18 = .ok (.iconst 1, 1) := by decide +kernel
theorem dX7_takesAll_19 : decode cX7_takesAll 19 = .ok (.if_icmp .ne 16, 3) := by decide +kernel
theorem dX7_takesAll_22 : decode cX7_takesAll 22 = .ok (.aload_n 0, 1) := by decide +kernel
theorem dX7_takesAll_23 : decode cX7_takesAll 23 = .ok (.getfield 22, 3) := by decide +kernel
theorem dX7_takesAll_26 : decode cX7_takesAll 26 = .ok (.iload_n 3, 1) := by decide +kernel
theorem dX7_takesAll_27 : decode cX7_takesAll 27 = .ok (.iaload, 1) := by decide +kernel
theorem dX7_takesAll_28 : decode cX7_takesAll 28 = .ok (.iload_n 1, 1) := by decide +kernel
theorem dX7_takesAll_29 : decode cX7_takesAll 29 = .ok (.iand, 1) := by decide +kernel
theorem dX7_takesAll_30 : decode cX7_takesAll 30 = .ok (.ifCond .ne 5, 3) := by decide +kernel
theorem dX7_takesAll_33 : decode cX7_takesAll 33 = .ok (.iconst 0, 1) := by decide +kernel
theorem dX7_takesAll_34 : decode cX7_takesAll 34 = .ok (.ireturn, 1) := by decide +kernel
theorem dX7_takesAll_35 : decode cX7_takesAll 35 = .ok (.iinc 3 1, 3) := by decide +kernel
theorem dX7_takesAll_38 : decode cX7_takesAll 38 = .ok (.goto (-36), 3) := by decide +kernel
theorem dX7_takesAll_41 : decode cX7_takesAll 41 = .ok (.iconst 1, 1) := by decide +kernel
theorem dX7_takesAll_42 : decode cX7_takesAll 42 = .ok (.ireturn, 1) := by decide +kernel
theorem dX7_seekRings_0 : decode cX7_seekRings 0 = .ok (.aload_n 0, 1) := by decide +kernel
theorem dX7_seekRings_1 : decode cX7_seekRings 1 = .ok (.iconst 0, 1) := by decide +kernel
theorem dX7_seekRings_2 : decode cX7_seekRings 2 = .ok (.putfield 56, 3) := by decide +kernel
theorem dX7_seekRings_5 : decode cX7_seekRings 5 = .ok (.aload_n 0, 1) := by decide +kernel
theorem dX7_seekRings_6 : decode cX7_seekRings 6 = .ok (.iconst (-1), 1) := by decide +kernel
theorem dX7_seekRings_7 : decode cX7_seekRings 7 = .ok (.putfield 59, 3) := by decide +kernel
theorem dX7_seekRings_10 : decode cX7_seekRings 10 = .ok (.iconst 0, 1) := by decide +kernel
theorem dX7_seekRings_11 : decode cX7_seekRings 11 = .ok (.istore_n 2, 1) := by decide +kernel
theorem dX7_seekRings_12 : decode cX7_seekRings 12 = .ok (.iload_n 2, 1) := by decide +kernel
theorem dX7_seekRings_13 : decode cX7_seekRings 13 = .ok (.aload_n 0, 1) := by decide +kernel
theorem dX7_seekRings_14 : decode cX7_seekRings 14 = .ok (.getfield 21, 3) := by decide +kernel
theorem dX7_seekRings_17 : decode cX7_seekRings 17 = .ok (.getfield 29, 3) := by decide +kernel
theorem dX7_seekRings_20 : decode cX7_seekRings 20 = .ok (.if_icmp .ge 25, 3) := by decide +kernel
theorem dX7_seekRings_23 : decode cX7_seekRings 23 = .ok (.aload_n 0, 1) := by decide +kernel
theorem dX7_seekRings_24 : decode cX7_seekRings 24 = .ok (.getfield 26, 3) := by decide +kernel
theorem dX7_seekRings_27 : decode cX7_seekRings 27 = .ok (.iconst 0, 1) := by decide +kernel
theorem dX7_seekRings_28 : decode cX7_seekRings 28 = .ok (.iload_n 2, 1) := by decide +kernel
theorem dX7_seekRings_29 : decode cX7_seekRings 29 = .ok (.iastore, 1) := by decide +kernel
theorem dX7_seekRings_30 : decode cX7_seekRings 30 = .ok (.aload_n 0, 1) := by decide +kernel
theorem dX7_seekRings_31 : decode cX7_seekRings 31 = .ok (.iload_n 1, 1) := by decide +kernel
theorem dX7_seekRings_32 : decode cX7_seekRings 32 = .ok (.iconst 1, 1) := by decide +kernel
theorem dX7_seekRings_33 : decode cX7_seekRings 33 = .ok (.iconst 1, 1) := by decide +kernel
theorem dX7_seekRings_34 : decode cX7_seekRings 34 = .ok (.iload_n 2, 1) := by decide +kernel
theorem dX7_seekRings_35 : decode cX7_seekRings 35 = .ok (.ishl, 1) := by decide +kernel
theorem dX7_seekRings_36 : decode cX7_seekRings 36 = .ok (.invokevirtual 62, 3) := by decide +kernel
theorem dX7_seekRings_39 : decode cX7_seekRings 39 = .ok (.iinc 2 1, 3) := by decide +kernel
theorem dX7_seekRings_42 : decode cX7_seekRings 42 = .ok (.goto (-30), 3) := by decide +kernel
theorem dX7_seekRings_45 : decode cX7_seekRings 45 = .ok (.return_, 1) := by decide +kernel
theorem dX7_lengthen_0 : decode cX7_lengthen 0 = .ok (.iload_n 2, 1) := by decide +kernel
theorem dX7_lengthen_1 : decode cX7_lengthen 1 = .ok (.iconst 1, 1) := by decide +kernel
theorem dX7_lengthen_2 : decode cX7_lengthen 2 = .ok (.if_icmp .lt 8, 3) := by decide +kernel
theorem dX7_lengthen_5 : decode cX7_lengthen 5 = .ok (.iload_n 2, 1) := by decide +kernel
theorem dX7_lengthen_6 : decode cX7_lengthen 6 = .ok (.iconst 5, 1) := by decide +kernel
theorem dX7_lengthen_7 : decode cX7_lengthen 7 = .ok (.if_icmp .le 4, 3) := by decide +kernel
theorem dX7_lengthen_10 : decode cX7_lengthen 10 = .ok (.return_, 1) := by decide +kernel
theorem dX7_lengthen_11 : decode cX7_lengthen 11 = .ok (.aload_n 0, 1) := by decide +kernel
theorem dX7_lengthen_12 : decode cX7_lengthen 12 = .ok (.getfield 26, 3) := by decide +kernel
theorem dX7_lengthen_15 : decode cX7_lengthen 15 = .ok (.iload_n 2, 1) := by decide +kernel
theorem dX7_lengthen_16 : decode cX7_lengthen 16 = .ok (.iconst 1, 1) := by decide +kernel
theorem dX7_lengthen_17 : decode cX7_lengthen 17 = .ok (.isub, 1) := by decide +kernel
theorem dX7_lengthen_18 : decode cX7_lengthen 18 = .ok (.iaload, 1) := by decide +kernel
theorem dX7_lengthen_19 : decode cX7_lengthen 19 = .ok (.istore 4, 2) := by decide +kernel
theorem dX7_lengthen_21 : decode cX7_lengthen 21 = .ok (.iload_n 2, 1) := by decide +kernel
theorem dX7_lengthen_22 : decode cX7_lengthen 22 = .ok (.iload_n 1, 1) := by decide +kernel
theorem dX7_lengthen_23 : decode cX7_lengthen 23 = .ok (.if_icmp .lt 11, 3) := by decide +kernel
theorem dX7_lengthen_26 : decode cX7_lengthen 26 = .ok (.aload_n 0, 1) := by decide +kernel
theorem dX7_lengthen_27 : decode cX7_lengthen 27 = .ok (.iload_n 1, 1) := by decide +kernel
theorem dX7_lengthen_28 : decode cX7_lengthen 28 = .ok (.iload 4, 2) := by decide +kernel
theorem dX7_lengthen_30 : decode cX7_lengthen 30 = .ok (.invokevirtual 66, 3) := by decide +kernel
theorem dX7_lengthen_33 : decode cX7_lengthen 33 = .ok (.return_, 1) := by decide +kernel
theorem dX7_lengthen_34 : decode cX7_lengthen 34 = .ok (.aload_n 0, 1) := by decide +kernel
theorem dX7_lengthen_35 : decode cX7_lengthen 35 = .ok (.getfield 26, 3) := by decide +kernel
theorem dX7_lengthen_38 : decode cX7_lengthen 38 = .ok (.iconst 0, 1) := by decide +kernel
theorem dX7_lengthen_39 : decode cX7_lengthen 39 = .ok (.iaload, 1) := by decide +kernel
theorem dX7_lengthen_40 : decode cX7_lengthen 40 = .ok (.iconst 1, 1) := by decide +kernel
theorem dX7_lengthen_41 : decode cX7_lengthen 41 = .ok (.iadd, 1) := by decide +kernel
theorem dX7_lengthen_42 : decode cX7_lengthen 42 = .ok (.istore 5, 2) := by decide +kernel
theorem dX7_lengthen_44 : decode cX7_lengthen 44 = .ok (.iload 5, 2) := by decide +kernel
theorem dX7_lengthen_46 : decode cX7_lengthen 46 = .ok (.aload_n 0, 1) := by decide +kernel
theorem dX7_lengthen_47 : decode cX7_lengthen 47 = .ok (.getfield 21, 3) := by decide +kernel
theorem dX7_lengthen_50 : decode cX7_lengthen 50 = .ok (.getfield 29, 3) := by decide +kernel
theorem dX7_lengthen_53 : decode cX7_lengthen 53 = .ok (.if_icmp .ge 56, 3) := by decide +kernel
theorem dX7_lengthen_56 : decode cX7_lengthen 56 = .ok (.iload_n 3, 1) := by decide +kernel
theorem dX7_lengthen_57 : decode cX7_lengthen 57 = .ok (.iload 5, 2) := by decide +kernel
theorem dX7_lengthen_59 : decode cX7_lengthen 59 = .ok (.ishr, 1) := by decide +kernel
theorem dX7_lengthen_60 : decode cX7_lengthen 60 = .ok (.iconst 1, 1) := by decide +kernel
theorem dX7_lengthen_61 : decode cX7_lengthen 61 = .ok (.iand, 1) := by decide +kernel
theorem dX7_lengthen_62 : decode cX7_lengthen 62 = .ok (.ifCond .ne 41, 3) := by decide +kernel
theorem dX7_lengthen_65 : decode cX7_lengthen 65 = .ok (.aload_n 0, 1) := by decide +kernel
theorem dX7_lengthen_66 : decode cX7_lengthen 66 = .ok (.getfield 22, 3) := by decide +kernel
theorem dX7_lengthen_69 : decode cX7_lengthen 69 = .ok (.iload 5, 2) := by decide +kernel
theorem dX7_lengthen_71 : decode cX7_lengthen 71 = .ok (.iaload, 1) := by decide +kernel
theorem dX7_lengthen_72 : decode cX7_lengthen 72 = .ok (.iload 4, 2) := by decide +kernel
theorem dX7_lengthen_74 : decode cX7_lengthen 74 = .ok (.ishr, 1) := by decide +kernel
theorem dX7_lengthen_75 : decode cX7_lengthen 75 = .ok (.iconst 1, 1) := by decide +kernel
theorem dX7_lengthen_76 : decode cX7_lengthen 76 = .ok (.iand, 1) := by decide +kernel
theorem dX7_lengthen_77 : decode cX7_lengthen 77 = .ok (.iconst 1, 1) := by decide +kernel
theorem dX7_lengthen_78 : decode cX7_lengthen 78 = .ok (.if_icmp .ne 25, 3) := by decide +kernel
theorem dX7_lengthen_81 : decode cX7_lengthen 81 = .ok (.aload_n 0, 1) := by decide +kernel
theorem dX7_lengthen_82 : decode cX7_lengthen 82 = .ok (.getfield 26, 3) := by decide +kernel
theorem dX7_lengthen_85 : decode cX7_lengthen 85 = .ok (.iload_n 2, 1) := by decide +kernel
theorem dX7_lengthen_86 : decode cX7_lengthen 86 = .ok (.iload 5, 2) := by decide +kernel
theorem dX7_lengthen_88 : decode cX7_lengthen 88 = .ok (.iastore, 1) := by decide +kernel
theorem dX7_lengthen_89 : decode cX7_lengthen 89 = .ok (.aload_n 0, 1) := by decide +kernel
theorem dX7_lengthen_90 : decode cX7_lengthen 90 = .ok (.iload_n 1, 1) := by decide +kernel
theorem dX7_lengthen_91 : decode cX7_lengthen 91 = .ok (.iload_n 2, 1) := by decide +kernel
theorem dX7_lengthen_92 : decode cX7_lengthen 92 = .ok (.iconst 1, 1) := by decide +kernel
theorem dX7_lengthen_93 : decode cX7_lengthen 93 = .ok (.iadd, 1) := by decide +kernel
theorem dX7_lengthen_94 : decode cX7_lengthen 94 = .ok (.iload_n 3, 1) := by decide +kernel
theorem dX7_lengthen_95 : decode cX7_lengthen 95 = .ok (.iconst 1, 1) := by decide +kernel
theorem dX7_lengthen_96 : decode cX7_lengthen 96 = .ok (.iload 5, 2) := by decide +kernel
theorem dX7_lengthen_98 : decode cX7_lengthen 98 = .ok (.ishl, 1) := by decide +kernel
theorem dX7_lengthen_99 : decode cX7_lengthen 99 = .ok (.ior, 1) := by decide +kernel
theorem dX7_lengthen_100 : decode cX7_lengthen 100 = .ok (.invokevirtual 62, 3) := by decide +kernel
theorem dX7_lengthen_103 : decode cX7_lengthen 103 = .ok (.iinc 5 1, 3) := by decide +kernel
theorem dX7_lengthen_106 : decode cX7_lengthen 106 = .ok (.goto (-62), 3) := by decide +kernel
theorem dX7_lengthen_109 : decode cX7_lengthen 109 = .ok (.return_, 1) := by decide +kernel
theorem dX7_closeRing_0 : decode cX7_closeRing 0 = .ok (.aload_n 0, 1) := by decide +kernel
theorem dX7_closeRing_1 : decode cX7_closeRing 1 = .ok (.getfield 22, 3) := by decide +kernel
theorem dX7_closeRing_4 : decode cX7_closeRing 4 = .ok (.aload_n 0, 1) := by decide +kernel
theorem dX7_closeRing_5 : decode cX7_closeRing 5 = .ok (.getfield 26, 3) := by decide +kernel
theorem dX7_closeRing_8 : decode cX7_closeRing 8 = .ok (.iconst 0, 1) := by decide +kernel
theorem dX7_closeRing_9 : decode cX7_closeRing 9 = .ok (.iaload, 1) := by decide +kernel
theorem dX7_closeRing_10 : decode cX7_closeRing 10 = .ok (.iaload, 1) := by decide +kernel
theorem dX7_closeRing_11 : decode cX7_closeRing 11 = .ok (.iload_n 2, 1) := by decide +kernel
theorem dX7_closeRing_12 : decode cX7_closeRing 12 = .ok (.ishr, 1) := by decide +kernel
theorem dX7_closeRing_13 : decode cX7_closeRing 13 = .ok (.iconst 1, 1) := by decide +kernel
theorem dX7_closeRing_14 : decode cX7_closeRing 14 = .ok (.iand, 1) := by decide +kernel
theorem dX7_closeRing_15 : decode cX7_closeRing 15 = .ok (.ifCond .ne 4, 3) := by decide +kernel
theorem dX7_closeRing_18 : decode cX7_closeRing 18 = .ok (.return_, 1) := by decide +kernel
theorem dX7_closeRing_19 : decode cX7_closeRing 19 = .ok (.aload_n 0, 1) := by decide +kernel
theorem dX7_closeRing_20 : decode cX7_closeRing 20 = .ok (.dup, 1) := by decide +kernel
theorem dX7_closeRing_21 : decode cX7_closeRing 21 = .ok (.getfield 56, 3) := by decide +kernel
theorem dX7_closeRing_24 : decode cX7_closeRing 24 = .ok (.iconst 1, 1) := by decide +kernel
theorem dX7_closeRing_25 : decode cX7_closeRing 25 = .ok (.iadd, 1) := by decide +kernel
theorem dX7_closeRing_26 : decode cX7_closeRing 26 = .ok (.putfield 56, 3) := by decide +kernel
theorem dX7_closeRing_29 : decode cX7_closeRing 29 = .ok (.aload_n 0, 1) := by decide +kernel
theorem dX7_closeRing_30 : decode cX7_closeRing 30 = .ok (.getfield 56, 3) := by decide +kernel
theorem dX7_closeRing_33 : decode cX7_closeRing 33 = .ok (.iconst 1, 1) := by decide +kernel
theorem dX7_closeRing_34 : decode cX7_closeRing 34 = .ok (.if_icmp .ne 39, 3) := by decide +kernel
theorem dX7_closeRing_37 : decode cX7_closeRing 37 = .ok (.aload_n 0, 1) := by decide +kernel
theorem dX7_closeRing_38 : decode cX7_closeRing 38 = .ok (.iconst 0, 1) := by decide +kernel
theorem dX7_closeRing_39 : decode cX7_closeRing 39 = .ok (.putfield 59, 3) := by decide +kernel
theorem dX7_closeRing_42 : decode cX7_closeRing 42 = .ok (.iconst 0, 1) := by decide +kernel
theorem dX7_closeRing_43 : decode cX7_closeRing 43 = .ok (.istore_n 3, 1) := by decide +kernel
theorem dX7_closeRing_44 : decode cX7_closeRing 44 = .ok (.iload_n 3, 1) := by decide +kernel
theorem dX7_closeRing_45 : decode cX7_closeRing 45 = .ok (.iload_n 1, 1) := by decide +kernel
theorem dX7_closeRing_46 : decode cX7_closeRing 46 = .ok (.if_icmp .ge 27, 3) := by decide +kernel
theorem dX7_closeRing_49 : decode cX7_closeRing 49 = .ok (.aload_n 0, 1) := by decide +kernel
theorem dX7_closeRing_50 : decode cX7_closeRing 50 = .ok (.aload_n 0, 1) := by decide +kernel
theorem dX7_closeRing_51 : decode cX7_closeRing 51 = .ok (.getfield 59, 3) := by decide +kernel
theorem dX7_closeRing_54 : decode cX7_closeRing 54 = .ok (.bipush 10, 2) := by decide +kernel
theorem dX7_closeRing_56 : decode cX7_closeRing 56 = .ok (.imul, 1) := by decide +kernel
theorem dX7_closeRing_57 : decode cX7_closeRing 57 = .ok (.aload_n 0, 1) := by decide +kernel
theorem dX7_closeRing_58 : decode cX7_closeRing 58 = .ok (.getfield 26, 3) := by decide +kernel
theorem dX7_closeRing_61 : decode cX7_closeRing 61 = .ok (.iload_n 3, 1) := by decide +kernel
theorem dX7_closeRing_62 : decode cX7_closeRing 62 = .ok (.iaload, 1) := by decide +kernel
theorem dX7_closeRing_63 : decode cX7_closeRing 63 = .ok (.iadd, 1) := by decide +kernel
theorem dX7_closeRing_64 : decode cX7_closeRing 64 = .ok (.putfield 59, 3) := by decide +kernel
theorem dX7_closeRing_67 : decode cX7_closeRing 67 = .ok (.iinc 3 1, 3) := by decide +kernel
theorem dX7_closeRing_70 : decode cX7_closeRing 70 = .ok (.goto (-26), 3) := by decide +kernel
theorem dX7_closeRing_73 : decode cX7_closeRing 73 = .ok (.return_, 1) := by decide +kernel
theorem dX7_steps_0 : decode cX7_steps 0 = .ok (.iconst 1, 1) := by decide +kernel
theorem dX7_steps_1 : decode cX7_steps 1 = .ok (.iload_n 1, 1) := by decide +kernel
theorem dX7_steps_2 : decode cX7_steps 2 = .ok (.ishl, 1) := by decide +kernel
theorem dX7_steps_3 : decode cX7_steps 3 = .ok (.istore_n 3, 1) := by decide +kernel
theorem dX7_steps_4 : decode cX7_steps 4 = .ok (.iconst 0, 1) := by decide +kernel
theorem dX7_steps_5 : decode cX7_steps 5 = .ok (.istore 4, 2) := by decide +kernel
theorem dX7_steps_7 : decode cX7_steps 7 = .ok (.iload 4, 2) := by decide +kernel
theorem dX7_steps_9 : decode cX7_steps 9 = .ok (.aload_n 0, 1) := by decide +kernel
theorem dX7_steps_10 : decode cX7_steps 10 = .ok (.getfield 21, 3) := by decide +kernel
theorem dX7_steps_13 : decode cX7_steps 13 = .ok (.getfield 29, 3) := by decide +kernel
theorem dX7_steps_16 : decode cX7_steps 16 = .ok (.if_icmp .ge 29, 3) := by decide +kernel
theorem dX7_steps_19 : decode cX7_steps 19 = .ok (.iload_n 3, 1) := by decide +kernel
theorem dX7_steps_20 : decode cX7_steps 20 = .ok (.iload_n 2, 1) := by decide +kernel
theorem dX7_steps_21 : decode cX7_steps 21 = .ok (.ishr, 1) := by decide +kernel
theorem dX7_steps_22 : decode cX7_steps 22 = .ok (.iconst 1, 1) := by decide +kernel
theorem dX7_steps_23 : decode cX7_steps 23 = .ok (.iand, 1) := by decide +kernel
theorem dX7_steps_24 : decode cX7_steps 24 = .ok (.iconst 1, 1) := by decide +kernel
theorem dX7_steps_25 : decode cX7_steps 25 = .ok (.if_icmp .ne 6, 3) := by decide +kernel
theorem dX7_steps_28 : decode cX7_steps 28 = .ok (.iload 4, 2) := by decide +kernel
theorem dX7_steps_30 : decode cX7_steps 30 = .ok (.ireturn, 1) := by decide +kernel
theorem dX7_steps_31 : decode cX7_steps 31 = .ok (.iload_n 3, 1) := by decide +kernel
theorem dX7_steps_32 : decode cX7_steps 32 = .ok (.aload_n 0, 1) := by decide +kernel
theorem dX7_steps_33 : decode cX7_steps 33 = .ok (.iload_n 3, 1) := by decide +kernel
theorem dX7_steps_34 : decode cX7_steps 34 = .ok (.invokevirtual 70, 3) := by decide +kernel
theorem dX7_steps_37 : decode cX7_steps 37 = .ok (.ior, 1) := by decide +kernel
theorem dX7_steps_38 : decode cX7_steps 38 = .ok (.istore_n 3, 1) := by decide +kernel
theorem dX7_steps_39 : decode cX7_steps 39 = .ok (.iinc 4 1, 3) := by decide +kernel
theorem dX7_steps_42 : decode cX7_steps 42 = .ok (.goto (-35), 3) := by decide +kernel
theorem dX7_steps_45 : decode cX7_steps 45 = .ok (.iconst (-1), 1) := by decide +kernel
theorem dX7_steps_46 : decode cX7_steps 46 = .ok (.ireturn, 1) := by decide +kernel
theorem dX7_nextTo_0 : decode cX7_nextTo 0 = .ok (.iconst 0, 1) := by decide +kernel
theorem dX7_nextTo_1 : decode cX7_nextTo 1 = .ok (.istore_n 2, 1) := by decide +kernel
theorem dX7_nextTo_2 : decode cX7_nextTo 2 = .ok (.iconst 0, 1) := by decide +kernel
theorem dX7_nextTo_3 : decode cX7_nextTo 3 = .ok (.istore_n 3, 1) := by decide +kernel
theorem dX7_nextTo_4 : decode cX7_nextTo 4 = .ok (.iload_n 3, 1) := by decide +kernel
theorem dX7_nextTo_5 : decode cX7_nextTo 5 = .ok (.aload_n 0, 1) := by decide +kernel
theorem dX7_nextTo_6 : decode cX7_nextTo 6 = .ok (.getfield 21, 3) := by decide +kernel
theorem dX7_nextTo_9 : decode cX7_nextTo 9 = .ok (.getfield 29, 3) := by decide +kernel
theorem dX7_nextTo_12 : decode cX7_nextTo 12 = .ok (.if_icmp .ge 26, 3) := by decide +kernel
theorem dX7_nextTo_15 : decode cX7_nextTo 15 = .ok (.aload_n 0, 1) := by decide +kernel
theorem dX7_nextTo_16 : decode cX7_nextTo 16 = .ok (.getfield 22, 3) := by decide +kernel
theorem dX7_nextTo_19 : decode cX7_nextTo 19 = .ok (.iload_n 3, 1) := by decide +kernel
theorem dX7_nextTo_20 : decode cX7_nextTo 20 = .ok (.iaload, 1) := by decide +kernel
theorem dX7_nextTo_21 : decode cX7_nextTo 21 = .ok (.iload_n 1, 1) := by decide +kernel
theorem dX7_nextTo_22 : decode cX7_nextTo 22 = .ok (.iand, 1) := by decide +kernel
theorem dX7_nextTo_23 : decode cX7_nextTo 23 = .ok (.ifCond .eq 9, 3) := by decide +kernel
theorem dX7_nextTo_26 : decode cX7_nextTo 26 = .ok (.iload_n 2, 1) := by decide +kernel
theorem dX7_nextTo_27 : decode cX7_nextTo 27 = .ok (.iconst 1, 1) := by decide +kernel
theorem dX7_nextTo_28 : decode cX7_nextTo 28 = .ok (.iload_n 3, 1) := by decide +kernel
theorem dX7_nextTo_29 : decode cX7_nextTo 29 = .ok (.ishl, 1) := by decide +kernel
theorem dX7_nextTo_30 : decode cX7_nextTo 30 = .ok (.ior, 1) := by decide +kernel
theorem dX7_nextTo_31 : decode cX7_nextTo 31 = .ok (.istore_n 2, 1) := by decide +kernel
theorem dX7_nextTo_32 : decode cX7_nextTo 32 = .ok (.iinc 3 1, 3) := by decide +kernel
theorem dX7_nextTo_35 : decode cX7_nextTo 35 = .ok (.goto (-31), 3) := by decide +kernel
theorem dX7_nextTo_38 : decode cX7_nextTo 38 = .ok (.iload_n 2, 1) := by decide +kernel
theorem dX7_nextTo_39 : decode cX7_nextTo 39 = .ok (.ireturn, 1) := by decide +kernel
