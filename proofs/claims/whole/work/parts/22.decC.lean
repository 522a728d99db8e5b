theorem dX11_init_0 : decode cX11_init 0 = .ok (.aload_n 0, 1) := by decide +kernel
theorem dX11_init_1 : decode cX11_init 1 = .ok (.invokespecial 1, 3) := by decide +kernel
theorem dX11_init_4 : decode cX11_init 4 = .ok (.aload_n 0, 1) := by decide +kernel
theorem dX11_init_5 : decode cX11_init 5 = .ok (.new 7, 3) := by decide +kernel
theorem dX11_init_8 : decode cX11_init 8 = .ok (.dup, 1) := by decide +kernel
theorem dX11_init_9 : decode cX11_init 9 = .ok (.invokespecial 9, 3) := by decide +kernel
theorem dX11_init_12 : decode cX11_init 12 = .ok (.putfield 10, 3) := by decide +kernel
theorem dX11_init_15 : decode cX11_init 15 = .ok (.aload_n 0, 1) := by decide +kernel
theorem dX11_init_16 : decode cX11_init 16 = .ok (.new 16, 3) := by decide +kernel
theorem dX11_init_19 : decode cX11_init 19 = .ok (.dup, 1) := by decide +kernel
theorem dX11_init_20 : decode cX11_init 20 = .ok (.invokespecial 18, 3) := by decide +kernel
theorem dX11_init_23 : decode cX11_init 23 = .ok (.putfield 19, 3) := by decide +kernel
theorem dX11_init_26 : decode cX11_init 26 = .ok (.aload_n 0, 1) := by decide +kernel
theorem dX11_init_27 : decode cX11_init 27 = .ok (.new 16, 3) := by decide +kernel
theorem dX11_init_30 : decode cX11_init 30 = .ok (.dup, 1) := by decide +kernel
theorem dX11_init_31 : decode cX11_init 31 = .ok (.invokespecial 18, 3) := by decide +kernel
theorem dX11_init_34 : decode cX11_init 34 = .ok (.putfield 23, 3) := by decide +kernel
theorem dX11_init_37 : decode cX11_init 37 = .ok (.aload_n 0, 1) := by decide +kernel
theorem dX11_init_38 : decode cX11_init 38 = .ok (.new 26, 3) := by decide +kernel
theorem dX11_init_41 : decode cX11_init 41 = .ok (.dup, 1) := by decide +kernel
theorem dX11_init_42 : decode cX11_init 42 = .ok (.invokespecial 28, 3) := by decide +kernel
theorem dX11_init_45 : decode cX11_init 45 = .ok (.putfield 29, 3) := by decide +kernel
theorem dX11_init_48 : decode cX11_init 48 = .ok (.aload_n 0, 1) := by decide +kernel
theorem dX11_init_49 : decode cX11_init 49 = .ok (.new 26, 3) := by decide +kernel
theorem dX11_init_52 : decode cX11_init 52 = .ok (.dup, 1) := by decide +kernel
theorem dX11_init_53 : decode cX11_init 53 = .ok (.invokespecial 28, 3) := by decide +kernel
theorem dX11_init_56 : decode cX11_init 56 = .ok (.putfield 33, 3) := by decide +kernel
theorem dX11_init_59 : decode cX11_init 59 = .ok (.aload_n 0, 1) := by decide +kernel
theorem dX11_init_60 : decode cX11_init 60 = .ok (.new 36, 3) := by decide +kernel
theorem dX11_init_63 : decode cX11_init 63 = .ok (.dup, 1) := by decide +kernel
theorem dX11_init_64 : decode cX11_init 64 = .ok (.invokespecial 38, 3) := by decide +kernel
theorem dX11_init_67 : decode cX11_init 67 = .ok (.putfield 39, 3) := by decide +kernel
theorem dX11_init_70 : decode cX11_init 70 = .ok (.aload_n 0, 1) := by decide +kernel
theorem dX11_init_71 : decode cX11_init 71 = .ok (.new 43, 3) := by decide +kernel
theorem dX11_init_74 : decode cX11_init 74 = .ok (.dup, 1) := by decide +kernel
theorem dX11_init_75 : decode cX11_init 75 = .ok (.aload_n 0, 1) := by decide +kernel
theorem dX11_init_76 : decode cX11_init 76 = .ok (.getfield 19, 3) := by decide +kernel
theorem dX11_init_79 : decode cX11_init 79 = .ok (.invokespecial 45, 3) := by decide +kernel
theorem dX11_init_82 : decode cX11_init 82 = .ok (.putfield 48, 3) := by decide +kernel
theorem dX11_init_85 : decode cX11_init 85 = .ok (.aload_n 0, 1) := by decide +kernel
theorem dX11_init_86 : decode cX11_init 86 = .ok (.new 52, 3) := by decide +kernel
theorem dX11_init_89 : decode cX11_init 89 = .ok (.dup, 1) := by decide +kernel
theorem dX11_init_90 : decode cX11_init 90 = .ok (.aload_n 0, 1) := by decide +kernel
theorem dX11_init_91 : decode cX11_init 91 = .ok (.getfield 19, 3) := by decide +kernel
theorem dX11_init_94 : decode cX11_init 94 = .ok (.aload_n 0, 1) := by decide +kernel
theorem dX11_init_95 : decode cX11_init 95 = .ok (.getfield 29, 3) := by decide +kernel
theorem dX11_init_98 : decode cX11_init 98 = .ok (.invokespecial 54, 3) := by decide +kernel
theorem dX11_init_101 : decode cX11_init 101 = .ok (.putfield 57, 3) := by decide +kernel
theorem dX11_init_104 : decode cX11_init 104 = .ok (.aload_n 0, 1) := by decide +kernel
theorem dX11_init_105 : decode cX11_init 105 = .ok (.new 61, 3) := by decide +kernel
theorem dX11_init_108 : decode cX11_init 108 = .ok (.dup, 1) := by decide +kernel
theorem dX11_init_109 : decode cX11_init 109 = .ok (.aload_n 0, 1) := by decide +kernel
theorem dX11_init_110 : decode cX11_init 110 = .ok (.getfield 57, 3) := by decide +kernel
theorem dX11_init_113 : decode cX11_init 113 = .ok (.invokespecial 63, 3) := by decide +kernel
theorem dX11_init_116 : decode cX11_init 116 = .ok (.putfield 66, 3) := by decide +kernel
theorem dX11_init_119 : decode cX11_init 119 = .ok (.aload_n 0, 1) := by decide +kernel
theorem dX11_init_120 : decode cX11_init 120 = .ok (.new 70, 3) := by decide +kernel
theorem dX11_init_123 : decode cX11_init 123 = .ok (.dup, 1) := by decide +kernel
theorem dX11_init_124 : decode cX11_init 124 = .ok (.aload_n 0, 1) := by decide +kernel
theorem dX11_init_125 : decode cX11_init 125 = .ok (.getfield 19, 3) := by decide +kernel
theorem dX11_init_128 : decode cX11_init 128 = .ok (.invokespecial 72, 3) := by decide +kernel
theorem dX11_init_131 : decode cX11_init 131 = .ok (.putfield 73, 3) := by decide +kernel
theorem dX11_init_134 : decode cX11_init 134 = .ok (.aload_n 0, 1) := by decide +kernel
theorem dX11_init_135 : decode cX11_init 135 = .ok (.new 77, 3) := by decide +kernel
theorem dX11_init_138 : decode cX11_init 138 = .ok (.dup, 1) := by decide +kernel
theorem dX11_init_139 : decode cX11_init 139 = .ok (.aload_n 0, 1) := by decide +kernel
theorem dX11_init_140 : decode cX11_init 140 = .ok (.getfield 57, 3) := by decide +kernel
theorem dX11_init_143 : decode cX11_init 143 = .ok (.invokespecial 79, 3) := by decide +kernel
theorem dX11_init_146 : decode cX11_init 146 = .ok (.putfield 80, 3) := by decide +kernel
theorem dX11_init_149 : decode cX11_init 149 = .ok (.aload_n 0, 1) := by decide +kernel
theorem dX11_init_150 : decode cX11_init 150 = .ok (.new 84, 3) := by decide +kernel
theorem dX11_init_153 : decode cX11_init 153 = .ok (.dup, 1) := by decide +kernel
theorem dX11_init_154 : decode cX11_init 154 = .ok (.invokespecial 86, 3) := by decide +kernel
theorem dX11_init_157 : decode cX11_init 157 = .ok (.putfield 87, 3) := by decide +kernel
theorem dX11_init_160 : decode cX11_init 160 = .ok (.aload_n 0, 1) := by decide +kernel
theorem dX11_init_161 : decode cX11_init 161 = .ok (.iconst 3, 1) := by decide +kernel
theorem dX11_init_162 : decode cX11_init 162 = .ok (.anewarray 91, 3) := by decide +kernel
theorem dX11_init_165 : decode cX11_init 165 = .ok (.putfield 93, 3) := by decide +kernel
theorem dX11_init_168 : decode cX11_init 168 = .ok (.return_, 1) := by decide +kernel
theorem dX11_feed_0 : decode cX11_feed 0 = .ok (.aload_n 0, 1) := by decide +kernel
theorem dX11_feed_1 : decode cX11_feed 1 = .ok (.getfield 10, 3) := by decide +kernel
theorem dX11_feed_4 : decode cX11_feed 4 = .ok (.getfield 97, 3) := by decide +kernel
theorem dX11_feed_7 : decode cX11_feed 7 = .ok (.bipush 20, 2) := by decide +kernel
theorem dX11_feed_9 : decode cX11_feed 9 = .ok (.iadd, 1) := by decide +kernel
theorem dX11_feed_10 : decode cX11_feed 10 = .ok (.sipush 600, 3) := by decide +kernel
theorem dX11_feed_13 : decode cX11_feed 13 = .ok (.if_icmp .le 5, 3) := by decide +kernel
theorem dX11_feed_16 : decode cX11_feed 16 = .ok (.iconst (-1), 1) := by decide +kernel
theorem dX11_feed_17 : decode cX11_feed 17 = .ok (.ireturn, 1) := by decide +kernel
theorem dX11_feed_18 : decode cX11_feed 18 = .ok (.aload_n 0, 1) := by decide +kernel
theorem dX11_feed_19 : decode cX11_feed 19 = .ok (.getfield 10, 3) := by decide +kernel
theorem dX11_feed_22 : decode cX11_feed 22 = .ok (.iload_n 1, 1) := by decide +kernel
theorem dX11_feed_23 : decode cX11_feed 23 = .ok (.invokevirtual 101, 3) := by decide +kernel
theorem dX11_feed_26 : decode cX11_feed 26 = .ok (.aload_n 0, 1) := by decide +kernel
theorem dX11_feed_27 : decode cX11_feed 27 = .ok (.getfield 10, 3) := by decide +kernel
theorem dX11_feed_30 : decode cX11_feed 30 = .ok (.iload_n 2, 1) := by decide +kernel
theorem dX11_feed_31 : decode cX11_feed 31 = .ok (.invokevirtual 101, 3) := by decide +kernel
theorem dX11_feed_34 : decode cX11_feed 34 = .ok (.aload_n 0, 1) := by decide +kernel
theorem dX11_feed_35 : decode cX11_feed 35 = .ok (.getfield 10, 3) := by decide +kernel
theorem dX11_feed_38 : decode cX11_feed 38 = .ok (.iload_n 3, 1) := by decide +kernel
theorem dX11_feed_39 : decode cX11_feed 39 = .ok (.invokevirtual 101, 3) := by decide +kernel
theorem dX11_feed_42 : decode cX11_feed 42 = .ok (.aload_n 0, 1) := by decide +kernel
theorem dX11_feed_43 : decode cX11_feed 43 = .ok (.getfield 10, 3) := by decide +kernel
theorem dX11_feed_46 : decode cX11_feed 46 = .ok (.iload 4, 2) := by decide +kernel
theorem dX11_feed_48 : decode cX11_feed 48 = .ok (.invokevirtual 101, 3) := by decide +kernel
theorem dX11_feed_51 : decode cX11_feed 51 = .ok (.aload_n 0, 1) := by decide +kernel
theorem dX11_feed_52 : decode cX11_feed 52 = .ok (.getfield 10, 3) := by decide +kernel
theorem dX11_feed_55 : decode cX11_feed 55 = .ok (.iload 5, 2) := by decide +kernel
theorem dX11_feed_57 : decode cX11_feed 57 = .ok (.invokevirtual 101, 3) := by decide +kernel
theorem dX11_feed_60 : decode cX11_feed 60 = .ok (.aload_n 0, 1) := by decide +kernel
theorem dX11_feed_61 : decode cX11_feed 61 = .ok (.getfield 10, 3) := by decide +kernel
theorem dX11_feed_64 : decode cX11_feed 64 = .ok (.getfield 97, 3) := by decide +kernel
theorem dX11_feed_67 : decode cX11_feed 67 = .ok (.ireturn, 1) := by decide +kernel
theorem dX11_town_0 : decode cX11_town 0 = .ok (.aload_n 0, 1) := by decide +kernel
theorem dX11_town_1 : decode cX11_town 1 = .ok (.iload_n 1, 1) := by decide +kernel
theorem dX11_town_2 : decode cX11_town 2 = .ok (.sipush 600, 3) := by decide +kernel
theorem dX11_town_5 : decode cX11_town 5 = .ok (.invokevirtual 105, 3) := by decide +kernel
theorem dX11_town_8 : decode cX11_town 8 = .ok (.aload_n 0, 1) := by decide +kernel
theorem dX11_town_9 : decode cX11_town 9 = .ok (.getfield 23, 3) := by decide +kernel
theorem dX11_town_12 : decode cX11_town 12 = .ok (.aload_n 0, 1) := by decide +kernel
theorem dX11_town_13 : decode cX11_town 13 = .ok (.getfield 10, 3) := by decide +kernel
theorem dX11_town_16 : decode cX11_town 16 = .ok (.invokevirtual 109, 3) := by decide +kernel
theorem dX11_town_19 : decode cX11_town 19 = .ok (.ifCond .ne 11, 3) := by decide +kernel
theorem dX11_town_22 : decode cX11_town 22 = .ok (.aload_n 0, 1) := by decide +kernel
theorem dX11_town_23 : decode cX11_town 23 = .ok (.getfield 10, 3) := by decide +kernel
theorem dX11_town_26 : decode cX11_town 26 = .ok (.invokevirtual 113, 3) := by decide +kernel
theorem dX11_town_29 : decode cX11_town 29 = .ok (.ireturn, 1) := by decide +kernel
theorem dX11_town_30 : decode cX11_town 30 = .ok (.aload_n 0, 1) := by decide +kernel
theorem dX11_town_31 : decode cX11_town 31 = .ok (.getfield 19, 3) := by decide +kernel
theorem dX11_town_34 : decode cX11_town 34 = .ok (.aload_n 0, 1) := by decide +kernel
theorem dX11_town_35 : decode cX11_town 35 = .ok (.getfield 23, 3) := by decide +kernel
theorem dX11_town_38 : decode cX11_town 38 = .ok (.invokevirtual 117, 3) := by decide +kernel
theorem dX11_town_41 : decode cX11_town 41 = .ok (.aload_n 0, 1) := by decide +kernel
theorem dX11_town_42 : decode cX11_town 42 = .ok (.getfield 29, 3) := by decide +kernel
theorem dX11_town_45 : decode cX11_town 45 = .ok (.invokevirtual 120, 3) := by decide +kernel
theorem dX11_town_48 : decode cX11_town 48 = .ok (.aload_n 0, 1) := by decide +kernel
theorem dX11_town_49 : decode cX11_town 49 = .ok (.getfield 48, 3) := by decide +kernel
theorem dX11_town_52 : decode cX11_town 52 = .ok (.invokevirtual 123, 3) := by decide +kernel
theorem dX11_town_55 : decode cX11_town 55 = .ok (.aload_n 0, 1) := by decide +kernel
theorem dX11_town_56 : decode cX11_town 56 = .ok (.getfield 87, 3) := by decide +kernel
theorem dX11_town_59 : decode cX11_town 59 = .ok (.invokevirtual 126, 3) := by decide +kernel
theorem dX11_town_62 : decode cX11_town 62 = .ok (.aload_n 0, 1) := by decide +kernel
theorem dX11_town_63 : decode cX11_town 63 = .ok (.aconst_null, 1) := by decide +kernel
theorem dX11_town_64 : decode cX11_town 64 = .ok (.putfield 127, 3) := by decide +kernel
theorem dX11_town_67 : decode cX11_town 67 = .ok (.aload_n 0, 1) := by decide +kernel
theorem dX11_town_68 : decode cX11_town 68 = .ok (.iconst 0, 1) := by decide +kernel
theorem dX11_town_69 : decode cX11_town 69 = .ok (.putfield 131, 3) := by decide +kernel
theorem dX11_town_72 : decode cX11_town 72 = .ok (.aload_n 0, 1) := by decide +kernel
theorem dX11_town_73 : decode cX11_town 73 = .ok (.iconst 0, 1) := by decide +kernel
theorem dX11_town_74 : decode cX11_town 74 = .ok (.putfield 134, 3) := by decide +kernel
theorem dX11_town_77 : decode cX11_town 77 = .ok (.aload_n 0, 1) := by decide +kernel
theorem dX11_town_78 : decode cX11_town 78 = .ok (.getfield 19, 3) := by decide +kernel
theorem dX11_town_81 : decode cX11_town 81 = .ok (.getfield 137, 3) := by decide +kernel
theorem dX11_town_84 : decode cX11_town 84 = .ok (.ireturn, 1) := by decide +kernel
theorem dX11_law_0 : decode cX11_law 0 = .ok (.aload_n 0, 1) := by decide +kernel
theorem dX11_law_1 : decode cX11_law 1 = .ok (.iload_n 1, 1) := by decide +kernel
theorem dX11_law_2 : decode cX11_law 2 = .ok (.sipush 150, 3) := by decide +kernel
theorem dX11_law_5 : decode cX11_law 5 = .ok (.invokevirtual 105, 3) := by decide +kernel
theorem dX11_law_8 : decode cX11_law 8 = .ok (.aload_n 0, 1) := by decide +kernel
theorem dX11_law_9 : decode cX11_law 9 = .ok (.getfield 33, 3) := by decide +kernel
theorem dX11_law_12 : decode cX11_law 12 = .ok (.aload_n 0, 1) := by decide +kernel
theorem dX11_law_13 : decode cX11_law 13 = .ok (.getfield 10, 3) := by decide +kernel
theorem dX11_law_16 : decode cX11_law 16 = .ok (.invokevirtual 140, 3) := by decide +kernel
theorem dX11_law_19 : decode cX11_law 19 = .ok (.ifCond .ne 11, 3) := by decide +kernel
theorem dX11_law_22 : decode cX11_law 22 = .ok (.aload_n 0, 1) := by decide +kernel
theorem dX11_law_23 : decode cX11_law 23 = .ok (.getfield 10, 3) := by decide +kernel
theorem dX11_law_26 : decode cX11_law 26 = .ok (.invokevirtual 113, 3) := by decide +kernel
theorem dX11_law_29 : decode cX11_law 29 = .ok (.ireturn, 1) := by decide +kernel
theorem dX11_law_30 : decode cX11_law 30 = .ok (.aload_n 0, 1) := by decide +kernel
theorem dX11_law_31 : decode cX11_law 31 = .ok (.getfield 29, 3) := by decide +kernel
theorem dX11_law_34 : decode cX11_law 34 = .ok (.aload_n 0, 1) := by decide +kernel
theorem dX11_law_35 : decode cX11_law 35 = .ok (.getfield 33, 3) := by decide +kernel
theorem dX11_law_38 : decode cX11_law 38 = .ok (.invokevirtual 141, 3) := by decide +kernel
theorem dX11_law_41 : decode cX11_law 41 = .ok (.iconst 1, 1) := by decide +kernel
theorem dX11_law_42 : decode cX11_law 42 = .ok (.ireturn, 1) := by decide +kernel
theorem dX11_work_0 : decode cX11_work 0 = .ok (.aload_n 0, 1) := by decide +kernel
theorem dX11_work_1 : decode cX11_work 1 = .ok (.iload_n 1, 1) := by decide +kernel
theorem dX11_work_2 : decode cX11_work 2 = .ok (.sipush 150, 3) := by decide +kernel
theorem dX11_work_5 : decode cX11_work 5 = .ok (.invokevirtual 105, 3) := by decide +kernel
theorem dX11_work_8 : decode cX11_work 8 = .ok (.aload_n 0, 1) := by decide +kernel
theorem dX11_work_9 : decode cX11_work 9 = .ok (.invokevirtual 144, 3) := by decide +kernel
theorem dX11_work_12 : decode cX11_work 12 = .ok (.bipush 16, 2) := by decide +kernel
theorem dX11_work_14 : decode cX11_work 14 = .ok (.if_icmp .lt 6, 3) := by decide +kernel
theorem dX11_work_17 : decode cX11_work 17 = .ok (.bipush (-20), 2) := by decide +kernel
theorem dX11_work_19 : decode cX11_work 19 = .ok (.ireturn, 1) := by decide +kernel
theorem dX11_work_20 : decode cX11_work 20 = .ok (.aload_n 0, 1) := by decide +kernel
theorem dX11_work_21 : decode cX11_work 21 = .ok (.getfield 39, 3) := by decide +kernel
theorem dX11_work_24 : decode cX11_work 24 = .ok (.aload_n 0, 1) := by decide +kernel
theorem dX11_work_25 : decode cX11_work 25 = .ok (.getfield 10, 3) := by decide +kernel
theorem dX11_work_28 : decode cX11_work 28 = .ok (.aload_n 0, 1) := by decide +kernel
theorem dX11_work_29 : decode cX11_work 29 = .ok (.getfield 19, 3) := by decide +kernel
theorem dX11_work_32 : decode cX11_work 32 = .ok (.getfield 137, 3) := by decide +kernel
theorem dX11_work_35 : decode cX11_work 35 = .ok (.invokevirtual 147, 3) := by decide +kernel
theorem dX11_work_38 : decode cX11_work 38 = .ok (.ifCond .ne 11, 3) := by decide +kernel
theorem dX11_work_41 : decode cX11_work 41 = .ok (.aload_n 0, 1) := by decide +kernel
theorem dX11_work_42 : decode cX11_work 42 = .ok (.getfield 10, 3) := by decide +kernel
theorem dX11_work_45 : decode cX11_work 45 = .ok (.invokevirtual 113, 3) := by decide +kernel
theorem dX11_work_48 : decode cX11_work 48 = .ok (.ireturn, 1) := by decide +kernel
theorem dX11_work_49 : decode cX11_work 49 = .ok (.aload_n 0, 1) := by decide +kernel
theorem dX11_work_50 : decode cX11_work 50 = .ok (.new 91, 3) := by decide +kernel
theorem dX11_work_53 : decode cX11_work 53 = .ok (.dup, 1) := by decide +kernel
theorem dX11_work_54 : decode cX11_work 54 = .ok (.aload_n 0, 1) := by decide +kernel
theorem dX11_work_55 : decode cX11_work 55 = .ok (.getfield 87, 3) := by decide +kernel
theorem dX11_work_58 : decode cX11_work 58 = .ok (.aload_n 0, 1) := by decide +kernel
theorem dX11_work_59 : decode cX11_work 59 = .ok (.getfield 127, 3) := by decide +kernel
theorem dX11_work_62 : decode cX11_work 62 = .ok (.invokespecial 150, 3) := by decide +kernel
theorem dX11_work_65 : decode cX11_work 65 = .ok (.putfield 127, 3) := by decide +kernel
theorem dX11_work_68 : decode cX11_work 68 = .ok (.aload_n 0, 1) := by decide +kernel
theorem dX11_work_69 : decode cX11_work 69 = .ok (.getfield 39, 3) := by decide +kernel
theorem dX11_work_72 : decode cX11_work 72 = .ok (.aload_n 0, 1) := by decide +kernel
theorem dX11_work_73 : decode cX11_work 73 = .ok (.getfield 57, 3) := by decide +kernel
theorem dX11_work_76 : decode cX11_work 76 = .ok (.aload_n 0, 1) := by decide +kernel
theorem dX11_work_77 : decode cX11_work 77 = .ok (.getfield 87, 3) := by decide +kernel
theorem dX11_work_80 : decode cX11_work 80 = .ok (.invokevirtual 153, 3) := by decide +kernel
theorem dX11_work_83 : decode cX11_work 83 = .ok (.aload_n 0, 1) := by decide +kernel
theorem dX11_work_84 : decode cX11_work 84 = .ok (.aload_n 0, 1) := by decide +kernel
theorem dX11_work_85 : decode cX11_work 85 = .ok (.getfield 39, 3) := by decide +kernel
theorem dX11_work_88 : decode cX11_work 88 = .ok (.getfield 157, 3) := by decide +kernel
theorem dX11_work_91 : decode cX11_work 91 = .ok (.putfield 134, 3) := by decide +kernel
theorem dX11_work_94 : decode cX11_work 94 = .ok (.aload_n 0, 1) := by decide +kernel
theorem dX11_work_95 : decode cX11_work 95 = .ok (.getfield 39, 3) := by decide +kernel
theorem dX11_work_98 : decode cX11_work 98 = .ok (.getfield 160, 3) := by decide +kernel
theorem dX11_work_101 : decode cX11_work 101 = .ok (.ireturn, 1) := by decide +kernel
theorem dX11_words_0 : decode cX11_words 0 = .ok (.aload_n 0, 1) := by decide +kernel
theorem dX11_words_1 : decode cX11_words 1 = .ok (.iload_n 1, 1) := by decide +kernel
theorem dX11_words_2 : decode cX11_words 2 = .ok (.bipush 60, 2) := by decide +kernel
theorem dX11_words_4 : decode cX11_words 4 = .ok (.invokevirtual 105, 3) := by decide +kernel
theorem dX11_words_7 : decode cX11_words 7 = .ok (.aload_n 0, 1) := by decide +kernel
theorem dX11_words_8 : decode cX11_words 8 = .ok (.getfield 48, 3) := by decide +kernel
theorem dX11_words_11 : decode cX11_words 11 = .ok (.aload_n 0, 1) := by decide +kernel
theorem dX11_words_12 : decode cX11_words 12 = .ok (.getfield 10, 3) := by decide +kernel
theorem dX11_words_15 : decode cX11_words 15 = .ok (.invokevirtual 163, 3) := by decide +kernel
theorem dX11_words_18 : decode cX11_words 18 = .ok (.ifCond .ne 11, 3) := by decide +kernel
theorem dX11_words_21 : decode cX11_words 21 = .ok (.aload_n 0, 1) := by decide +kernel
theorem dX11_words_22 : decode cX11_words 22 = .ok (.getfield 10, 3) := by decide +kernel
theorem dX11_words_25 : decode cX11_words 25 = .ok (.invokevirtual 113, 3) := by decide +kernel
theorem dX11_words_28 : decode cX11_words 28 = .ok (.ireturn, 1) := by decide +kernel
theorem dX11_words_29 : decode cX11_words 29 = .ok (.aload_n 0, 1) := by decide +kernel
theorem dX11_words_30 : decode cX11_words 30 = .ok (.getfield 48, 3) := by decide +kernel
theorem dX11_words_33 : decode cX11_words 33 = .ok (.getfield 164, 3) := by decide +kernel
theorem dX11_words_36 : decode cX11_words 36 = .ok (.ireturn, 1) := by decide +kernel
theorem dX11_fault_0 : decode cX11_fault 0 = .ok (.aload_n 0, 1) := by decide +kernel
theorem dX11_fault_1 : decode cX11_fault 1 = .ok (.getfield 10, 3) := by decide +kernel
theorem dX11_fault_4 : decode cX11_fault 4 = .ok (.getfield 167, 3) := by decide +kernel
theorem dX11_fault_7 : decode cX11_fault 7 = .ok (.ireturn, 1) := by decide +kernel
theorem dX11_undo_0 : decode cX11_undo 0 = .ok (.aload_n 0, 1) := by decide +kernel
theorem dX11_undo_1 : decode cX11_undo 1 = .ok (.getfield 127, 3) := by decide +kernel
theorem dX11_undo_4 : decode cX11_undo 4 = .ok (.ifnonnull 5, 3) := by decide +kernel
theorem dX11_undo_7 : decode cX11_undo 7 = .ok (.iconst (-1), 1) := by decide +kernel
theorem dX11_undo_8 : decode cX11_undo 8 = .ok (.ireturn, 1) := by decide +kernel
theorem dX11_undo_9 : decode cX11_undo 9 = .ok (.aload_n 0, 1) := by decide +kernel
theorem dX11_undo_10 : decode cX11_undo 10 = .ok (.getfield 87, 3) := by decide +kernel
theorem dX11_undo_13 : decode cX11_undo 13 = .ok (.aload_n 0, 1) := by decide +kernel
theorem dX11_undo_14 : decode cX11_undo 14 = .ok (.getfield 127, 3) := by decide +kernel
theorem dX11_undo_17 : decode cX11_undo 17 = .ok (.getfield 170, 3) := by decide +kernel
theorem dX11_undo_20 : decode cX11_undo 20 = .ok (.invokevirtual 173, 3) := by decide +kernel
theorem dX11_undo_23 : decode cX11_undo 23 = .ok (.aload_n 0, 1) := by decide +kernel
theorem dX11_undo_24 : decode cX11_undo 24 = .ok (.aload_n 0, 1) := by decide +kernel
theorem dX11_undo_25 : decode cX11_undo 25 = .ok (.getfield 127, 3) := by decide +kernel
theorem dX11_undo_28 : decode cX11_undo 28 = .ok (.getfield 176, 3) := by decide +kernel
theorem dX11_undo_31 : decode cX11_undo 31 = .ok (.putfield 127, 3) := by decide +kernel
theorem dX11_undo_34 : decode cX11_undo 34 = .ok (.aload_n 0, 1) := by decide +kernel
theorem dX11_undo_35 : decode cX11_undo 35 = .ok (.iconst 0, 1) := by decide +kernel
theorem dX11_undo_36 : decode cX11_undo 36 = .ok (.putfield 134, 3) := by decide +kernel
theorem dX11_undo_39 : decode cX11_undo 39 = .ok (.aload_n 0, 1) := by decide +kernel
theorem dX11_undo_40 : decode cX11_undo 40 = .ok (.invokevirtual 144, 3) := by decide +kernel
theorem dX11_undo_43 : decode cX11_undo 43 = .ok (.ireturn, 1) := by decide +kernel
theorem dX11_told_0 : decode cX11_told 0 = .ok (.aload_n 0, 1) := by decide +kernel
theorem dX11_told_1 : decode cX11_told 1 = .ok (.iload_n 1, 1) := by decide +kernel
theorem dX11_told_2 : decode cX11_told 2 = .ok (.bipush 8, 2) := by decide +kernel
theorem dX11_told_4 : decode cX11_told 4 = .ok (.invokevirtual 179, 3) := by decide +kernel
theorem dX11_told_7 : decode cX11_told 7 = .ok (.iload_n 1, 1) := by decide +kernel
theorem dX11_told_8 : decode cX11_told 8 = .ok (.tableswitch 117 0 7 #[48, 56, 64, 72, 80, 88, 93, 101], 48) := by decide +kernel
theorem dX11_told_56 : decode cX11_told 56 = .ok (.aload_n 0, 1) := by decide +kernel
theorem dX11_told_57 : decode cX11_told 57 = .ok (.getfield 19, 3) := by decide +kernel
theorem dX11_told_60 : decode cX11_told 60 = .ok (.getfield 137, 3) := by decide +kernel
theorem dX11_told_63 : decode cX11_told 63 = .ok (.ireturn, 1) := by decide +kernel
theorem dX11_told_64 : decode cX11_told 64 = .ok (.aload_n 0, 1) := by decide +kernel
theorem dX11_told_65 : decode cX11_told 65 = .ok (.getfield 87, 3) := by decide +kernel
theorem dX11_told_68 : decode cX11_told 68 = .ok (.getfield 182, 3) := by decide +kernel
theorem dX11_told_71 : decode cX11_told 71 = .ok (.ireturn, 1) := by decide +kernel
theorem dX11_told_72 : decode cX11_told 72 = .ok (.aload_n 0, 1) := by decide +kernel
theorem dX11_told_73 : decode cX11_told 73 = .ok (.getfield 87, 3) := by decide +kernel
theorem dX11_told_76 : decode cX11_told 76 = .ok (.getfield 185, 3) := by decide +kernel
theorem dX11_told_79 : decode cX11_told 79 = .ok (.ireturn, 1) := by decide +kernel
theorem dX11_told_80 : decode cX11_told 80 = .ok (.aload_n 0, 1) := by decide +kernel
theorem dX11_told_81 : decode cX11_told 81 = .ok (.getfield 19, 3) := by decide +kernel
theorem dX11_told_84 : decode cX11_told 84 = .ok (.getfield 188, 3) := by decide +kernel
theorem dX11_told_87 : decode cX11_told 87 = .ok (.ireturn, 1) := by decide +kernel
theorem dX11_told_88 : decode cX11_told 88 = .ok (.aload_n 0, 1) := by decide +kernel
theorem dX11_told_89 : decode cX11_told 89 = .ok (.getfield 48, 3) := by decide +kernel
theorem dX11_told_92 : decode cX11_told 92 = .ok (.getfield 164, 3) := by decide +kernel
theorem dX11_told_95 : decode cX11_told 95 = .ok (.ireturn, 1) := by decide +kernel
theorem dX11_told_96 : decode cX11_told 96 = .ok (.aload_n 0, 1) := by decide +kernel
theorem dX11_told_97 : decode cX11_told 97 = .ok (.getfield 134, 3) := by decide +kernel
theorem dX11_told_100 : decode cX11_told 100 = .ok (.ireturn, 1) := by decide +kernel
theorem dX11_told_101 : decode cX11_told 101 = .ok (.aload_n 0, 1) := by decide +kernel
theorem dX11_told_102 : decode cX11_told 102 = .ok (.getfield 87, 3) := by decide +kernel
theorem dX11_told_105 : decode cX11_told 105 = .ok (.invokevirtual 191, 3) := by decide +kernel
theorem dX11_told_108 : decode cX11_told 108 = .ok (.ireturn, 1) := by decide +kernel
theorem dX11_told_109 : decode cX11_told 109 = .ok (.aload_n 0, 1) := by decide +kernel
theorem dX11_told_110 : decode cX11_told 110 = .ok (.getfield 87, 3) := by decide +kernel
theorem dX11_told_113 : decode cX11_told 113 = .ok (.invokevirtual 191, 3) := by decide +kernel
theorem dX11_told_116 : decode cX11_told 116 = .ok (.aload_n 0, 1) := by decide +kernel
theorem dX11_told_117 : decode cX11_told 117 = .ok (.getfield 87, 3) := by decide +kernel
theorem dX11_told_120 : decode cX11_told 120 = .ok (.getfield 182, 3) := by decide +kernel
theorem dX11_told_123 : decode cX11_told 123 = .ok (.isub, 1) := by decide +kernel
theorem dX11_told_124 : decode cX11_told 124 = .ok (.ireturn, 1) := by decide +kernel
theorem dX11_told_125 : decode cX11_told 125 = .ok (.aload_n 0, 1) := by decide +kernel
theorem dX11_told_126 : decode cX11_told 126 = .ok (.getfield 19, 3) := by decide +kernel
theorem dX11_told_129 : decode cX11_told 129 = .ok (.invokevirtual 194, 3) := by decide +kernel
theorem dX11_told_132 : decode cX11_told 132 = .ok (.ireturn, 1) := by decide +kernel
theorem dX11_person_0 : decode cX11_person 0 = .ok (.aload_n 0, 1) := by decide +kernel
theorem dX11_person_1 : decode cX11_person 1 = .ok (.iload_n 1, 1) := by decide +kernel
theorem dX11_person_2 : decode cX11_person 2 = .ok (.invokevirtual 197, 3) := by decide +kernel
theorem dX11_person_5 : decode cX11_person 5 = .ok (.aload_n 0, 1) := by decide +kernel
theorem dX11_person_6 : decode cX11_person 6 = .ok (.iload_n 2, 1) := by decide +kernel
theorem dX11_person_7 : decode cX11_person 7 = .ok (.bipush 6, 2) := by decide +kernel
theorem dX11_person_9 : decode cX11_person 9 = .ok (.invokevirtual 179, 3) := by decide +kernel
theorem dX11_person_12 : decode cX11_person 12 = .ok (.iload_n 2, 1) := by decide +kernel
theorem dX11_person_13 : decode cX11_person 13 = .ok (.tableswitch 99 0 5 #[39, 49, 59, 69, 79, 89], 39) := by decide +kernel
theorem dX11_person_52 : decode cX11_person 52 = .ok (.aload_n 0, 1) := by decide +kernel
theorem dX11_person_53 : decode cX11_person 53 = .ok (.getfield 19, 3) := by decide +kernel
theorem dX11_person_56 : decode cX11_person 56 = .ok (.getfield 200, 3) := by decide +kernel
theorem dX11_person_59 : decode cX11_person 59 = .ok (.iload_n 1, 1) := by decide +kernel
theorem dX11_person_60 : decode cX11_person 60 = .ok (.iaload, 1) := by decide +kernel
theorem dX11_person_61 : decode cX11_person 61 = .ok (.ireturn, 1) := by decide +kernel
theorem dX11_person_62 : decode cX11_person 62 = .ok (.aload_n 0, 1) := by decide +kernel
theorem dX11_person_63 : decode cX11_person 63 = .ok (.getfield 19, 3) := by decide +kernel
theorem dX11_person_66 : decode cX11_person 66 = .ok (.getfield 204, 3) := by decide +kernel
theorem dX11_person_69 : decode cX11_person 69 = .ok (.iload_n 1, 1) := by decide +kernel
theorem dX11_person_70 : decode cX11_person 70 = .ok (.iaload, 1) := by decide +kernel
theorem dX11_person_71 : decode cX11_person 71 = .ok (.ireturn, 1) := by decide +kernel
theorem dX11_person_72 : decode cX11_person 72 = .ok (.aload_n 0, 1) := by decide +kernel
theorem dX11_person_73 : decode cX11_person 73 = .ok (.getfield 19, 3) := by decide +kernel
theorem dX11_person_76 : decode cX11_person 76 = .ok (.getfield 207, 3) := by decide +kernel
theorem dX11_person_79 : decode cX11_person 79 = .ok (.iload_n 1, 1) := by decide +kernel
theorem dX11_person_80 : decode cX11_person 80 = .ok (.iaload, 1) := by decide +kernel
theorem dX11_person_81 : decode cX11_person 81 = .ok (.ireturn, 1) := by decide +kernel
theorem dX11_person_82 : decode cX11_person 82 = .ok (.aload_n 0, 1) := by decide +kernel
theorem dX11_person_83 : decode cX11_person 83 = .ok (.getfield 87, 3) := by decide +kernel
theorem dX11_person_86 : decode cX11_person 86 = .ok (.getfield 210, 3) := by decide +kernel
theorem dX11_person_89 : decode cX11_person 89 = .ok (.iload_n 1, 1) := by decide +kernel
theorem dX11_person_90 : decode cX11_person 90 = .ok (.iaload, 1) := by decide +kernel
theorem dX11_person_91 : decode cX11_person 91 = .ok (.ireturn, 1) := by decide +kernel
theorem dX11_person_92 : decode cX11_person 92 = .ok (.aload_n 0, 1) := by decide +kernel
theorem dX11_person_93 : decode cX11_person 93 = .ok (.getfield 87, 3) := by decide +kernel
theorem dX11_person_96 : decode cX11_person 96 = .ok (.getfield 213, 3) := by decide +kernel
theorem dX11_person_99 : decode cX11_person 99 = .ok (.iload_n 1, 1) := by decide +kernel
theorem dX11_person_100 : decode cX11_person 100 = .ok (.iaload, 1) := by decide +kernel
theorem dX11_person_101 : decode cX11_person 101 = .ok (.ireturn, 1) := by decide +kernel
theorem dX11_person_102 : decode cX11_person 102 = .ok (.aload_n 0, 1) := by decide +kernel
theorem dX11_person_103 : decode cX11_person 103 = .ok (.getfield 87, 3) := by decide +kernel
theorem dX11_person_106 : decode cX11_person 106 = .ok (.getfield 216, 3) := by decide +kernel
theorem dX11_person_109 : decode cX11_person 109 = .ok (.iload_n 1, 1) := by decide +kernel
theorem dX11_person_110 : decode cX11_person 110 = .ok (.iaload, 1) := by decide +kernel
theorem dX11_person_111 : decode cX11_person 111 = .ok (.ireturn, 1) := by decide +kernel
theorem dX11_person_112 : decode cX11_person 112 = .ok (.aload_n 0, 1) := by decide +kernel
theorem dX11_person_113 : decode cX11_person 113 = .ok (.getfield 19, 3) := by decide +kernel
theorem dX11_person_116 : decode cX11_person 116 = .ok (.getfield 219, 3) := by decide +kernel
theorem dX11_person_119 : decode cX11_person 119 = .ok (.iload_n 1, 1) := by decide +kernel
theorem dX11_person_120 : decode cX11_person 120 = .ok (.iaload, 1) := by decide +kernel
theorem dX11_person_121 : decode cX11_person 121 = .ok (.ireturn, 1) := by decide +kernel
theorem dX11_plate_0 : decode cX11_plate 0 = .ok (.aload_n 0, 1) := by decide +kernel
theorem dX11_plate_1 : decode cX11_plate 1 = .ok (.iload_n 1, 1) := by decide +kernel
theorem dX11_plate_2 : decode cX11_plate 2 = .ok (.ifCond .lt 18, 3) := by decide +kernel
theorem dX11_plate_5 : decode cX11_plate 5 = .ok (.iload_n 1, 1) := by decide +kernel
theorem dX11_plate_6 : decode cX11_plate 6 = .ok (.aload_n 0, 1) := by decide +kernel
theorem dX11_plate_7 : decode cX11_plate 7 = .ok (.getfield 87, 3) := by decide +kernel
theorem dX11_plate_10 : decode cX11_plate 10 = .ok (.getfield 182, 3) := by decide +kernel
theorem dX11_plate_13 : decode cX11_plate 13 = .ok (.if_icmp .ge 7, 3) := by decide +kernel
theorem dX11_plate_16 : decode cX11_plate 16 = .ok (.iconst 1, 1) := by decide +kernel
theorem dX11_plate_17 : decode cX11_plate 17 = .ok (.goto 4, 3) := by decide +kernel
theorem dX11_plate_20 : decode cX11_plate 20 = .ok (.iconst 0, 1) := by decide +kernel
theorem dX11_plate_21 : decode cX11_plate 21 = .ok (.invokevirtual 222, 3) := by decide +kernel
theorem dX11_plate_24 : decode cX11_plate 24 = .ok (.aload_n 0, 1) := by decide +kernel
theorem dX11_plate_25 : decode cX11_plate 25 = .ok (.iload_n 2, 1) := by decide +kernel
theorem dX11_plate_26 : decode cX11_plate 26 = .ok (.iconst 5, 1) := by decide +kernel
theorem dX11_plate_27 : decode cX11_plate 27 = .ok (.invokevirtual 179, 3) := by decide +kernel
theorem dX11_plate_30 : decode cX11_plate 30 = .ok (.iload_n 2, 1) := by decide +kernel
theorem dX11_plate_31 : decode cX11_plate 31 = .ok (.tableswitch 78 0 4 #[33, 42, 51, 60, 69], 33) := by decide +kernel
theorem dX11_plate_64 : decode cX11_plate 64 = .ok (.aload_n 0, 1) := by decide +kernel
theorem dX11_plate_65 : decode cX11_plate 65 = .ok (.getfield 87, 3) := by decide +kernel
theorem dX11_plate_68 : decode cX11_plate 68 = .ok (.iload_n 1, 1) := by decide +kernel
theorem dX11_plate_69 : decode cX11_plate 69 = .ok (.invokevirtual 226, 3) := by decide +kernel
theorem dX11_plate_72 : decode cX11_plate 72 = .ok (.ireturn, 1) := by decide +kernel
theorem dX11_plate_73 : decode cX11_plate 73 = .ok (.aload_n 0, 1) := by decide +kernel
theorem dX11_plate_74 : decode cX11_plate 74 = .ok (.getfield 87, 3) := by decide +kernel
theorem dX11_plate_77 : decode cX11_plate 77 = .ok (.iload_n 1, 1) := by decide +kernel
theorem dX11_plate_78 : decode cX11_plate 78 = .ok (.invokevirtual 230, 3) := by decide +kernel
theorem dX11_plate_81 : decode cX11_plate 81 = .ok (.ireturn, 1) := by decide +kernel
theorem dX11_plate_82 : decode cX11_plate 82 = .ok (.aload_n 0, 1) := by decide +kernel
theorem dX11_plate_83 : decode cX11_plate 83 = .ok (.getfield 87, 3) := by decide +kernel
theorem dX11_plate_86 : decode cX11_plate 86 = .ok (.iload_n 1, 1) := by decide +kernel
theorem dX11_plate_87 : decode cX11_plate 87 = .ok (.invokevirtual 233, 3) := by decide +kernel
theorem dX11_plate_90 : decode cX11_plate 90 = .ok (.ireturn, 1) := by decide +kernel
theorem dX11_plate_91 : decode cX11_plate 91 = .ok (.aload_n 0, 1) := by decide +kernel
theorem dX11_plate_92 : decode cX11_plate 92 = .ok (.getfield 87, 3) := by decide +kernel
theorem dX11_plate_95 : decode cX11_plate 95 = .ok (.iload_n 1, 1) := by decide +kernel
theorem dX11_plate_96 : decode cX11_plate 96 = .ok (.invokevirtual 236, 3) := by decide +kernel
theorem dX11_plate_99 : decode cX11_plate 99 = .ok (.ireturn, 1) := by decide +kernel
theorem dX11_plate_100 : decode cX11_plate 100 = .ok (.aload_n 0, 1) := by decide +kernel
theorem dX11_plate_101 : decode cX11_plate 101 = .ok (.getfield 87, 3) := by decide +kernel
theorem dX11_plate_104 : decode cX11_plate 104 = .ok (.iload_n 1, 1) := by decide +kernel
theorem dX11_plate_105 : decode cX11_plate 105 = .ok (.invokevirtual 239, 3) := by decide +kernel
theorem dX11_plate_108 : decode cX11_plate 108 = .ok (.ireturn, 1) := by decide +kernel
theorem dX11_plate_109 : decode cX11_plate 109 = .ok (.aload_n 0, 1) := by decide +kernel
theorem dX11_plate_110 : decode cX11_plate 110 = .ok (.getfield 19, 3) := by decide +kernel
theorem dX11_plate_113 : decode cX11_plate 113 = .ok (.aload_n 0, 1) := by decide +kernel
theorem dX11_plate_114 : decode cX11_plate 114 = .ok (.getfield 87, 3) := by decide +kernel
theorem dX11_plate_117 : decode cX11_plate 117 = .ok (.iload_n 1, 1) := by decide +kernel
theorem dX11_plate_118 : decode cX11_plate 118 = .ok (.invokevirtual 236, 3) := by decide +kernel
theorem dX11_plate_121 : decode cX11_plate 121 = .ok (.invokevirtual 242, 3) := by decide +kernel
theorem dX11_plate_124 : decode cX11_plate 124 = .ok (.ireturn, 1) := by decide +kernel
theorem dX11_hall_0 : decode cX11_hall 0 = .ok (.aload_n 0, 1) := by decide +kernel
theorem dX11_hall_1 : decode cX11_hall 1 = .ok (.iload_n 1, 1) := by decide +kernel
theorem dX11_hall_2 : decode cX11_hall 2 = .ok (.invokevirtual 245, 3) := by decide +kernel
theorem dX11_hall_5 : decode cX11_hall 5 = .ok (.aload_n 0, 1) := by decide +kernel
theorem dX11_hall_6 : decode cX11_hall 6 = .ok (.iload_n 2, 1) := by decide +kernel
theorem dX11_hall_7 : decode cX11_hall 7 = .ok (.iconst 3, 1) := by decide +kernel
theorem dX11_hall_8 : decode cX11_hall 8 = .ok (.invokevirtual 179, 3) := by decide +kernel
theorem dX11_hall_11 : decode cX11_hall 11 = .ok (.iconst 0, 1) := by decide +kernel
theorem dX11_hall_12 : decode cX11_hall 12 = .ok (.istore_n 3, 1) := by decide +kernel
theorem dX11_hall_13 : decode cX11_hall 13 = .ok (.iconst 0, 1) := by decide +kernel
theorem dX11_hall_14 : decode cX11_hall 14 = .ok (.istore 4, 2) := by decide +kernel
theorem dX11_hall_16 : decode cX11_hall 16 = .ok (.iconst 0, 1) := by decide +kernel
theorem dX11_hall_17 : decode cX11_hall 17 = .ok (.istore 5, 2) := by decide +kernel
theorem dX11_hall_19 : decode cX11_hall 19 = .ok (.iload 5, 2) := by decide +kernel
theorem dX11_hall_21 : decode cX11_hall 21 = .ok (.aload_n 0, 1) := by decide +kernel
theorem dX11_hall_22 : decode cX11_hall 22 = .ok (.getfield 87, 3) := by decide +kernel
theorem dX11_hall_25 : decode cX11_hall 25 = .ok (.getfield 182, 3) := by decide +kernel
theorem dX11_hall_28 : decode cX11_hall 28 = .ok (.if_icmp .ge 86, 3) := by decide +kernel
theorem dX11_hall_31 : decode cX11_hall 31 = .ok (.aload_n 0, 1) := by decide +kernel
theorem dX11_hall_32 : decode cX11_hall 32 = .ok (.getfield 87, 3) := by decide +kernel
theorem dX11_hall_35 : decode cX11_hall 35 = .ok (.iload 5, 2) := by decide +kernel
theorem dX11_hall_37 : decode cX11_hall 37 = .ok (.invokevirtual 233, 3) := by decide +kernel
theorem dX11_hall_40 : decode cX11_hall 40 = .ok (.iload_n 1, 1) := by decide +kernel
theorem dX11_hall_41 : decode cX11_hall 41 = .ok (.if_icmp .ne 67, 3) := by decide +kernel
theorem dX11_hall_44 : decode cX11_hall 44 = .ok (.iinc 3 1, 3) := by decide +kernel
theorem dX11_hall_47 : decode cX11_hall 47 = .ok (.iload_n 2, 1) := by decide +kernel
theorem dX11_hall_48 : decode cX11_hall 48 = .ok (.iconst 1, 1) := by decide +kernel
theorem dX11_hall_49 : decode cX11_hall 49 = .ok (.if_icmp .ne 15, 3) := by decide +kernel
theorem dX11_hall_52 : decode cX11_hall 52 = .ok (.aload_n 0, 1) := by decide +kernel
theorem dX11_hall_53 : decode cX11_hall 53 = .ok (.getfield 87, 3) := by decide +kernel
theorem dX11_hall_56 : decode cX11_hall 56 = .ok (.iload 5, 2) := by decide +kernel
theorem dX11_hall_58 : decode cX11_hall 58 = .ok (.invokevirtual 226, 3) := by decide +kernel
theorem dX11_hall_61 : decode cX11_hall 61 = .ok (.goto 36, 3) := by decide +kernel
theorem dX11_hall_64 : decode cX11_hall 64 = .ok (.iload_n 2, 1) := by decide +kernel
theorem dX11_hall_65 : decode cX11_hall 65 = .ok (.iconst 2, 1) := by decide +kernel
theorem dX11_hall_66 : decode cX11_hall 66 = .ok (.if_icmp .ne 15, 3) := by decide +kernel
theorem dX11_hall_69 : decode cX11_hall 69 = .ok (.aload_n 0, 1) := by decide +kernel
theorem dX11_hall_70 : decode cX11_hall 70 = .ok (.getfield 87, 3) := by decide +kernel
theorem dX11_hall_73 : decode cX11_hall 73 = .ok (.iload 5, 2) := by decide +kernel
theorem dX11_hall_75 : decode cX11_hall 75 = .ok (.invokevirtual 230, 3) := by decide +kernel
theorem dX11_hall_78 : decode cX11_hall 78 = .ok (.goto 19, 3) := by decide +kernel
theorem dX11_hall_81 : decode cX11_hall 81 = .ok (.aload_n 0, 1) := by decide +kernel
theorem dX11_hall_82 : decode cX11_hall 82 = .ok (.getfield 19, 3) := by decide +kernel
theorem dX11_hall_85 : decode cX11_hall 85 = .ok (.aload_n 0, 1) := by decide +kernel
theorem dX11_hall_86 : decode cX11_hall 86 = .ok (.getfield 87, 3) := by decide +kernel
theorem dX11_hall_89 : decode cX11_hall 89 = .ok (.iload 5, 2) := by decide +kernel
theorem dX11_hall_91 : decode cX11_hall 91 = .ok (.invokevirtual 236, 3) := by decide +kernel
theorem dX11_hall_94 : decode cX11_hall 94 = .ok (.invokevirtual 242, 3) := by decide +kernel
theorem dX11_hall_97 : decode cX11_hall 97 = .ok (.istore 6, 2) := by decide +kernel
theorem dX11_hall_99 : decode cX11_hall 99 = .ok (.iload 4, 2) := by decide +kernel
theorem dX11_hall_101 : decode cX11_hall 101 = .ok (.iconst 1, 1) := by decide +kernel
theorem dX11_hall_102 : decode cX11_hall 102 = .ok (.iload 6, 2) := by decide +kernel
theorem dX11_hall_104 : decode cX11_hall 104 = .ok (.ishl, 1) := by decide +kernel
theorem dX11_hall_105 : decode cX11_hall 105 = .ok (.ior, 1) := by decide +kernel
theorem dX11_hall_106 : decode cX11_hall 106 = .ok (.istore 4, 2) := by decide +kernel
theorem dX11_hall_108 : decode cX11_hall 108 = .ok (.iinc 5 1, 3) := by decide +kernel
theorem dX11_hall_111 : decode cX11_hall 111 = .ok (.goto (-92), 3) := by decide +kernel
theorem dX11_hall_114 : decode cX11_hall 114 = .ok (.iload_n 2, 1) := by decide +kernel
theorem dX11_hall_115 : decode cX11_hall 115 = .ok (.ifCond .ne 7, 3) := by decide +kernel
theorem dX11_hall_118 : decode cX11_hall 118 = .ok (.iload_n 3, 1) := by decide +kernel
theorem dX11_hall_119 : decode cX11_hall 119 = .ok (.goto 5, 3) := by decide +kernel
theorem dX11_hall_122 : decode cX11_hall 122 = .ok (.iload 4, 2) := by decide +kernel
theorem dX11_hall_124 : decode cX11_hall 124 = .ok (.ireturn, 1) := by decide +kernel
theorem dX11_shown_0 : decode cX11_shown 0 = .ok (.aload_n 0, 1) := by decide +kernel
theorem dX11_shown_1 : decode cX11_shown 1 = .ok (.iload_n 1, 1) := by decide +kernel
theorem dX11_shown_2 : decode cX11_shown 2 = .ok (.invokevirtual 197, 3) := by decide +kernel
theorem dX11_shown_5 : decode cX11_shown 5 = .ok (.aload_n 0, 1) := by decide +kernel
theorem dX11_shown_6 : decode cX11_shown 6 = .ok (.iload_n 2, 1) := by decide +kernel
theorem dX11_shown_7 : decode cX11_shown 7 = .ok (.invokevirtual 197, 3) := by decide +kernel
theorem dX11_shown_10 : decode cX11_shown 10 = .ok (.aload_n 0, 1) := by decide +kernel
theorem dX11_shown_11 : decode cX11_shown 11 = .ok (.iload_n 3, 1) := by decide +kernel
theorem dX11_shown_12 : decode cX11_shown 12 = .ok (.invokevirtual 245, 3) := by decide +kernel
theorem dX11_shown_15 : decode cX11_shown 15 = .ok (.aload_n 0, 1) := by decide +kernel
theorem dX11_shown_16 : decode cX11_shown 16 = .ok (.getfield 57, 3) := by decide +kernel
theorem dX11_shown_19 : decode cX11_shown 19 = .ok (.aload_n 0, 1) := by decide +kernel
theorem dX11_shown_20 : decode cX11_shown 20 = .ok (.getfield 87, 3) := by decide +kernel
theorem dX11_shown_23 : decode cX11_shown 23 = .ok (.iload_n 1, 1) := by decide +kernel
theorem dX11_shown_24 : decode cX11_shown 24 = .ok (.iload_n 2, 1) := by decide +kernel
theorem dX11_shown_25 : decode cX11_shown 25 = .ok (.iload_n 3, 1) := by decide +kernel
theorem dX11_shown_26 : decode cX11_shown 26 = .ok (.aload_n 0, 1) := by decide +kernel
theorem dX11_shown_27 : decode cX11_shown 27 = .ok (.getfield 87, 3) := by decide +kernel
theorem dX11_shown_30 : decode cX11_shown 30 = .ok (.getfield 210, 3) := by decide +kernel
theorem dX11_shown_33 : decode cX11_shown 33 = .ok (.iload_n 1, 1) := by decide +kernel
theorem dX11_shown_34 : decode cX11_shown 34 = .ok (.iaload, 1) := by decide +kernel
theorem dX11_shown_35 : decode cX11_shown 35 = .ok (.invokevirtual 248, 3) := by decide +kernel
theorem dX11_shown_38 : decode cX11_shown 38 = .ok (.ireturn, 1) := by decide +kernel
theorem dX11_would_0 : decode cX11_would 0 = .ok (.aload_n 0, 1) := by decide +kernel
theorem dX11_would_1 : decode cX11_would 1 = .ok (.iload_n 1, 1) := by decide +kernel
theorem dX11_would_2 : decode cX11_would 2 = .ok (.bipush 63, 2) := by decide +kernel
theorem dX11_would_4 : decode cX11_would 4 = .ok (.invokevirtual 179, 3) := by decide +kernel
theorem dX11_would_7 : decode cX11_would 7 = .ok (.aload_n 0, 1) := by decide +kernel
theorem dX11_would_8 : decode cX11_would 8 = .ok (.iload_n 2, 1) := by decide +kernel
theorem dX11_would_9 : decode cX11_would 9 = .ok (.bipush 9, 2) := by decide +kernel
theorem dX11_would_11 : decode cX11_would 11 = .ok (.invokevirtual 179, 3) := by decide +kernel
theorem dX11_would_14 : decode cX11_would 14 = .ok (.aload_n 0, 1) := by decide +kernel
theorem dX11_would_15 : decode cX11_would 15 = .ok (.iload_n 3, 1) := by decide +kernel
theorem dX11_would_16 : decode cX11_would 16 = .ok (.bipush 9, 2) := by decide +kernel
theorem dX11_would_18 : decode cX11_would 18 = .ok (.invokevirtual 179, 3) := by decide +kernel
theorem dX11_would_21 : decode cX11_would 21 = .ok (.aload_n 0, 1) := by decide +kernel
theorem dX11_would_22 : decode cX11_would 22 = .ok (.iload 4, 2) := by decide +kernel
theorem dX11_would_24 : decode cX11_would 24 = .ok (.bipush 63, 2) := by decide +kernel
theorem dX11_would_26 : decode cX11_would 26 = .ok (.invokevirtual 179, 3) := by decide +kernel
theorem dX11_would_29 : decode cX11_would 29 = .ok (.aload_n 0, 1) := by decide +kernel
theorem dX11_would_30 : decode cX11_would 30 = .ok (.iload 5, 2) := by decide +kernel
theorem dX11_would_32 : decode cX11_would 32 = .ok (.iconst 1, 1) := by decide +kernel
theorem dX11_would_33 : decode cX11_would 33 = .ok (.invokevirtual 179, 3) := by decide +kernel
theorem dX11_would_36 : decode cX11_would 36 = .ok (.aload_n 0, 1) := by decide +kernel
theorem dX11_would_37 : decode cX11_would 37 = .ok (.iload 6, 2) := by decide +kernel
theorem dX11_would_39 : decode cX11_would 39 = .ok (.sipush 200, 3) := by decide +kernel
theorem dX11_would_42 : decode cX11_would 42 = .ok (.invokevirtual 179, 3) := by decide +kernel
theorem dX11_would_45 : decode cX11_would 45 = .ok (.aload_n 0, 1) := by decide +kernel
theorem dX11_would_46 : decode cX11_would 46 = .ok (.iload 7, 2) := by decide +kernel
theorem dX11_would_48 : decode cX11_would 48 = .ok (.sipush 999, 3) := by decide +kernel
theorem dX11_would_51 : decode cX11_would 51 = .ok (.invokevirtual 179, 3) := by decide +kernel
theorem dX11_would_54 : decode cX11_would 54 = .ok (.aload_n 0, 1) := by decide +kernel
theorem dX11_would_55 : decode cX11_would 55 = .ok (.iload 8, 2) := by decide +kernel
theorem dX11_would_57 : decode cX11_would 57 = .ok (.iconst 5, 1) := by decide +kernel
theorem dX11_would_58 : decode cX11_would 58 = .ok (.invokevirtual 179, 3) := by decide +kernel
theorem dX11_would_61 : decode cX11_would 61 = .ok (.aload_n 0, 1) := by decide +kernel
theorem dX11_would_62 : decode cX11_would 62 = .ok (.getfield 57, 3) := by decide +kernel
theorem dX11_would_65 : decode cX11_would 65 = .ok (.getfield 252, 3) := by decide +kernel
theorem dX11_would_68 : decode cX11_would 68 = .ok (.astore 9, 2) := by decide +kernel
theorem dX11_would_70 : decode cX11_would 70 = .ok (.aload 9, 2) := by decide +kernel
theorem dX11_would_72 : decode cX11_would 72 = .ok (.iconst 0, 1) := by decide +kernel
theorem dX11_would_73 : decode cX11_would 73 = .ok (.iload_n 1, 1) := by decide +kernel
theorem dX11_would_74 : decode cX11_would 74 = .ok (.iastore, 1) := by decide +kernel
theorem dX11_would_75 : decode cX11_would 75 = .ok (.aload 9, 2) := by decide +kernel
theorem dX11_would_77 : decode cX11_would 77 = .ok (.iconst 1, 1) := by decide +kernel
theorem dX11_would_78 : decode cX11_would 78 = .ok (.iload_n 2, 1) := by decide +kernel
theorem dX11_would_79 : decode cX11_would 79 = .ok (.iastore, 1) := by decide +kernel
theorem dX11_would_80 : decode cX11_would 80 = .ok (.aload 9, 2) := by decide +kernel
theorem dX11_would_82 : decode cX11_would 82 = .ok (.iconst 2, 1) := by decide +kernel
theorem dX11_would_83 : decode cX11_would 83 = .ok (.iload_n 3, 1) := by decide +kernel
theorem dX11_would_84 : decode cX11_would 84 = .ok (.iastore, 1) := by decide +kernel
theorem dX11_would_85 : decode cX11_would 85 = .ok (.aload 9, 2) := by decide +kernel
theorem dX11_would_87 : decode cX11_would 87 = .ok (.iconst 3, 1) := by decide +kernel
theorem dX11_would_88 : decode cX11_would 88 = .ok (.iload 4, 2) := by decide +kernel
theorem dX11_would_90 : decode cX11_would 90 = .ok (.iastore, 1) := by decide +kernel
theorem dX11_would_91 : decode cX11_would 91 = .ok (.aload 9, 2) := by decide +kernel
theorem dX11_would_93 : decode cX11_would 93 = .ok (.iconst 4, 1) := by decide +kernel
theorem dX11_would_94 : decode cX11_would 94 = .ok (.iload 5, 2) := by decide +kernel
theorem dX11_would_96 : decode cX11_would 96 = .ok (.iastore, 1) := by decide +kernel
theorem dX11_would_97 : decode cX11_would 97 = .ok (.aload 9, 2) := by decide +kernel
theorem dX11_would_99 : decode cX11_would 99 = .ok (.iconst 5, 1) := by decide +kernel
theorem dX11_would_100 : decode cX11_would 100 = .ok (.iload 6, 2) := by decide +kernel
theorem dX11_would_102 : decode cX11_would 102 = .ok (.iastore, 1) := by decide +kernel
theorem dX11_would_103 : decode cX11_would 103 = .ok (.aload 9, 2) := by decide +kernel
theorem dX11_would_105 : decode cX11_would 105 = .ok (.bipush 6, 2) := by decide +kernel
theorem dX11_would_107 : decode cX11_would 107 = .ok (.iload 7, 2) := by decide +kernel
theorem dX11_would_109 : decode cX11_would 109 = .ok (.iastore, 1) := by decide +kernel
theorem dX11_would_110 : decode cX11_would 110 = .ok (.aload 9, 2) := by decide +kernel
theorem dX11_would_112 : decode cX11_would 112 = .ok (.bipush 7, 2) := by decide +kernel
theorem dX11_would_114 : decode cX11_would 114 = .ok (.iload 8, 2) := by decide +kernel
theorem dX11_would_116 : decode cX11_would 116 = .ok (.iastore, 1) := by decide +kernel
theorem dX11_would_117 : decode cX11_would 117 = .ok (.aload_n 0, 1) := by decide +kernel
theorem dX11_would_118 : decode cX11_would 118 = .ok (.getfield 29, 3) := by decide +kernel
theorem dX11_would_121 : decode cX11_would 121 = .ok (.aload 9, 2) := by decide +kernel
theorem dX11_would_123 : decode cX11_would 123 = .ok (.invokevirtual 255, 3) := by decide +kernel
theorem dX11_would_126 : decode cX11_would 126 = .ok (.ireturn, 1) := by decide +kernel
theorem dX11_unlike_0 : decode cX11_unlike 0 = .ok (.aload_n 0, 1) := by decide +kernel
theorem dX11_unlike_1 : decode cX11_unlike 1 = .ok (.iload_n 1, 1) := by decide +kernel
theorem dX11_unlike_2 : decode cX11_unlike 2 = .ok (.bipush 63, 2) := by decide +kernel
theorem dX11_unlike_4 : decode cX11_unlike 4 = .ok (.invokevirtual 179, 3) := by decide +kernel
theorem dX11_unlike_7 : decode cX11_unlike 7 = .ok (.aload_n 0, 1) := by decide +kernel
theorem dX11_unlike_8 : decode cX11_unlike 8 = .ok (.iload_n 2, 1) := by decide +kernel
theorem dX11_unlike_9 : decode cX11_unlike 9 = .ok (.bipush 63, 2) := by decide +kernel
theorem dX11_unlike_11 : decode cX11_unlike 11 = .ok (.invokevirtual 179, 3) := by decide +kernel
theorem dX11_unlike_14 : decode cX11_unlike 14 = .ok (.iload_n 1, 1) := by decide +kernel
theorem dX11_unlike_15 : decode cX11_unlike 15 = .ok (.iload_n 2, 1) := by decide +kernel
theorem dX11_unlike_16 : decode cX11_unlike 16 = .ok (.ixor, 1) := by decide +kernel
theorem dX11_unlike_17 : decode cX11_unlike 17 = .ok (.invokestatic 259, 3) := by decide +kernel
theorem dX11_unlike_20 : decode cX11_unlike 20 = .ok (.ireturn, 1) := by decide +kernel
theorem dX11_had_0 : decode cX11_had 0 = .ok (.aload_n 0, 1) := by decide +kernel
theorem dX11_had_1 : decode cX11_had 1 = .ok (.getfield 57, 3) := by decide +kernel
theorem dX11_had_4 : decode cX11_had 4 = .ok (.aload_n 0, 1) := by decide +kernel
theorem dX11_had_5 : decode cX11_had 5 = .ok (.getfield 87, 3) := by decide +kernel
theorem dX11_had_8 : decode cX11_had 8 = .ok (.iconst (-1), 1) := by decide +kernel
theorem dX11_had_9 : decode cX11_had 9 = .ok (.invokevirtual 264, 3) := by decide +kernel
theorem dX11_had_12 : decode cX11_had 12 = .ok (.ireturn, 1) := by decide +kernel
theorem dX11_mistaken_0 : decode cX11_mistaken 0 = .ok (.iconst 0, 1) := by decide +kernel
theorem dX11_mistaken_1 : decode cX11_mistaken 1 = .ok (.istore_n 1, 1) := by decide +kernel
theorem dX11_mistaken_2 : decode cX11_mistaken 2 = .ok (.iload_n 1, 1) := by decide +kernel
theorem dX11_mistaken_3 : decode cX11_mistaken 3 = .ok (.aload_n 0, 1) := by decide +kernel
theorem dX11_mistaken_4 : decode cX11_mistaken 4 = .ok (.getfield 87, 3) := by decide +kernel
theorem dX11_mistaken_7 : decode cX11_mistaken 7 = .ok (.getfield 182, 3) := by decide +kernel
theorem dX11_mistaken_10 : decode cX11_mistaken 10 = .ok (.if_icmp .ge 37, 3) := by decide +kernel
theorem dX11_mistaken_13 : decode cX11_mistaken 13 = .ok (.aload_n 0, 1) := by decide +kernel
theorem dX11_mistaken_14 : decode cX11_mistaken 14 = .ok (.getfield 19, 3) := by decide +kernel
theorem dX11_mistaken_17 : decode cX11_mistaken 17 = .ok (.aload_n 0, 1) := by decide +kernel
theorem dX11_mistaken_18 : decode cX11_mistaken 18 = .ok (.getfield 87, 3) := by decide +kernel
theorem dX11_mistaken_21 : decode cX11_mistaken 21 = .ok (.iload_n 1, 1) := by decide +kernel
theorem dX11_mistaken_22 : decode cX11_mistaken 22 = .ok (.invokevirtual 236, 3) := by decide +kernel
theorem dX11_mistaken_25 : decode cX11_mistaken 25 = .ok (.invokevirtual 242, 3) := by decide +kernel
theorem dX11_mistaken_28 : decode cX11_mistaken 28 = .ok (.aload_n 0, 1) := by decide +kernel
theorem dX11_mistaken_29 : decode cX11_mistaken 29 = .ok (.getfield 87, 3) := by decide +kernel
theorem dX11_mistaken_32 : decode cX11_mistaken 32 = .ok (.iload_n 1, 1) := by decide +kernel
theorem dX11_mistaken_33 : decode cX11_mistaken 33 = .ok (.invokevirtual 230, 3) := by decide +kernel
theorem dX11_mistaken_36 : decode cX11_mistaken 36 = .ok (.if_icmp .eq 5, 3) := by decide +kernel
theorem dX11_mistaken_39 : decode cX11_mistaken 39 = .ok (.iload_n 1, 1) := by decide +kernel
theorem dX11_mistaken_40 : decode cX11_mistaken 40 = .ok (.ireturn, 1) := by decide +kernel
theorem dX11_mistaken_41 : decode cX11_mistaken 41 = .ok (.iinc 1 1, 3) := by decide +kernel
theorem dX11_mistaken_44 : decode cX11_mistaken 44 = .ok (.goto (-42), 3) := by decide +kernel
theorem dX11_mistaken_47 : decode cX11_mistaken 47 = .ok (.iconst (-1), 1) := by decide +kernel
theorem dX11_mistaken_48 : decode cX11_mistaken 48 = .ok (.ireturn, 1) := by decide +kernel
theorem dX11_can_0 : decode cX11_can 0 = .ok (.aload_n 0, 1) := by decide +kernel
theorem dX11_can_1 : decode cX11_can 1 = .ok (.iload_n 1, 1) := by decide +kernel
theorem dX11_can_2 : decode cX11_can 2 = .ok (.invokevirtual 197, 3) := by decide +kernel
theorem dX11_can_5 : decode cX11_can 5 = .ok (.aload_n 0, 1) := by decide +kernel
theorem dX11_can_6 : decode cX11_can 6 = .ok (.getfield 57, 3) := by decide +kernel
theorem dX11_can_9 : decode cX11_can 9 = .ok (.aload_n 0, 1) := by decide +kernel
theorem dX11_can_10 : decode cX11_can 10 = .ok (.getfield 87, 3) := by decide +kernel
theorem dX11_can_13 : decode cX11_can 13 = .ok (.iload_n 1, 1) := by decide +kernel
theorem dX11_can_14 : decode cX11_can 14 = .ok (.invokevirtual 268, 3) := by decide +kernel
theorem dX11_can_17 : decode cX11_can 17 = .ok (.ireturn, 1) := by decide +kernel
theorem dX11_fewest_0 : decode cX11_fewest 0 = .ok (.aload_n 0, 1) := by decide +kernel
theorem dX11_fewest_1 : decode cX11_fewest 1 = .ok (.iload_n 1, 1) := by decide +kernel
theorem dX11_fewest_2 : decode cX11_fewest 2 = .ok (.invokevirtual 271, 3) := by decide +kernel
theorem dX11_fewest_5 : decode cX11_fewest 5 = .ok (.aload_n 0, 1) := by decide +kernel
theorem dX11_fewest_6 : decode cX11_fewest 6 = .ok (.getfield 66, 3) := by decide +kernel
theorem dX11_fewest_9 : decode cX11_fewest 9 = .ok (.aload_n 0, 1) := by decide +kernel
theorem dX11_fewest_10 : decode cX11_fewest 10 = .ok (.getfield 87, 3) := by decide +kernel
theorem dX11_fewest_13 : decode cX11_fewest 13 = .ok (.invokevirtual 274, 3) := by decide +kernel
theorem dX11_fewest_16 : decode cX11_fewest 16 = .ok (.aload_n 0, 1) := by decide +kernel
theorem dX11_fewest_17 : decode cX11_fewest 17 = .ok (.getfield 66, 3) := by decide +kernel
theorem dX11_fewest_20 : decode cX11_fewest 20 = .ok (.iload_n 1, 1) := by decide +kernel
theorem dX11_fewest_21 : decode cX11_fewest 21 = .ok (.iconst 0, 1) := by decide +kernel
theorem dX11_fewest_22 : decode cX11_fewest 22 = .ok (.invokevirtual 277, 3) := by decide +kernel
theorem dX11_fewest_25 : decode cX11_fewest 25 = .ok (.ireturn, 1) := by decide +kernel
theorem dX11_nobody_0 : decode cX11_nobody 0 = .ok (.aload_n 0, 1) := by decide +kernel
theorem dX11_nobody_1 : decode cX11_nobody 1 = .ok (.iload_n 1, 1) := by decide +kernel
theorem dX11_nobody_2 : decode cX11_nobody 2 = .ok (.invokevirtual 271, 3) := by decide +kernel
theorem dX11_nobody_5 : decode cX11_nobody 5 = .ok (.iconst 0, 1) := by decide +kernel
theorem dX11_nobody_6 : decode cX11_nobody 6 = .ok (.istore_n 2, 1) := by decide +kernel
theorem dX11_nobody_7 : decode cX11_nobody 7 = .ok (.iload_n 2, 1) := by decide +kernel
theorem dX11_nobody_8 : decode cX11_nobody 8 = .ok (.aload_n 0, 1) := by decide +kernel
theorem dX11_nobody_9 : decode cX11_nobody 9 = .ok (.getfield 19, 3) := by decide +kernel
theorem dX11_nobody_12 : decode cX11_nobody 12 = .ok (.getfield 137, 3) := by decide +kernel
theorem dX11_nobody_15 : decode cX11_nobody 15 = .ok (.if_icmp .ge 35, 3) := by decide +kernel
theorem dX11_nobody_18 : decode cX11_nobody 18 = .ok (.iload_n 1, 1) := by decide +kernel
theorem dX11_nobody_19 : decode cX11_nobody 19 = .ok (.iload_n 2, 1) := by decide +kernel
theorem dX11_nobody_20 : decode cX11_nobody 20 = .ok (.ishr, 1) := by decide +kernel
theorem dX11_nobody_21 : decode cX11_nobody 21 = .ok (.iconst 1, 1) := by decide +kernel
theorem dX11_nobody_22 : decode cX11_nobody 22 = .ok (.iand, 1) := by decide +kernel
theorem dX11_nobody_23 : decode cX11_nobody 23 = .ok (.iconst 1, 1) := by decide +kernel
theorem dX11_nobody_24 : decode cX11_nobody 24 = .ok (.if_icmp .ne 20, 3) := by decide +kernel
theorem dX11_nobody_27 : decode cX11_nobody 27 = .ok (.aload_n 0, 1) := by decide +kernel
theorem dX11_nobody_28 : decode cX11_nobody 28 = .ok (.getfield 57, 3) := by decide +kernel
theorem dX11_nobody_31 : decode cX11_nobody 31 = .ok (.aload_n 0, 1) := by decide +kernel
theorem dX11_nobody_32 : decode cX11_nobody 32 = .ok (.getfield 87, 3) := by decide +kernel
theorem dX11_nobody_35 : decode cX11_nobody 35 = .ok (.iload_n 2, 1) := by decide +kernel
theorem dX11_nobody_36 : decode cX11_nobody 36 = .ok (.invokevirtual 268, 3) := by decide +kernel
theorem dX11_nobody_39 : decode cX11_nobody 39 = .ok (.ifCond .ne 5, 3) := by decide +kernel
theorem dX11_nobody_42 : decode cX11_nobody 42 = .ok (.iload_n 2, 1) := by decide +kernel
theorem dX11_nobody_43 : decode cX11_nobody 43 = .ok (.ireturn, 1) := by decide +kernel
theorem dX11_nobody_44 : decode cX11_nobody 44 = .ok (.iinc 2 1, 3) := by decide +kernel
theorem dX11_nobody_47 : decode cX11_nobody 47 = .ok (.goto (-40), 3) := by decide +kernel
theorem dX11_nobody_50 : decode cX11_nobody 50 = .ok (.iconst (-1), 1) := by decide +kernel
theorem dX11_nobody_51 : decode cX11_nobody 51 = .ok (.ireturn, 1) := by decide +kernel
theorem dX11_ring_0 : decode cX11_ring 0 = .ok (.aload_n 0, 1) := by decide +kernel
theorem dX11_ring_1 : decode cX11_ring 1 = .ok (.iload_n 1, 1) := by decide +kernel
theorem dX11_ring_2 : decode cX11_ring 2 = .ok (.iconst 2, 1) := by decide +kernel
theorem dX11_ring_3 : decode cX11_ring 3 = .ok (.if_icmp .lt 12, 3) := by decide +kernel
theorem dX11_ring_6 : decode cX11_ring 6 = .ok (.iload_n 1, 1) := by decide +kernel
theorem dX11_ring_7 : decode cX11_ring 7 = .ok (.iconst 5, 1) := by decide +kernel
theorem dX11_ring_8 : decode cX11_ring 8 = .ok (.if_icmp .gt 7, 3) := by decide +kernel
theorem dX11_ring_11 : decode cX11_ring 11 = .ok (.iconst 1, 1) := by decide +kernel
theorem dX11_ring_12 : decode cX11_ring 12 = .ok (.goto 4, 3) := by decide +kernel
theorem dX11_ring_15 : decode cX11_ring 15 = .ok (.iconst 0, 1) := by decide +kernel
theorem dX11_ring_16 : decode cX11_ring 16 = .ok (.invokevirtual 281, 3) := by decide +kernel
theorem dX11_ring_19 : decode cX11_ring 19 = .ok (.aload_n 0, 1) := by decide +kernel
theorem dX11_ring_20 : decode cX11_ring 20 = .ok (.iload_n 2, 1) := by decide +kernel
theorem dX11_ring_21 : decode cX11_ring 21 = .ok (.iconst 1, 1) := by decide +kernel
theorem dX11_ring_22 : decode cX11_ring 22 = .ok (.invokevirtual 179, 3) := by decide +kernel
theorem dX11_ring_25 : decode cX11_ring 25 = .ok (.aload_n 0, 1) := by decide +kernel
theorem dX11_ring_26 : decode cX11_ring 26 = .ok (.getfield 66, 3) := by decide +kernel
theorem dX11_ring_29 : decode cX11_ring 29 = .ok (.aload_n 0, 1) := by decide +kernel
theorem dX11_ring_30 : decode cX11_ring 30 = .ok (.getfield 87, 3) := by decide +kernel
theorem dX11_ring_33 : decode cX11_ring 33 = .ok (.invokevirtual 274, 3) := by decide +kernel
theorem dX11_ring_36 : decode cX11_ring 36 = .ok (.aload_n 0, 1) := by decide +kernel
theorem dX11_ring_37 : decode cX11_ring 37 = .ok (.getfield 66, 3) := by decide +kernel
theorem dX11_ring_40 : decode cX11_ring 40 = .ok (.iload_n 1, 1) := by decide +kernel
theorem dX11_ring_41 : decode cX11_ring 41 = .ok (.invokevirtual 284, 3) := by decide +kernel
theorem dX11_ring_44 : decode cX11_ring 44 = .ok (.iload_n 2, 1) := by decide +kernel
theorem dX11_ring_45 : decode cX11_ring 45 = .ok (.ifCond .ne 13, 3) := by decide +kernel
theorem dX11_ring_48 : decode cX11_ring 48 = .ok (.aload_n 0, 1) := by decide +kernel
theorem dX11_ring_49 : decode cX11_ring 49 = .ok (.getfield 66, 3) := by decide +kernel
theorem dX11_ring_52 : decode cX11_ring 52 = .ok (.getfield 287, 3) := by decide +kernel
theorem dX11_ring_55 : decode cX11_ring 55 = .ok (.goto 10, 3) := by decide +kernel
theorem dX11_ring_58 : decode cX11_ring 58 = .ok (.aload_n 0, 1) := by decide +kernel
theorem dX11_ring_59 : decode cX11_ring 59 = .ok (.getfield 66, 3) := by decide +kernel
theorem dX11_ring_62 : decode cX11_ring 62 = .ok (.getfield 290, 3) := by decide +kernel
theorem dX11_ring_65 : decode cX11_ring 65 = .ok (.ireturn, 1) := by decide +kernel
theorem dX11_who_0 : decode cX11_who 0 = .ok (.aload_n 0, 1) := by decide +kernel
theorem dX11_who_1 : decode cX11_who 1 = .ok (.iload_n 2, 1) := by decide +kernel
theorem dX11_who_2 : decode cX11_who 2 = .ok (.invokevirtual 197, 3) := by decide +kernel
theorem dX11_who_5 : decode cX11_who 5 = .ok (.aload_n 0, 1) := by decide +kernel
theorem dX11_who_6 : decode cX11_who 6 = .ok (.iload_n 1, 1) := by decide +kernel
theorem dX11_who_7 : decode cX11_who 7 = .ok (.bipush 63, 2) := by decide +kernel
theorem dX11_who_9 : decode cX11_who 9 = .ok (.invokevirtual 179, 3) := by decide +kernel
theorem dX11_who_12 : decode cX11_who 12 = .ok (.iconst 0, 1) := by decide +kernel
theorem dX11_who_13 : decode cX11_who 13 = .ok (.istore_n 3, 1) := by decide +kernel
theorem dX11_who_14 : decode cX11_who 14 = .ok (.iconst 0, 1) := by decide +kernel
theorem dX11_who_15 : decode cX11_who 15 = .ok (.istore 4, 2) := by decide +kernel
theorem dX11_who_17 : decode cX11_who 17 = .ok (.iload 4, 2) := by decide +kernel
theorem dX11_who_19 : decode cX11_who 19 = .ok (.aload_n 0, 1) := by decide +kernel
theorem dX11_who_20 : decode cX11_who 20 = .ok (.getfield 19, 3) := by decide +kernel
theorem dX11_who_23 : decode cX11_who 23 = .ok (.getfield 137, 3) := by decide +kernel
theorem dX11_who_26 : decode cX11_who 26 = .ok (.if_icmp .ge 58, 3) := by decide +kernel
theorem dX11_who_29 : decode cX11_who 29 = .ok (.aload_n 0, 1) := by decide +kernel
theorem dX11_who_30 : decode cX11_who 30 = .ok (.getfield 19, 3) := by decide +kernel
theorem dX11_who_33 : decode cX11_who 33 = .ok (.iload 4, 2) := by decide +kernel
theorem dX11_who_35 : decode cX11_who 35 = .ok (.iload_n 2, 1) := by decide +kernel
theorem dX11_who_36 : decode cX11_who 36 = .ok (.invokevirtual 293, 3) := by decide +kernel
theorem dX11_who_39 : decode cX11_who 39 = .ok (.ifCond .ne 39, 3) := by decide +kernel
theorem dX11_who_42 : decode cX11_who 42 = .ok (.aload_n 0, 1) := by decide +kernel
theorem dX11_who_43 : decode cX11_who 43 = .ok (.getfield 57, 3) := by decide +kernel
theorem dX11_who_46 : decode cX11_who 46 = .ok (.aload_n 0, 1) := by decide +kernel
theorem dX11_who_47 : decode cX11_who 47 = .ok (.getfield 87, 3) := by decide +kernel
theorem dX11_who_50 : decode cX11_who 50 = .ok (.iload 4, 2) := by decide +kernel
theorem dX11_who_52 : decode cX11_who 52 = .ok (.iload_n 2, 1) := by decide +kernel
theorem dX11_who_53 : decode cX11_who 53 = .ok (.iconst 0, 1) := by decide +kernel
theorem dX11_who_54 : decode cX11_who 54 = .ok (.aload_n 0, 1) := by decide +kernel
theorem dX11_who_55 : decode cX11_who 55 = .ok (.getfield 87, 3) := by decide +kernel
theorem dX11_who_58 : decode cX11_who 58 = .ok (.getfield 210, 3) := by decide +kernel
theorem dX11_who_61 : decode cX11_who 61 = .ok (.iload 4, 2) := by decide +kernel
theorem dX11_who_63 : decode cX11_who 63 = .ok (.iaload, 1) := by decide +kernel
theorem dX11_who_64 : decode cX11_who 64 = .ok (.invokevirtual 248, 3) := by decide +kernel
theorem dX11_who_67 : decode cX11_who 67 = .ok (.iload_n 1, 1) := by decide +kernel
theorem dX11_who_68 : decode cX11_who 68 = .ok (.if_icmp .ne 10, 3) := by decide +kernel
theorem dX11_who_71 : decode cX11_who 71 = .ok (.iload_n 3, 1) := by decide +kernel
theorem dX11_who_72 : decode cX11_who 72 = .ok (.iconst 1, 1) := by decide +kernel
theorem dX11_who_73 : decode cX11_who 73 = .ok (.iload 4, 2) := by decide +kernel
theorem dX11_who_75 : decode cX11_who 75 = .ok (.ishl, 1) := by decide +kernel
theorem dX11_who_76 : decode cX11_who 76 = .ok (.ior, 1) := by decide +kernel
theorem dX11_who_77 : decode cX11_who 77 = .ok (.istore_n 3, 1) := by decide +kernel
theorem dX11_who_78 : decode cX11_who 78 = .ok (.iinc 4 1, 3) := by decide +kernel
theorem dX11_who_81 : decode cX11_who 81 = .ok (.goto (-64), 3) := by decide +kernel
theorem dX11_who_84 : decode cX11_who 84 = .ok (.iload_n 3, 1) := by decide +kernel
theorem dX11_who_85 : decode cX11_who 85 = .ok (.ireturn, 1) := by decide +kernel
theorem dX11_made_0 : decode cX11_made 0 = .ok (.aload_n 0, 1) := by decide +kernel
theorem dX11_made_1 : decode cX11_made 1 = .ok (.iload_n 1, 1) := by decide +kernel
theorem dX11_made_2 : decode cX11_made 2 = .ok (.bipush 63, 2) := by decide +kernel
theorem dX11_made_4 : decode cX11_made 4 = .ok (.invokevirtual 179, 3) := by decide +kernel
theorem dX11_made_7 : decode cX11_made 7 = .ok (.iconst (-1), 1) := by decide +kernel
theorem dX11_made_8 : decode cX11_made 8 = .ok (.istore_n 2, 1) := by decide +kernel
theorem dX11_made_9 : decode cX11_made 9 = .ok (.bipush 9, 2) := by decide +kernel
theorem dX11_made_11 : decode cX11_made 11 = .ok (.istore_n 3, 1) := by decide +kernel
theorem dX11_made_12 : decode cX11_made 12 = .ok (.iconst 0, 1) := by decide +kernel
theorem dX11_made_13 : decode cX11_made 13 = .ok (.istore 4, 2) := by decide +kernel
theorem dX11_made_15 : decode cX11_made 15 = .ok (.iload 4, 2) := by decide +kernel
theorem dX11_made_17 : decode cX11_made 17 = .ok (.aload_n 0, 1) := by decide +kernel
theorem dX11_made_18 : decode cX11_made 18 = .ok (.getfield 19, 3) := by decide +kernel
theorem dX11_made_21 : decode cX11_made 21 = .ok (.invokevirtual 297, 3) := by decide +kernel
theorem dX11_made_24 : decode cX11_made 24 = .ok (.if_icmp .gt 40, 3) := by decide +kernel
theorem dX11_made_27 : decode cX11_made 27 = .ok (.iload 4, 2) := by decide +kernel
theorem dX11_made_29 : decode cX11_made 29 = .ok (.invokestatic 259, 3) := by decide +kernel
theorem dX11_made_32 : decode cX11_made 32 = .ok (.iload_n 3, 1) := by decide +kernel
theorem dX11_made_33 : decode cX11_made 33 = .ok (.if_icmp .ge 25, 3) := by decide +kernel
theorem dX11_made_36 : decode cX11_made 36 = .ok (.aload_n 0, 1) := by decide +kernel
theorem dX11_made_37 : decode cX11_made 37 = .ok (.getfield 19, 3) := by decide +kernel
theorem dX11_made_40 : decode cX11_made 40 = .ok (.iload 4, 2) := by decide +kernel
theorem dX11_made_42 : decode cX11_made 42 = .ok (.invokevirtual 300, 3) := by decide +kernel
theorem dX11_made_45 : decode cX11_made 45 = .ok (.iload_n 1, 1) := by decide +kernel
theorem dX11_made_46 : decode cX11_made 46 = .ok (.if_icmp .ne 12, 3) := by decide +kernel
theorem dX11_made_49 : decode cX11_made 49 = .ok (.iload 4, 2) := by decide +kernel
theorem dX11_made_51 : decode cX11_made 51 = .ok (.istore_n 2, 1) := by decide +kernel
theorem dX11_made_52 : decode cX11_made 52 = .ok (.iload 4, 2) := by decide +kernel
theorem dX11_made_54 : decode cX11_made 54 = .ok (.invokestatic 259, 3) := by decide +kernel
theorem dX11_made_57 : decode cX11_made 57 = .ok (.istore_n 3, 1) := by decide +kernel
theorem dX11_made_58 : decode cX11_made 58 = .ok (.iinc 4 1, 3) := by decide +kernel
theorem dX11_made_61 : decode cX11_made 61 = .ok (.goto (-46), 3) := by decide +kernel
theorem dX11_made_64 : decode cX11_made 64 = .ok (.iload_n 2, 1) := by decide +kernel
theorem dX11_made_65 : decode cX11_made 65 = .ok (.ireturn, 1) := by decide +kernel
theorem dX11_unknown_0 : decode cX11_unknown 0 = .ok (.aload_n 0, 1) := by decide +kernel
theorem dX11_unknown_1 : decode cX11_unknown 1 = .ok (.iload_n 1, 1) := by decide +kernel
theorem dX11_unknown_2 : decode cX11_unknown 2 = .ok (.iconst 3, 1) := by decide +kernel
theorem dX11_unknown_3 : decode cX11_unknown 3 = .ok (.invokevirtual 179, 3) := by decide +kernel
theorem dX11_unknown_6 : decode cX11_unknown 6 = .ok (.iload_n 1, 1) := by decide +kernel
theorem dX11_unknown_7 : decode cX11_unknown 7 = .ok (.tableswitch 53 0 2 #[25, 36, 44], 25) := by decide +kernel
theorem dX11_unknown_32 : decode cX11_unknown 32 = .ok (.aload_n 0, 1) := by decide +kernel
theorem dX11_unknown_33 : decode cX11_unknown 33 = .ok (.getfield 48, 3) := by decide +kernel
theorem dX11_unknown_36 : decode cX11_unknown 36 = .ok (.getfield 303, 3) := by decide +kernel
theorem dX11_unknown_39 : decode cX11_unknown 39 = .ok (.invokestatic 307, 3) := by decide +kernel
theorem dX11_unknown_42 : decode cX11_unknown 42 = .ok (.ireturn, 1) := by decide +kernel
theorem dX11_unknown_43 : decode cX11_unknown 43 = .ok (.aload_n 0, 1) := by decide +kernel
theorem dX11_unknown_44 : decode cX11_unknown 44 = .ok (.getfield 48, 3) := by decide +kernel
theorem dX11_unknown_47 : decode cX11_unknown 47 = .ok (.invokevirtual 312, 3) := by decide +kernel
theorem dX11_unknown_50 : decode cX11_unknown 50 = .ok (.ireturn, 1) := by decide +kernel
theorem dX11_unknown_51 : decode cX11_unknown 51 = .ok (.aload_n 0, 1) := by decide +kernel
theorem dX11_unknown_52 : decode cX11_unknown 52 = .ok (.getfield 48, 3) := by decide +kernel
theorem dX11_unknown_55 : decode cX11_unknown 55 = .ok (.iconst 0, 1) := by decide +kernel
theorem dX11_unknown_56 : decode cX11_unknown 56 = .ok (.invokevirtual 315, 3) := by decide +kernel
theorem dX11_unknown_59 : decode cX11_unknown 59 = .ok (.ireturn, 1) := by decide +kernel
theorem dX11_unknown_60 : decode cX11_unknown 60 = .ok (.aload_n 0, 1) := by decide +kernel
theorem dX11_unknown_61 : decode cX11_unknown 61 = .ok (.getfield 48, 3) := by decide +kernel
theorem dX11_unknown_64 : decode cX11_unknown 64 = .ok (.iconst 1, 1) := by decide +kernel
theorem dX11_unknown_65 : decode cX11_unknown 65 = .ok (.invokevirtual 315, 3) := by decide +kernel
theorem dX11_unknown_68 : decode cX11_unknown 68 = .ok (.ireturn, 1) := by decide +kernel
theorem dX11_hold_0 : decode cX11_hold 0 = .ok (.aload_n 0, 1) := by decide +kernel
theorem dX11_hold_1 : decode cX11_hold 1 = .ok (.iload_n 1, 1) := by decide +kernel
theorem dX11_hold_2 : decode cX11_hold 2 = .ok (.iconst 1, 1) := by decide +kernel
theorem dX11_hold_3 : decode cX11_hold 3 = .ok (.invokevirtual 179, 3) := by decide +kernel
theorem dX11_hold_6 : decode cX11_hold 6 = .ok (.iconst (-1), 1) := by decide +kernel
theorem dX11_hold_7 : decode cX11_hold 7 = .ok (.istore_n 2, 1) := by decide +kernel
theorem dX11_hold_8 : decode cX11_hold 8 = .ok (.iconst (-1), 1) := by decide +kernel
theorem dX11_hold_9 : decode cX11_hold 9 = .ok (.istore_n 3, 1) := by decide +kernel
theorem dX11_hold_10 : decode cX11_hold 10 = .ok (.iconst 0, 1) := by decide +kernel
theorem dX11_hold_11 : decode cX11_hold 11 = .ok (.istore 4, 2) := by decide +kernel
theorem dX11_hold_13 : decode cX11_hold 13 = .ok (.iload 4, 2) := by decide +kernel
theorem dX11_hold_15 : decode cX11_hold 15 = .ok (.aload_n 0, 1) := by decide +kernel
theorem dX11_hold_16 : decode cX11_hold 16 = .ok (.getfield 19, 3) := by decide +kernel
theorem dX11_hold_19 : decode cX11_hold 19 = .ok (.getfield 137, 3) := by decide +kernel
theorem dX11_hold_22 : decode cX11_hold 22 = .ok (.if_icmp .ge 51, 3) := by decide +kernel
theorem dX11_hold_25 : decode cX11_hold 25 = .ok (.aload_n 0, 1) := by decide +kernel
theorem dX11_hold_26 : decode cX11_hold 26 = .ok (.getfield 48, 3) := by decide +kernel
theorem dX11_hold_29 : decode cX11_hold 29 = .ok (.getfield 319, 3) := by decide +kernel
theorem dX11_hold_32 : decode cX11_hold 32 = .ok (.iload 4, 2) := by decide +kernel
theorem dX11_hold_34 : decode cX11_hold 34 = .ok (.iaload, 1) := by decide +kernel
theorem dX11_hold_35 : decode cX11_hold 35 = .ok (.iconst (-1), 1) := by decide +kernel
theorem dX11_hold_36 : decode cX11_hold 36 = .ok (.if_icmp .ne 31, 3) := by decide +kernel
theorem dX11_hold_39 : decode cX11_hold 39 = .ok (.aload_n 0, 1) := by decide +kernel
theorem dX11_hold_40 : decode cX11_hold 40 = .ok (.getfield 48, 3) := by decide +kernel
theorem dX11_hold_43 : decode cX11_hold 43 = .ok (.iload 4, 2) := by decide +kernel
theorem dX11_hold_45 : decode cX11_hold 45 = .ok (.invokevirtual 322, 3) := by decide +kernel
theorem dX11_hold_48 : decode cX11_hold 48 = .ok (.istore 5, 2) := by decide +kernel
theorem dX11_hold_50 : decode cX11_hold 50 = .ok (.iload_n 2, 1) := by decide +kernel
theorem dX11_hold_51 : decode cX11_hold 51 = .ok (.iconst (-1), 1) := by decide +kernel
theorem dX11_hold_52 : decode cX11_hold 52 = .ok (.if_icmp .eq 9, 3) := by decide +kernel
theorem dX11_hold_55 : decode cX11_hold 55 = .ok (.iload 5, 2) := by decide +kernel
theorem dX11_hold_57 : decode cX11_hold 57 = .ok (.iload_n 3, 1) := by decide +kernel
theorem dX11_hold_58 : decode cX11_hold 58 = .ok (.if_icmp .ge 9, 3) := by decide +kernel
theorem dX11_hold_61 : decode cX11_hold 61 = .ok (.iload 4, 2) := by decide +kernel
theorem dX11_hold_63 : decode cX11_hold 63 = .ok (.istore_n 2, 1) := by decide +kernel
theorem dX11_hold_64 : decode cX11_hold 64 = .ok (.iload 5, 2) := by decide +kernel
theorem dX11_hold_66 : decode cX11_hold 66 = .ok (.istore_n 3, 1) := by decide +kernel
theorem dX11_hold_67 : decode cX11_hold 67 = .ok (.iinc 4 1, 3) := by decide +kernel
theorem dX11_hold_70 : decode cX11_hold 70 = .ok (.goto (-57), 3) := by decide +kernel
theorem dX11_hold_73 : decode cX11_hold 73 = .ok (.iload_n 1, 1) := by decide +kernel
theorem dX11_hold_74 : decode cX11_hold 74 = .ok (.ifCond .ne 7, 3) := by decide +kernel
theorem dX11_hold_77 : decode cX11_hold 77 = .ok (.iload_n 2, 1) := by decide +kernel
theorem dX11_hold_78 : decode cX11_hold 78 = .ok (.goto 4, 3) := by decide +kernel
theorem dX11_hold_81 : decode cX11_hold 81 = .ok (.iload_n 3, 1) := by decide +kernel
theorem dX11_hold_82 : decode cX11_hold 82 = .ok (.ireturn, 1) := by decide +kernel
theorem dX11_papers_0 : decode cX11_papers 0 = .ok (.aload_n 0, 1) := by decide +kernel
theorem dX11_papers_1 : decode cX11_papers 1 = .ok (.getfield 73, 3) := by decide +kernel
theorem dX11_papers_4 : decode cX11_papers 4 = .ok (.aload_n 0, 1) := by decide +kernel
theorem dX11_papers_5 : decode cX11_papers 5 = .ok (.getfield 87, 3) := by decide +kernel
theorem dX11_papers_8 : decode cX11_papers 8 = .ok (.invokevirtual 325, 3) := by decide +kernel
theorem dX11_papers_11 : decode cX11_papers 11 = .ok (.aload_n 0, 1) := by decide +kernel
theorem dX11_papers_12 : decode cX11_papers 12 = .ok (.getfield 73, 3) := by decide +kernel
theorem dX11_papers_15 : decode cX11_papers 15 = .ok (.getfield 328, 3) := by decide +kernel
theorem dX11_papers_18 : decode cX11_papers 18 = .ok (.ireturn, 1) := by decide +kernel
theorem dX11_paper_0 : decode cX11_paper 0 = .ok (.aload_n 0, 1) := by decide +kernel
theorem dX11_paper_1 : decode cX11_paper 1 = .ok (.iload_n 1, 1) := by decide +kernel
theorem dX11_paper_2 : decode cX11_paper 2 = .ok (.invokevirtual 197, 3) := by decide +kernel
theorem dX11_paper_5 : decode cX11_paper 5 = .ok (.aload_n 0, 1) := by decide +kernel
theorem dX11_paper_6 : decode cX11_paper 6 = .ok (.getfield 73, 3) := by decide +kernel
theorem dX11_paper_9 : decode cX11_paper 9 = .ok (.aload_n 0, 1) := by decide +kernel
theorem dX11_paper_10 : decode cX11_paper 10 = .ok (.getfield 87, 3) := by decide +kernel
theorem dX11_paper_13 : decode cX11_paper 13 = .ok (.invokevirtual 325, 3) := by decide +kernel
theorem dX11_paper_16 : decode cX11_paper 16 = .ok (.aload_n 0, 1) := by decide +kernel
theorem dX11_paper_17 : decode cX11_paper 17 = .ok (.getfield 73, 3) := by decide +kernel
theorem dX11_paper_20 : decode cX11_paper 20 = .ok (.getfield 331, 3) := by decide +kernel
theorem dX11_paper_23 : decode cX11_paper 23 = .ok (.iload_n 1, 1) := by decide +kernel
theorem dX11_paper_24 : decode cX11_paper 24 = .ok (.iaload, 1) := by decide +kernel
theorem dX11_paper_25 : decode cX11_paper 25 = .ok (.ireturn, 1) := by decide +kernel
theorem dX11_bids_0 : decode cX11_bids 0 = .ok (.aload_n 0, 1) := by decide +kernel
theorem dX11_bids_1 : decode cX11_bids 1 = .ok (.iload_n 1, 1) := by decide +kernel
theorem dX11_bids_2 : decode cX11_bids 2 = .ok (.bipush 9, 2) := by decide +kernel
theorem dX11_bids_4 : decode cX11_bids 4 = .ok (.invokevirtual 179, 3) := by decide +kernel
theorem dX11_bids_7 : decode cX11_bids 7 = .ok (.aload_n 0, 1) := by decide +kernel
theorem dX11_bids_8 : decode cX11_bids 8 = .ok (.iload_n 2, 1) := by decide +kernel
theorem dX11_bids_9 : decode cX11_bids 9 = .ok (.bipush 40, 2) := by decide +kernel
theorem dX11_bids_11 : decode cX11_bids 11 = .ok (.invokevirtual 179, 3) := by decide +kernel
theorem dX11_bids_14 : decode cX11_bids 14 = .ok (.aload_n 0, 1) := by decide +kernel
theorem dX11_bids_15 : decode cX11_bids 15 = .ok (.iload_n 3, 1) := by decide +kernel
theorem dX11_bids_16 : decode cX11_bids 16 = .ok (.bipush 40, 2) := by decide +kernel
theorem dX11_bids_18 : decode cX11_bids 18 = .ok (.invokevirtual 179, 3) := by decide +kernel
theorem dX11_bids_21 : decode cX11_bids 21 = .ok (.aload_n 0, 1) := by decide +kernel
theorem dX11_bids_22 : decode cX11_bids 22 = .ok (.iload 4, 2) := by decide +kernel
theorem dX11_bids_24 : decode cX11_bids 24 = .ok (.iconst 2, 1) := by decide +kernel
theorem dX11_bids_25 : decode cX11_bids 25 = .ok (.invokevirtual 179, 3) := by decide +kernel
theorem dX11_bids_28 : decode cX11_bids 28 = .ok (.iconst 0, 1) := by decide +kernel
theorem dX11_bids_29 : decode cX11_bids 29 = .ok (.istore 5, 2) := by decide +kernel
theorem dX11_bids_31 : decode cX11_bids 31 = .ok (.iconst (-1), 1) := by decide +kernel
theorem dX11_bids_32 : decode cX11_bids 32 = .ok (.istore 6, 2) := by decide +kernel
theorem dX11_bids_34 : decode cX11_bids 34 = .ok (.iconst (-1), 1) := by decide +kernel
theorem dX11_bids_35 : decode cX11_bids 35 = .ok (.istore 7, 2) := by decide +kernel
theorem dX11_bids_37 : decode cX11_bids 37 = .ok (.iconst 0, 1) := by decide +kernel
theorem dX11_bids_38 : decode cX11_bids 38 = .ok (.istore 8, 2) := by decide +kernel
theorem dX11_bids_40 : decode cX11_bids 40 = .ok (.iload 8, 2) := by decide +kernel
theorem dX11_bids_42 : decode cX11_bids 42 = .ok (.iload_n 1, 1) := by decide +kernel
theorem dX11_bids_43 : decode cX11_bids 43 = .ok (.if_icmp .gt 75, 3) := by decide +kernel
theorem dX11_bids_46 : decode cX11_bids 46 = .ok (.iconst 0, 1) := by decide +kernel
theorem dX11_bids_47 : decode cX11_bids 47 = .ok (.istore 9, 2) := by decide +kernel
theorem dX11_bids_49 : decode cX11_bids 49 = .ok (.iload 9, 2) := by decide +kernel
theorem dX11_bids_51 : decode cX11_bids 51 = .ok (.iload_n 1, 1) := by decide +kernel
theorem dX11_bids_52 : decode cX11_bids 52 = .ok (.if_icmp .gt 60, 3) := by decide +kernel
theorem dX11_bids_55 : decode cX11_bids 55 = .ok (.iload_n 1, 1) := by decide +kernel
theorem dX11_bids_56 : decode cX11_bids 56 = .ok (.iload_n 2, 1) := by decide +kernel
theorem dX11_bids_57 : decode cX11_bids 57 = .ok (.iload_n 3, 1) := by decide +kernel
theorem dX11_bids_58 : decode cX11_bids 58 = .ok (.iload 8, 2) := by decide +kernel
theorem dX11_bids_60 : decode cX11_bids 60 = .ok (.iload 9, 2) := by decide +kernel
theorem dX11_bids_62 : decode cX11_bids 62 = .ok (.invokestatic 334, 3) := by decide +kernel
theorem dX11_bids_65 : decode cX11_bids 65 = .ok (.ifCond .eq 41, 3) := by decide +kernel
theorem dX11_bids_68 : decode cX11_bids 68 = .ok (.iinc 5 1, 3) := by decide +kernel
theorem dX11_bids_71 : decode cX11_bids 71 = .ok (.iload 5, 2) := by decide +kernel
theorem dX11_bids_73 : decode cX11_bids 73 = .ok (.iconst 1, 1) := by decide +kernel
theorem dX11_bids_74 : decode cX11_bids 74 = .ok (.if_icmp .ne 32, 3) := by decide +kernel
theorem dX11_bids_77 : decode cX11_bids 77 = .ok (.bipush 10, 2) := by decide +kernel
theorem dX11_bids_79 : decode cX11_bids 79 = .ok (.iload 8, 2) := by decide +kernel
theorem dX11_bids_81 : decode cX11_bids 81 = .ok (.imul, 1) := by decide +kernel
theorem dX11_bids_82 : decode cX11_bids 82 = .ok (.iload 9, 2) := by decide +kernel
theorem dX11_bids_84 : decode cX11_bids 84 = .ok (.iadd, 1) := by decide +kernel
theorem dX11_bids_85 : decode cX11_bids 85 = .ok (.istore 6, 2) := by decide +kernel
theorem dX11_bids_87 : decode cX11_bids 87 = .ok (.iload_n 2, 1) := by decide +kernel
theorem dX11_bids_88 : decode cX11_bids 88 = .ok (.iload 8, 2) := by decide +kernel
theorem dX11_bids_90 : decode cX11_bids 90 = .ok (.iload 9, 2) := by decide +kernel
theorem dX11_bids_92 : decode cX11_bids 92 = .ok (.invokestatic 338, 3) := by decide +kernel
theorem dX11_bids_95 : decode cX11_bids 95 = .ok (.iload_n 3, 1) := by decide +kernel
theorem dX11_bids_96 : decode cX11_bids 96 = .ok (.iload 8, 2) := by decide +kernel
theorem dX11_bids_98 : decode cX11_bids 98 = .ok (.iload 9, 2) := by decide +kernel
theorem dX11_bids_100 : decode cX11_bids 100 = .ok (.invokestatic 342, 3) := by decide +kernel
theorem dX11_bids_103 : decode cX11_bids 103 = .ok (.iadd, 1) := by decide +kernel
theorem dX11_bids_104 : decode cX11_bids 104 = .ok (.istore 7, 2) := by decide +kernel
theorem dX11_bids_106 : decode cX11_bids 106 = .ok (.iinc 9 1, 3) := by decide +kernel
theorem dX11_bids_109 : decode cX11_bids 109 = .ok (.goto (-60), 3) := by decide +kernel
theorem dX11_bids_112 : decode cX11_bids 112 = .ok (.iinc 8 1, 3) := by decide +kernel
theorem dX11_bids_115 : decode cX11_bids 115 = .ok (.goto (-75), 3) := by decide +kernel
theorem dX11_bids_118 : decode cX11_bids 118 = .ok (.iload 4, 2) := by decide +kernel
theorem dX11_bids_120 : decode cX11_bids 120 = .ok (.ifCond .ne 8, 3) := by decide +kernel
theorem dX11_bids_123 : decode cX11_bids 123 = .ok (.iload 5, 2) := by decide +kernel
theorem dX11_bids_125 : decode cX11_bids 125 = .ok (.goto 16, 3) := by decide +kernel
theorem dX11_bids_128 : decode cX11_bids 128 = .ok (.iload 4, 2) := by decide +kernel
theorem dX11_bids_130 : decode cX11_bids 130 = .ok (.iconst 1, 1) := by decide +kernel
theorem dX11_bids_131 : decode cX11_bids 131 = .ok (.if_icmp .ne 8, 3) := by decide +kernel
theorem dX11_bids_134 : decode cX11_bids 134 = .ok (.iload 6, 2) := by decide +kernel
theorem dX11_bids_136 : decode cX11_bids 136 = .ok (.goto 5, 3) := by decide +kernel
theorem dX11_bids_139 : decode cX11_bids 139 = .ok (.iload 7, 2) := by decide +kernel
theorem dX11_bids_141 : decode cX11_bids 141 = .ok (.ireturn, 1) := by decide +kernel
theorem dX11_share_0 : decode cX11_share 0 = .ok (.aload_n 0, 1) := by decide +kernel
theorem dX11_share_1 : decode cX11_share 1 = .ok (.iload_n 1, 1) := by decide +kernel
theorem dX11_share_2 : decode cX11_share 2 = .ok (.invokevirtual 197, 3) := by decide +kernel
theorem dX11_share_5 : decode cX11_share 5 = .ok (.aload_n 0, 1) := by decide +kernel
theorem dX11_share_6 : decode cX11_share 6 = .ok (.iload_n 2, 1) := by decide +kernel
theorem dX11_share_7 : decode cX11_share 7 = .ok (.invokevirtual 271, 3) := by decide +kernel
theorem dX11_share_10 : decode cX11_share 10 = .ok (.aload_n 0, 1) := by decide +kernel
theorem dX11_share_11 : decode cX11_share 11 = .ok (.iload_n 3, 1) := by decide +kernel
theorem dX11_share_12 : decode cX11_share 12 = .ok (.sipush 400, 3) := by decide +kernel
theorem dX11_share_15 : decode cX11_share 15 = .ok (.invokevirtual 179, 3) := by decide +kernel
theorem dX11_share_18 : decode cX11_share 18 = .ok (.iload_n 2, 1) := by decide +kernel
theorem dX11_share_19 : decode cX11_share 19 = .ok (.iload_n 1, 1) := by decide +kernel
theorem dX11_share_20 : decode cX11_share 20 = .ok (.ishr, 1) := by decide +kernel
theorem dX11_share_21 : decode cX11_share 21 = .ok (.iconst 1, 1) := by decide +kernel
theorem dX11_share_22 : decode cX11_share 22 = .ok (.iand, 1) := by decide +kernel
theorem dX11_share_23 : decode cX11_share 23 = .ok (.ifCond .ne 5, 3) := by decide +kernel
theorem dX11_share_26 : decode cX11_share 26 = .ok (.iconst 0, 1) := by decide +kernel
theorem dX11_share_27 : decode cX11_share 27 = .ok (.ireturn, 1) := by decide +kernel
theorem dX11_share_28 : decode cX11_share 28 = .ok (.bipush 40, 2) := by decide +kernel
theorem dX11_share_30 : decode cX11_share 30 = .ok (.istore 4, 2) := by decide +kernel
theorem dX11_share_32 : decode cX11_share 32 = .ok (.iload 4, 2) := by decide +kernel
theorem dX11_share_34 : decode cX11_share 34 = .ok (.ifCond .le 23, 3) := by decide +kernel
theorem dX11_share_37 : decode cX11_share 37 = .ok (.aload_n 0, 1) := by decide +kernel
theorem dX11_share_38 : decode cX11_share 38 = .ok (.getfield 19, 3) := by decide +kernel
theorem dX11_share_41 : decode cX11_share 41 = .ok (.iload_n 2, 1) := by decide +kernel
theorem dX11_share_42 : decode cX11_share 42 = .ok (.iload 4, 2) := by decide +kernel
theorem dX11_share_44 : decode cX11_share 44 = .ok (.invokevirtual 345, 3) := by decide +kernel
theorem dX11_share_47 : decode cX11_share 47 = .ok (.iload_n 3, 1) := by decide +kernel
theorem dX11_share_48 : decode cX11_share 48 = .ok (.if_icmp .le 9, 3) := by decide +kernel
theorem dX11_share_51 : decode cX11_share 51 = .ok (.iinc 4 (-1), 3) := by decide +kernel
theorem dX11_share_54 : decode cX11_share 54 = .ok (.goto (-22), 3) := by decide +kernel
theorem dX11_share_57 : decode cX11_share 57 = .ok (.aload_n 0, 1) := by decide +kernel
theorem dX11_share_58 : decode cX11_share 58 = .ok (.getfield 19, 3) := by decide +kernel
theorem dX11_share_61 : decode cX11_share 61 = .ok (.getfield 207, 3) := by decide +kernel
theorem dX11_share_64 : decode cX11_share 64 = .ok (.iload_n 1, 1) := by decide +kernel
theorem dX11_share_65 : decode cX11_share 65 = .ok (.iaload, 1) := by decide +kernel
theorem dX11_share_66 : decode cX11_share 66 = .ok (.iload 4, 2) := by decide +kernel
theorem dX11_share_68 : decode cX11_share 68 = .ok (.invokestatic 349, 3) := by decide +kernel
theorem dX11_share_71 : decode cX11_share 71 = .ok (.ireturn, 1) := by decide +kernel
theorem dX11_busiest_0 : decode cX11_busiest 0 = .ok (.aload_n 0, 1) := by decide +kernel
theorem dX11_busiest_1 : decode cX11_busiest 1 = .ok (.iload_n 1, 1) := by decide +kernel
theorem dX11_busiest_2 : decode cX11_busiest 2 = .ok (.iconst 1, 1) := by decide +kernel
theorem dX11_busiest_3 : decode cX11_busiest 3 = .ok (.invokevirtual 179, 3) := by decide +kernel
theorem dX11_busiest_6 : decode cX11_busiest 6 = .ok (.iconst (-1), 1) := by decide +kernel
theorem dX11_busiest_7 : decode cX11_busiest 7 = .ok (.istore_n 2, 1) := by decide +kernel
theorem dX11_busiest_8 : decode cX11_busiest 8 = .ok (.iconst (-1), 1) := by decide +kernel
theorem dX11_busiest_9 : decode cX11_busiest 9 = .ok (.istore_n 3, 1) := by decide +kernel
theorem dX11_busiest_10 : decode cX11_busiest 10 = .ok (.iconst 0, 1) := by decide +kernel
theorem dX11_busiest_11 : decode cX11_busiest 11 = .ok (.istore 4, 2) := by decide +kernel
theorem dX11_busiest_13 : decode cX11_busiest 13 = .ok (.aload_n 0, 1) := by decide +kernel
theorem dX11_busiest_14 : decode cX11_busiest 14 = .ok (.getfield 87, 3) := by decide +kernel
theorem dX11_busiest_17 : decode cX11_busiest 17 = .ok (.getfield 182, 3) := by decide +kernel
theorem dX11_busiest_20 : decode cX11_busiest 20 = .ok (.ifCond .le 44, 3) := by decide +kernel
theorem dX11_busiest_23 : decode cX11_busiest 23 = .ok (.iload 4, 2) := by decide +kernel
theorem dX11_busiest_25 : decode cX11_busiest 25 = .ok (.aload_n 0, 1) := by decide +kernel
theorem dX11_busiest_26 : decode cX11_busiest 26 = .ok (.getfield 19, 3) := by decide +kernel
theorem dX11_busiest_29 : decode cX11_busiest 29 = .ok (.getfield 137, 3) := by decide +kernel
theorem dX11_busiest_32 : decode cX11_busiest 32 = .ok (.if_icmp .ge 32, 3) := by decide +kernel
theorem dX11_busiest_35 : decode cX11_busiest 35 = .ok (.aload_n 0, 1) := by decide +kernel
theorem dX11_busiest_36 : decode cX11_busiest 36 = .ok (.getfield 87, 3) := by decide +kernel
theorem dX11_busiest_39 : decode cX11_busiest 39 = .ok (.iload 4, 2) := by decide +kernel
theorem dX11_busiest_41 : decode cX11_busiest 41 = .ok (.invokevirtual 354, 3) := by decide +kernel
theorem dX11_busiest_44 : decode cX11_busiest 44 = .ok (.istore 5, 2) := by decide +kernel
theorem dX11_busiest_46 : decode cX11_busiest 46 = .ok (.iload 5, 2) := by decide +kernel
theorem dX11_busiest_48 : decode cX11_busiest 48 = .ok (.iload_n 3, 1) := by decide +kernel
theorem dX11_busiest_49 : decode cX11_busiest 49 = .ok (.if_icmp .le 9, 3) := by decide +kernel
theorem dX11_busiest_52 : decode cX11_busiest 52 = .ok (.iload 4, 2) := by decide +kernel
theorem dX11_busiest_54 : decode cX11_busiest 54 = .ok (.istore_n 2, 1) := by decide +kernel
theorem dX11_busiest_55 : decode cX11_busiest 55 = .ok (.iload 5, 2) := by decide +kernel
theorem dX11_busiest_57 : decode cX11_busiest 57 = .ok (.istore_n 3, 1) := by decide +kernel
theorem dX11_busiest_58 : decode cX11_busiest 58 = .ok (.iinc 4 1, 3) := by decide +kernel
theorem dX11_busiest_61 : decode cX11_busiest 61 = .ok (.goto (-48), 3) := by decide +kernel
theorem dX11_busiest_64 : decode cX11_busiest 64 = .ok (.iload_n 1, 1) := by decide +kernel
theorem dX11_busiest_65 : decode cX11_busiest 65 = .ok (.ifCond .ne 7, 3) := by decide +kernel
theorem dX11_busiest_68 : decode cX11_busiest 68 = .ok (.iload_n 2, 1) := by decide +kernel
theorem dX11_busiest_69 : decode cX11_busiest 69 = .ok (.goto 4, 3) := by decide +kernel
theorem dX11_busiest_72 : decode cX11_busiest 72 = .ok (.iload_n 3, 1) := by decide +kernel
theorem dX11_busiest_73 : decode cX11_busiest 73 = .ok (.ireturn, 1) := by decide +kernel
theorem dX11_unseen_0 : decode cX11_unseen 0 = .ok (.iconst 0, 1) := by decide +kernel
theorem dX11_unseen_1 : decode cX11_unseen 1 = .ok (.istore_n 1, 1) := by decide +kernel
theorem dX11_unseen_2 : decode cX11_unseen 2 = .ok (.iconst 0, 1) := by decide +kernel
theorem dX11_unseen_3 : decode cX11_unseen 3 = .ok (.istore_n 2, 1) := by decide +kernel
theorem dX11_unseen_4 : decode cX11_unseen 4 = .ok (.iload_n 2, 1) := by decide +kernel
theorem dX11_unseen_5 : decode cX11_unseen 5 = .ok (.aload_n 0, 1) := by decide +kernel
theorem dX11_unseen_6 : decode cX11_unseen 6 = .ok (.getfield 19, 3) := by decide +kernel
theorem dX11_unseen_9 : decode cX11_unseen 9 = .ok (.getfield 137, 3) := by decide +kernel
theorem dX11_unseen_12 : decode cX11_unseen 12 = .ok (.if_icmp .ge 39, 3) := by decide +kernel
theorem dX11_unseen_15 : decode cX11_unseen 15 = .ok (.aload_n 0, 1) := by decide +kernel
theorem dX11_unseen_16 : decode cX11_unseen 16 = .ok (.getfield 87, 3) := by decide +kernel
theorem dX11_unseen_19 : decode cX11_unseen 19 = .ok (.getfield 213, 3) := by decide +kernel
theorem dX11_unseen_22 : decode cX11_unseen 22 = .ok (.iload_n 2, 1) := by decide +kernel
theorem dX11_unseen_23 : decode cX11_unseen 23 = .ok (.iaload, 1) := by decide +kernel
theorem dX11_unseen_24 : decode cX11_unseen 24 = .ok (.ifCond .ne 21, 3) := by decide +kernel
theorem dX11_unseen_27 : decode cX11_unseen 27 = .ok (.aload_n 0, 1) := by decide +kernel
theorem dX11_unseen_28 : decode cX11_unseen 28 = .ok (.getfield 87, 3) := by decide +kernel
theorem dX11_unseen_31 : decode cX11_unseen 31 = .ok (.getfield 216, 3) := by decide +kernel
theorem dX11_unseen_34 : decode cX11_unseen 34 = .ok (.iload_n 2, 1) := by decide +kernel
theorem dX11_unseen_35 : decode cX11_unseen 35 = .ok (.iaload, 1) := by decide +kernel
theorem dX11_unseen_36 : decode cX11_unseen 36 = .ok (.ifCond .ne 9, 3) := by decide +kernel
theorem dX11_unseen_39 : decode cX11_unseen 39 = .ok (.iload_n 1, 1) := by decide +kernel
theorem dX11_unseen_40 : decode cX11_unseen 40 = .ok (.iconst 1, 1) := by decide +kernel
theorem dX11_unseen_41 : decode cX11_unseen 41 = .ok (.iload_n 2, 1) := by decide +kernel
theorem dX11_unseen_42 : decode cX11_unseen 42 = .ok (.ishl, 1) := by decide +kernel
theorem dX11_unseen_43 : decode cX11_unseen 43 = .ok (.ior, 1) := by decide +kernel
theorem dX11_unseen_44 : decode cX11_unseen 44 = .ok (.istore_n 1, 1) := by decide +kernel
theorem dX11_unseen_45 : decode cX11_unseen 45 = .ok (.iinc 2 1, 3) := by decide +kernel
theorem dX11_unseen_48 : decode cX11_unseen 48 = .ok (.goto (-44), 3) := by decide +kernel
theorem dX11_unseen_51 : decode cX11_unseen 51 = .ok (.iload_n 1, 1) := by decide +kernel
theorem dX11_unseen_52 : decode cX11_unseen 52 = .ok (.ireturn, 1) := by decide +kernel
theorem dX11_where_0 : decode cX11_where 0 = .ok (.aload_n 0, 1) := by decide +kernel
theorem dX11_where_1 : decode cX11_where 1 = .ok (.iload_n 1, 1) := by decide +kernel
theorem dX11_where_2 : decode cX11_where 2 = .ok (.invokevirtual 197, 3) := by decide +kernel
theorem dX11_where_5 : decode cX11_where 5 = .ok (.iconst 0, 1) := by decide +kernel
theorem dX11_where_6 : decode cX11_where 6 = .ok (.istore_n 2, 1) := by decide +kernel
theorem dX11_where_7 : decode cX11_where 7 = .ok (.iconst 0, 1) := by decide +kernel
theorem dX11_where_8 : decode cX11_where 8 = .ok (.istore_n 3, 1) := by decide +kernel
theorem dX11_where_9 : decode cX11_where 9 = .ok (.iload_n 3, 1) := by decide +kernel
theorem dX11_where_10 : decode cX11_where 10 = .ok (.aload_n 0, 1) := by decide +kernel
theorem dX11_where_11 : decode cX11_where 11 = .ok (.getfield 87, 3) := by decide +kernel
theorem dX11_where_14 : decode cX11_where 14 = .ok (.getfield 182, 3) := by decide +kernel
theorem dX11_where_17 : decode cX11_where 17 = .ok (.if_icmp .ge 41, 3) := by decide +kernel
theorem dX11_where_20 : decode cX11_where 20 = .ok (.aload_n 0, 1) := by decide +kernel
theorem dX11_where_21 : decode cX11_where 21 = .ok (.getfield 19, 3) := by decide +kernel
theorem dX11_where_24 : decode cX11_where 24 = .ok (.aload_n 0, 1) := by decide +kernel
theorem dX11_where_25 : decode cX11_where 25 = .ok (.getfield 87, 3) := by decide +kernel
theorem dX11_where_28 : decode cX11_where 28 = .ok (.iload_n 3, 1) := by decide +kernel
theorem dX11_where_29 : decode cX11_where 29 = .ok (.invokevirtual 236, 3) := by decide +kernel
theorem dX11_where_32 : decode cX11_where 32 = .ok (.invokevirtual 242, 3) := by decide +kernel
theorem dX11_where_35 : decode cX11_where 35 = .ok (.iload_n 1, 1) := by decide +kernel
theorem dX11_where_36 : decode cX11_where 36 = .ok (.if_icmp .ne 16, 3) := by decide +kernel
theorem dX11_where_39 : decode cX11_where 39 = .ok (.iload_n 2, 1) := by decide +kernel
theorem dX11_where_40 : decode cX11_where 40 = .ok (.iconst 1, 1) := by decide +kernel
theorem dX11_where_41 : decode cX11_where 41 = .ok (.aload_n 0, 1) := by decide +kernel
theorem dX11_where_42 : decode cX11_where 42 = .ok (.getfield 87, 3) := by decide +kernel
theorem dX11_where_45 : decode cX11_where 45 = .ok (.iload_n 3, 1) := by decide +kernel
theorem dX11_where_46 : decode cX11_where 46 = .ok (.invokevirtual 233, 3) := by decide +kernel
theorem dX11_where_49 : decode cX11_where 49 = .ok (.ishl, 1) := by decide +kernel
theorem dX11_where_50 : decode cX11_where 50 = .ok (.ior, 1) := by decide +kernel
theorem dX11_where_51 : decode cX11_where 51 = .ok (.istore_n 2, 1) := by decide +kernel
theorem dX11_where_52 : decode cX11_where 52 = .ok (.iinc 3 1, 3) := by decide +kernel
theorem dX11_where_55 : decode cX11_where 55 = .ok (.goto (-46), 3) := by decide +kernel
theorem dX11_where_58 : decode cX11_where 58 = .ok (.iload_n 2, 1) := by decide +kernel
theorem dX11_where_59 : decode cX11_where 59 = .ok (.ireturn, 1) := by decide +kernel
theorem dX11_twins_0 : decode cX11_twins 0 = .ok (.aload_n 0, 1) := by decide +kernel
theorem dX11_twins_1 : decode cX11_twins 1 = .ok (.iload_n 1, 1) := by decide +kernel
theorem dX11_twins_2 : decode cX11_twins 2 = .ok (.invokevirtual 197, 3) := by decide +kernel
theorem dX11_twins_5 : decode cX11_twins 5 = .ok (.iconst 0, 1) := by decide +kernel
theorem dX11_twins_6 : decode cX11_twins 6 = .ok (.istore_n 2, 1) := by decide +kernel
theorem dX11_twins_7 : decode cX11_twins 7 = .ok (.iconst 0, 1) := by decide +kernel
theorem dX11_twins_8 : decode cX11_twins 8 = .ok (.istore_n 3, 1) := by decide +kernel
theorem dX11_twins_9 : decode cX11_twins 9 = .ok (.iload_n 3, 1) := by decide +kernel
theorem dX11_twins_10 : decode cX11_twins 10 = .ok (.aload_n 0, 1) := by decide +kernel
theorem dX11_twins_11 : decode cX11_twins 11 = .ok (.getfield 19, 3) := by decide +kernel
theorem dX11_twins_14 : decode cX11_twins 14 = .ok (.getfield 137, 3) := by decide +kernel
theorem dX11_twins_17 : decode cX11_twins 17 = .ok (.if_icmp .ge 43, 3) := by decide +kernel
theorem dX11_twins_20 : decode cX11_twins 20 = .ok (.aload_n 0, 1) := by decide +kernel
theorem dX11_twins_21 : decode cX11_twins 21 = .ok (.getfield 19, 3) := by decide +kernel
theorem dX11_twins_24 : decode cX11_twins 24 = .ok (.aload_n 0, 1) := by decide +kernel
theorem dX11_twins_25 : decode cX11_twins 25 = .ok (.getfield 19, 3) := by decide +kernel
theorem dX11_twins_28 : decode cX11_twins 28 = .ok (.getfield 200, 3) := by decide +kernel
theorem dX11_twins_31 : decode cX11_twins 31 = .ok (.iload_n 3, 1) := by decide +kernel
theorem dX11_twins_32 : decode cX11_twins 32 = .ok (.iaload, 1) := by decide +kernel
theorem dX11_twins_33 : decode cX11_twins 33 = .ok (.aload_n 0, 1) := by decide +kernel
theorem dX11_twins_34 : decode cX11_twins 34 = .ok (.getfield 19, 3) := by decide +kernel
theorem dX11_twins_37 : decode cX11_twins 37 = .ok (.getfield 200, 3) := by decide +kernel
theorem dX11_twins_40 : decode cX11_twins 40 = .ok (.iload_n 1, 1) := by decide +kernel
theorem dX11_twins_41 : decode cX11_twins 41 = .ok (.iaload, 1) := by decide +kernel
theorem dX11_twins_42 : decode cX11_twins 42 = .ok (.invokevirtual 357, 3) := by decide +kernel
theorem dX11_twins_45 : decode cX11_twins 45 = .ok (.ifCond .eq 9, 3) := by decide +kernel
theorem dX11_twins_48 : decode cX11_twins 48 = .ok (.iload_n 2, 1) := by decide +kernel
theorem dX11_twins_49 : decode cX11_twins 49 = .ok (.iconst 1, 1) := by decide +kernel
theorem dX11_twins_50 : decode cX11_twins 50 = .ok (.iload_n 3, 1) := by decide +kernel
theorem dX11_twins_51 : decode cX11_twins 51 = .ok (.ishl, 1) := by decide +kernel
theorem dX11_twins_52 : decode cX11_twins 52 = .ok (.ior, 1) := by decide +kernel
theorem dX11_twins_53 : decode cX11_twins 53 = .ok (.istore_n 2, 1) := by decide +kernel
theorem dX11_twins_54 : decode cX11_twins 54 = .ok (.iinc 3 1, 3) := by decide +kernel
theorem dX11_twins_57 : decode cX11_twins 57 = .ok (.goto (-48), 3) := by decide +kernel
theorem dX11_twins_60 : decode cX11_twins 60 = .ok (.iload_n 2, 1) := by decide +kernel
theorem dX11_twins_61 : decode cX11_twins 61 = .ok (.ireturn, 1) := by decide +kernel
theorem dX11_chain_0 : decode cX11_chain 0 = .ok (.aload_n 0, 1) := by decide +kernel
theorem dX11_chain_1 : decode cX11_chain 1 = .ok (.iload_n 1, 1) := by decide +kernel
theorem dX11_chain_2 : decode cX11_chain 2 = .ok (.invokevirtual 197, 3) := by decide +kernel
theorem dX11_chain_5 : decode cX11_chain 5 = .ok (.aload_n 0, 1) := by decide +kernel
theorem dX11_chain_6 : decode cX11_chain 6 = .ok (.iload_n 2, 1) := by decide +kernel
theorem dX11_chain_7 : decode cX11_chain 7 = .ok (.invokevirtual 197, 3) := by decide +kernel
theorem dX11_chain_10 : decode cX11_chain 10 = .ok (.aload_n 0, 1) := by decide +kernel
theorem dX11_chain_11 : decode cX11_chain 11 = .ok (.getfield 66, 3) := by decide +kernel
theorem dX11_chain_14 : decode cX11_chain 14 = .ok (.aload_n 0, 1) := by decide +kernel
theorem dX11_chain_15 : decode cX11_chain 15 = .ok (.getfield 87, 3) := by decide +kernel
theorem dX11_chain_18 : decode cX11_chain 18 = .ok (.invokevirtual 274, 3) := by decide +kernel
theorem dX11_chain_21 : decode cX11_chain 21 = .ok (.aload_n 0, 1) := by decide +kernel
theorem dX11_chain_22 : decode cX11_chain 22 = .ok (.getfield 66, 3) := by decide +kernel
theorem dX11_chain_25 : decode cX11_chain 25 = .ok (.iload_n 1, 1) := by decide +kernel
theorem dX11_chain_26 : decode cX11_chain 26 = .ok (.iload_n 2, 1) := by decide +kernel
theorem dX11_chain_27 : decode cX11_chain 27 = .ok (.invokevirtual 360, 3) := by decide +kernel
theorem dX11_chain_30 : decode cX11_chain 30 = .ok (.ireturn, 1) := by decide +kernel
theorem dX11_looks_0 : decode cX11_looks 0 = .ok (.aload_n 0, 1) := by decide +kernel
theorem dX11_looks_1 : decode cX11_looks 1 = .ok (.iload_n 1, 1) := by decide +kernel
theorem dX11_looks_2 : decode cX11_looks 2 = .ok (.invokevirtual 197, 3) := by decide +kernel
theorem dX11_looks_5 : decode cX11_looks 5 = .ok (.aload_n 0, 1) := by decide +kernel
theorem dX11_looks_6 : decode cX11_looks 6 = .ok (.iload_n 2, 1) := by decide +kernel
theorem dX11_looks_7 : decode cX11_looks 7 = .ok (.iconst 2, 1) := by decide +kernel
theorem dX11_looks_8 : decode cX11_looks 8 = .ok (.invokevirtual 179, 3) := by decide +kernel
theorem dX11_looks_11 : decode cX11_looks 11 = .ok (.iconst 0, 1) := by decide +kernel
theorem dX11_looks_12 : decode cX11_looks 12 = .ok (.istore_n 3, 1) := by decide +kernel
theorem dX11_looks_13 : decode cX11_looks 13 = .ok (.iconst 0, 1) := by decide +kernel
theorem dX11_looks_14 : decode cX11_looks 14 = .ok (.istore 4, 2) := by decide +kernel
theorem dX11_looks_16 : decode cX11_looks 16 = .ok (.iload 4, 2) := by decide +kernel
theorem dX11_looks_18 : decode cX11_looks 18 = .ok (.aload_n 0, 1) := by decide +kernel
theorem dX11_looks_19 : decode cX11_looks 19 = .ok (.getfield 87, 3) := by decide +kernel
theorem dX11_looks_22 : decode cX11_looks 22 = .ok (.getfield 182, 3) := by decide +kernel
theorem dX11_looks_25 : decode cX11_looks 25 = .ok (.if_icmp .ge 84, 3) := by decide +kernel
theorem dX11_looks_28 : decode cX11_looks 28 = .ok (.iload_n 2, 1) := by decide +kernel
theorem dX11_looks_29 : decode cX11_looks 29 = .ok (.ifCond .eq 39, 3) := by decide +kernel
theorem dX11_looks_32 : decode cX11_looks 32 = .ok (.iload_n 2, 1) := by decide +kernel
theorem dX11_looks_33 : decode cX11_looks 33 = .ok (.iconst 1, 1) := by decide +kernel
theorem dX11_looks_34 : decode cX11_looks 34 = .ok (.if_icmp .ne 16, 3) := by decide +kernel
theorem dX11_looks_37 : decode cX11_looks 37 = .ok (.aload_n 0, 1) := by decide +kernel
theorem dX11_looks_38 : decode cX11_looks 38 = .ok (.getfield 87, 3) := by decide +kernel
theorem dX11_looks_41 : decode cX11_looks 41 = .ok (.iload 4, 2) := by decide +kernel
theorem dX11_looks_43 : decode cX11_looks 43 = .ok (.invokevirtual 230, 3) := by decide +kernel
theorem dX11_looks_46 : decode cX11_looks 46 = .ok (.iload_n 1, 1) := by decide +kernel
theorem dX11_looks_47 : decode cX11_looks 47 = .ok (.if_icmp .ne 21, 3) := by decide +kernel
theorem dX11_looks_50 : decode cX11_looks 50 = .ok (.iload_n 2, 1) := by decide +kernel
theorem dX11_looks_51 : decode cX11_looks 51 = .ok (.iconst 2, 1) := by decide +kernel
theorem dX11_looks_52 : decode cX11_looks 52 = .ok (.if_icmp .ne 20, 3) := by decide +kernel
theorem dX11_looks_55 : decode cX11_looks 55 = .ok (.aload_n 0, 1) := by decide +kernel
theorem dX11_looks_56 : decode cX11_looks 56 = .ok (.getfield 87, 3) := by decide +kernel
theorem dX11_looks_59 : decode cX11_looks 59 = .ok (.iload 4, 2) := by decide +kernel
theorem dX11_looks_61 : decode cX11_looks 61 = .ok (.invokevirtual 226, 3) := by decide +kernel
theorem dX11_looks_64 : decode cX11_looks 64 = .ok (.iload_n 1, 1) := by decide +kernel
theorem dX11_looks_65 : decode cX11_looks 65 = .ok (.if_icmp .eq 7, 3) := by decide +kernel
theorem dX11_looks_68 : decode cX11_looks 68 = .ok (.iconst 1, 1) := by decide +kernel
theorem dX11_looks_69 : decode cX11_looks 69 = .ok (.goto 4, 3) := by decide +kernel
theorem dX11_looks_72 : decode cX11_looks 72 = .ok (.iconst 0, 1) := by decide +kernel
theorem dX11_looks_73 : decode cX11_looks 73 = .ok (.istore 5, 2) := by decide +kernel
theorem dX11_looks_75 : decode cX11_looks 75 = .ok (.iload 5, 2) := by decide +kernel
theorem dX11_looks_77 : decode cX11_looks 77 = .ok (.ifCond .eq 26, 3) := by decide +kernel
theorem dX11_looks_80 : decode cX11_looks 80 = .ok (.aload_n 0, 1) := by decide +kernel
theorem dX11_looks_81 : decode cX11_looks 81 = .ok (.getfield 19, 3) := by decide +kernel
theorem dX11_looks_84 : decode cX11_looks 84 = .ok (.aload_n 0, 1) := by decide +kernel
theorem dX11_looks_85 : decode cX11_looks 85 = .ok (.getfield 87, 3) := by decide +kernel
theorem dX11_looks_88 : decode cX11_looks 88 = .ok (.iload 4, 2) := by decide +kernel
theorem dX11_looks_90 : decode cX11_looks 90 = .ok (.invokevirtual 236, 3) := by decide +kernel
theorem dX11_looks_93 : decode cX11_looks 93 = .ok (.invokevirtual 242, 3) := by decide +kernel
theorem dX11_looks_96 : decode cX11_looks 96 = .ok (.iload_n 1, 1) := by decide +kernel
theorem dX11_looks_97 : decode cX11_looks 97 = .ok (.if_icmp .ne 6, 3) := by decide +kernel
theorem dX11_looks_100 : decode cX11_looks 100 = .ok (.iinc 3 1, 3) := by decide +kernel
theorem dX11_looks_103 : decode cX11_looks 103 = .ok (.iinc 4 1, 3) := by decide +kernel
theorem dX11_looks_106 : decode cX11_looks 106 = .ok (.goto (-90), 3) := by decide +kernel
theorem dX11_looks_109 : decode cX11_looks 109 = .ok (.iload_n 3, 1) := by decide +kernel
theorem dX11_looks_110 : decode cX11_looks 110 = .ok (.ireturn, 1) := by decide +kernel
theorem dX11_cheapest_0 : decode cX11_cheapest 0 = .ok (.aload_n 0, 1) := by decide +kernel
theorem dX11_cheapest_1 : decode cX11_cheapest 1 = .ok (.iload_n 1, 1) := by decide +kernel
theorem dX11_cheapest_2 : decode cX11_cheapest 2 = .ok (.invokevirtual 271, 3) := by decide +kernel
theorem dX11_cheapest_5 : decode cX11_cheapest 5 = .ok (.aload_n 0, 1) := by decide +kernel
theorem dX11_cheapest_6 : decode cX11_cheapest 6 = .ok (.iload_n 2, 1) := by decide +kernel
theorem dX11_cheapest_7 : decode cX11_cheapest 7 = .ok (.iconst 1, 1) := by decide +kernel
theorem dX11_cheapest_8 : decode cX11_cheapest 8 = .ok (.invokevirtual 179, 3) := by decide +kernel
theorem dX11_cheapest_11 : decode cX11_cheapest 11 = .ok (.aload_n 0, 1) := by decide +kernel
theorem dX11_cheapest_12 : decode cX11_cheapest 12 = .ok (.getfield 66, 3) := by decide +kernel
theorem dX11_cheapest_15 : decode cX11_cheapest 15 = .ok (.aload_n 0, 1) := by decide +kernel
theorem dX11_cheapest_16 : decode cX11_cheapest 16 = .ok (.getfield 87, 3) := by decide +kernel
theorem dX11_cheapest_19 : decode cX11_cheapest 19 = .ok (.invokevirtual 274, 3) := by decide +kernel
theorem dX11_cheapest_22 : decode cX11_cheapest 22 = .ok (.aload_n 0, 1) := by decide +kernel
theorem dX11_cheapest_23 : decode cX11_cheapest 23 = .ok (.getfield 66, 3) := by decide +kernel
theorem dX11_cheapest_26 : decode cX11_cheapest 26 = .ok (.iload_n 1, 1) := by decide +kernel
theorem dX11_cheapest_27 : decode cX11_cheapest 27 = .ok (.iconst 1, 1) := by decide +kernel
theorem dX11_cheapest_28 : decode cX11_cheapest 28 = .ok (.invokevirtual 277, 3) := by decide +kernel
theorem dX11_cheapest_31 : decode cX11_cheapest 31 = .ok (.istore_n 3, 1) := by decide +kernel
theorem dX11_cheapest_32 : decode cX11_cheapest 32 = .ok (.iload_n 2, 1) := by decide +kernel
theorem dX11_cheapest_33 : decode cX11_cheapest 33 = .ok (.iconst 1, 1) := by decide +kernel
theorem dX11_cheapest_34 : decode cX11_cheapest 34 = .ok (.if_icmp .eq 8, 3) := by decide +kernel
theorem dX11_cheapest_37 : decode cX11_cheapest 37 = .ok (.iload_n 3, 1) := by decide +kernel
theorem dX11_cheapest_38 : decode cX11_cheapest 38 = .ok (.iconst (-1), 1) := by decide +kernel
theorem dX11_cheapest_39 : decode cX11_cheapest 39 = .ok (.if_icmp .ne 7, 3) := by decide +kernel
theorem dX11_cheapest_42 : decode cX11_cheapest 42 = .ok (.iload_n 3, 1) := by decide +kernel
theorem dX11_cheapest_43 : decode cX11_cheapest 43 = .ok (.goto 11, 3) := by decide +kernel
theorem dX11_cheapest_46 : decode cX11_cheapest 46 = .ok (.aload_n 0, 1) := by decide +kernel
theorem dX11_cheapest_47 : decode cX11_cheapest 47 = .ok (.getfield 19, 3) := by decide +kernel
theorem dX11_cheapest_50 : decode cX11_cheapest 50 = .ok (.iload_n 3, 1) := by decide +kernel
theorem dX11_cheapest_51 : decode cX11_cheapest 51 = .ok (.invokevirtual 363, 3) := by decide +kernel
theorem dX11_cheapest_54 : decode cX11_cheapest 54 = .ok (.ireturn, 1) := by decide +kernel
theorem dX11_common_0 : decode cX11_common 0 = .ok (.aload_n 0, 1) := by decide +kernel
theorem dX11_common_1 : decode cX11_common 1 = .ok (.iload_n 1, 1) := by decide +kernel
theorem dX11_common_2 : decode cX11_common 2 = .ok (.bipush 63, 2) := by decide +kernel
theorem dX11_common_4 : decode cX11_common 4 = .ok (.invokevirtual 179, 3) := by decide +kernel
theorem dX11_common_7 : decode cX11_common 7 = .ok (.iconst 0, 1) := by decide +kernel
theorem dX11_common_8 : decode cX11_common 8 = .ok (.istore_n 2, 1) := by decide +kernel
theorem dX11_common_9 : decode cX11_common 9 = .ok (.iconst 0, 1) := by decide +kernel
theorem dX11_common_10 : decode cX11_common 10 = .ok (.istore_n 3, 1) := by decide +kernel
theorem dX11_common_11 : decode cX11_common 11 = .ok (.iload_n 3, 1) := by decide +kernel
theorem dX11_common_12 : decode cX11_common 12 = .ok (.aload_n 0, 1) := by decide +kernel
theorem dX11_common_13 : decode cX11_common 13 = .ok (.getfield 19, 3) := by decide +kernel
theorem dX11_common_16 : decode cX11_common 16 = .ok (.getfield 137, 3) := by decide +kernel
theorem dX11_common_19 : decode cX11_common 19 = .ok (.if_icmp .ge 30, 3) := by decide +kernel
theorem dX11_common_22 : decode cX11_common 22 = .ok (.aload_n 0, 1) := by decide +kernel
theorem dX11_common_23 : decode cX11_common 23 = .ok (.getfield 19, 3) := by decide +kernel
theorem dX11_common_26 : decode cX11_common 26 = .ok (.getfield 200, 3) := by decide +kernel
theorem dX11_common_29 : decode cX11_common 29 = .ok (.iload_n 3, 1) := by decide +kernel
theorem dX11_common_30 : decode cX11_common 30 = .ok (.iaload, 1) := by decide +kernel
theorem dX11_common_31 : decode cX11_common 31 = .ok (.iload_n 1, 1) := by decide +kernel
theorem dX11_common_32 : decode cX11_common 32 = .ok (.iand, 1) := by decide +kernel
theorem dX11_common_33 : decode cX11_common 33 = .ok (.iload_n 1, 1) := by decide +kernel
theorem dX11_common_34 : decode cX11_common 34 = .ok (.if_icmp .ne 9, 3) := by decide +kernel
theorem dX11_common_37 : decode cX11_common 37 = .ok (.iload_n 2, 1) := by decide +kernel
theorem dX11_common_38 : decode cX11_common 38 = .ok (.iconst 1, 1) := by decide +kernel
theorem dX11_common_39 : decode cX11_common 39 = .ok (.iload_n 3, 1) := by decide +kernel
theorem dX11_common_40 : decode cX11_common 40 = .ok (.ishl, 1) := by decide +kernel
theorem dX11_common_41 : decode cX11_common 41 = .ok (.ior, 1) := by decide +kernel
theorem dX11_common_42 : decode cX11_common 42 = .ok (.istore_n 2, 1) := by decide +kernel
theorem dX11_common_43 : decode cX11_common 43 = .ok (.iinc 3 1, 3) := by decide +kernel
theorem dX11_common_46 : decode cX11_common 46 = .ok (.goto (-35), 3) := by decide +kernel
theorem dX11_common_49 : decode cX11_common 49 = .ok (.iload_n 2, 1) := by decide +kernel
theorem dX11_common_50 : decode cX11_common 50 = .ok (.ireturn, 1) := by decide +kernel
theorem dX11_moodFor_0 : decode cX11_moodFor 0 = .ok (.aload_n 0, 1) := by decide +kernel
theorem dX11_moodFor_1 : decode cX11_moodFor 1 = .ok (.iload_n 1, 1) := by decide +kernel
theorem dX11_moodFor_2 : decode cX11_moodFor 2 = .ok (.invokevirtual 197, 3) := by decide +kernel
theorem dX11_moodFor_5 : decode cX11_moodFor 5 = .ok (.aload_n 0, 1) := by decide +kernel
theorem dX11_moodFor_6 : decode cX11_moodFor 6 = .ok (.iload_n 2, 1) := by decide +kernel
theorem dX11_moodFor_7 : decode cX11_moodFor 7 = .ok (.invokevirtual 197, 3) := by decide +kernel
theorem dX11_moodFor_10 : decode cX11_moodFor 10 = .ok (.iconst 0, 1) := by decide +kernel
theorem dX11_moodFor_11 : decode cX11_moodFor 11 = .ok (.istore_n 3, 1) := by decide +kernel
theorem dX11_moodFor_12 : decode cX11_moodFor 12 = .ok (.iload_n 3, 1) := by decide +kernel
theorem dX11_moodFor_13 : decode cX11_moodFor 13 = .ok (.bipush 9, 2) := by decide +kernel
theorem dX11_moodFor_15 : decode cX11_moodFor 15 = .ok (.if_icmp .gt 28, 3) := by decide +kernel
theorem dX11_moodFor_18 : decode cX11_moodFor 18 = .ok (.aload_n 0, 1) := by decide +kernel
theorem dX11_moodFor_19 : decode cX11_moodFor 19 = .ok (.getfield 57, 3) := by decide +kernel
theorem dX11_moodFor_22 : decode cX11_moodFor 22 = .ok (.aload_n 0, 1) := by decide +kernel
theorem dX11_moodFor_23 : decode cX11_moodFor 23 = .ok (.getfield 87, 3) := by decide +kernel
theorem dX11_moodFor_26 : decode cX11_moodFor 26 = .ok (.iload_n 1, 1) := by decide +kernel
theorem dX11_moodFor_27 : decode cX11_moodFor 27 = .ok (.iload_n 2, 1) := by decide +kernel
theorem dX11_moodFor_28 : decode cX11_moodFor 28 = .ok (.iload_n 3, 1) := by decide +kernel
theorem dX11_moodFor_29 : decode cX11_moodFor 29 = .ok (.invokevirtual 366, 3) := by decide +kernel
theorem dX11_moodFor_32 : decode cX11_moodFor 32 = .ok (.ifCond .eq 5, 3) := by decide +kernel
theorem dX11_moodFor_35 : decode cX11_moodFor 35 = .ok (.iload_n 3, 1) := by decide +kernel
theorem dX11_moodFor_36 : decode cX11_moodFor 36 = .ok (.ireturn, 1) := by decide +kernel
theorem dX11_moodFor_37 : decode cX11_moodFor 37 = .ok (.iinc 3 1, 3) := by decide +kernel
theorem dX11_moodFor_40 : decode cX11_moodFor 40 = .ok (.goto (-28), 3) := by decide +kernel
theorem dX11_moodFor_43 : decode cX11_moodFor 43 = .ok (.iconst (-1), 1) := by decide +kernel
theorem dX11_moodFor_44 : decode cX11_moodFor 44 = .ok (.ireturn, 1) := by decide +kernel
theorem dX11_lost_0 : decode cX11_lost 0 = .ok (.aload_n 0, 1) := by decide +kernel
theorem dX11_lost_1 : decode cX11_lost 1 = .ok (.iload_n 1, 1) := by decide +kernel
theorem dX11_lost_2 : decode cX11_lost 2 = .ok (.invokevirtual 245, 3) := by decide +kernel
theorem dX11_lost_5 : decode cX11_lost 5 = .ok (.aload_n 0, 1) := by decide +kernel
theorem dX11_lost_6 : decode cX11_lost 6 = .ok (.getfield 57, 3) := by decide +kernel
theorem dX11_lost_9 : decode cX11_lost 9 = .ok (.aload_n 0, 1) := by decide +kernel
theorem dX11_lost_10 : decode cX11_lost 10 = .ok (.getfield 87, 3) := by decide +kernel
theorem dX11_lost_13 : decode cX11_lost 13 = .ok (.iconst (-1), 1) := by decide +kernel
theorem dX11_lost_14 : decode cX11_lost 14 = .ok (.invokevirtual 264, 3) := by decide +kernel
theorem dX11_lost_17 : decode cX11_lost 17 = .ok (.aload_n 0, 1) := by decide +kernel
theorem dX11_lost_18 : decode cX11_lost 18 = .ok (.getfield 57, 3) := by decide +kernel
theorem dX11_lost_21 : decode cX11_lost 21 = .ok (.aload_n 0, 1) := by decide +kernel
theorem dX11_lost_22 : decode cX11_lost 22 = .ok (.getfield 87, 3) := by decide +kernel
theorem dX11_lost_25 : decode cX11_lost 25 = .ok (.iload_n 1, 1) := by decide +kernel
theorem dX11_lost_26 : decode cX11_lost 26 = .ok (.invokevirtual 264, 3) := by decide +kernel
theorem dX11_lost_29 : decode cX11_lost 29 = .ok (.iconst (-1), 1) := by decide +kernel
theorem dX11_lost_30 : decode cX11_lost 30 = .ok (.ixor, 1) := by decide +kernel
theorem dX11_lost_31 : decode cX11_lost 31 = .ok (.iand, 1) := by decide +kernel
theorem dX11_lost_32 : decode cX11_lost 32 = .ok (.ireturn, 1) := by decide +kernel
theorem dX11_faces_0 : decode cX11_faces 0 = .ok (.aload_n 0, 1) := by decide +kernel
theorem dX11_faces_1 : decode cX11_faces 1 = .ok (.iload_n 1, 1) := by decide +kernel
theorem dX11_faces_2 : decode cX11_faces 2 = .ok (.invokevirtual 197, 3) := by decide +kernel
theorem dX11_faces_5 : decode cX11_faces 5 = .ok (.aload_n 0, 1) := by decide +kernel
theorem dX11_faces_6 : decode cX11_faces 6 = .ok (.iload_n 2, 1) := by decide +kernel
theorem dX11_faces_7 : decode cX11_faces 7 = .ok (.iconst 2, 1) := by decide +kernel
theorem dX11_faces_8 : decode cX11_faces 8 = .ok (.invokevirtual 179, 3) := by decide +kernel
theorem dX11_faces_11 : decode cX11_faces 11 = .ok (.lconst 0, 1) := by decide +kernel
theorem dX11_faces_12 : decode cX11_faces 12 = .ok (.lstore_n 3, 1) := by decide +kernel
theorem dX11_faces_13 : decode cX11_faces 13 = .ok (.iconst (-1), 1) := by decide +kernel
theorem dX11_faces_14 : decode cX11_faces 14 = .ok (.istore 5, 2) := by decide +kernel
theorem dX11_faces_16 : decode cX11_faces 16 = .ok (.iconst (-1), 1) := by decide +kernel
theorem dX11_faces_17 : decode cX11_faces 17 = .ok (.istore 6, 2) := by decide +kernel
theorem dX11_faces_19 : decode cX11_faces 19 = .ok (.iconst 0, 1) := by decide +kernel
theorem dX11_faces_20 : decode cX11_faces 20 = .ok (.istore 7, 2) := by decide +kernel
theorem dX11_faces_22 : decode cX11_faces 22 = .ok (.iload 7, 2) := by decide +kernel
theorem dX11_faces_24 : decode cX11_faces 24 = .ok (.aload_n 0, 1) := by decide +kernel
theorem dX11_faces_25 : decode cX11_faces 25 = .ok (.getfield 87, 3) := by decide +kernel
theorem dX11_faces_28 : decode cX11_faces 28 = .ok (.getfield 182, 3) := by decide +kernel
theorem dX11_faces_31 : decode cX11_faces 31 = .ok (.if_icmp .ge 69, 3) := by decide +kernel
theorem dX11_faces_34 : decode cX11_faces 34 = .ok (.aload_n 0, 1) := by decide +kernel
theorem dX11_faces_35 : decode cX11_faces 35 = .ok (.getfield 87, 3) := by decide +kernel
theorem dX11_faces_38 : decode cX11_faces 38 = .ok (.iload 7, 2) := by decide +kernel
theorem dX11_faces_40 : decode cX11_faces 40 = .ok (.invokevirtual 226, 3) := by decide +kernel
theorem dX11_faces_43 : decode cX11_faces 43 = .ok (.iload_n 1, 1) := by decide +kernel
theorem dX11_faces_44 : decode cX11_faces 44 = .ok (.if_icmp .ne 50, 3) := by decide +kernel
theorem dX11_faces_47 : decode cX11_faces 47 = .ok (.aload_n 0, 1) := by decide +kernel
theorem dX11_faces_48 : decode cX11_faces 48 = .ok (.getfield 87, 3) := by decide +kernel
theorem dX11_faces_51 : decode cX11_faces 51 = .ok (.iload 7, 2) := by decide +kernel
theorem dX11_faces_53 : decode cX11_faces 53 = .ok (.invokevirtual 236, 3) := by decide +kernel
theorem dX11_faces_56 : decode cX11_faces 56 = .ok (.istore 8, 2) := by decide +kernel
theorem dX11_faces_58 : decode cX11_faces 58 = .ok (.lload_n 3, 1) := by decide +kernel
theorem dX11_faces_59 : decode cX11_faces 59 = .ok (.lconst 1, 1) := by decide +kernel
theorem dX11_faces_60 : decode cX11_faces 60 = .ok (.iload 8, 2) := by decide +kernel
theorem dX11_faces_62 : decode cX11_faces 62 = .ok (.lshl, 1) := by decide +kernel
theorem dX11_faces_63 : decode cX11_faces 63 = .ok (.lor, 1) := by decide +kernel
theorem dX11_faces_64 : decode cX11_faces 64 = .ok (.lstore_n 3, 1) := by decide +kernel
theorem dX11_faces_65 : decode cX11_faces 65 = .ok (.iload 5, 2) := by decide +kernel
theorem dX11_faces_67 : decode cX11_faces 67 = .ok (.iconst (-1), 1) := by decide +kernel
theorem dX11_faces_68 : decode cX11_faces 68 = .ok (.if_icmp .ne 8, 3) := by decide +kernel
theorem dX11_faces_71 : decode cX11_faces 71 = .ok (.iload 8, 2) := by decide +kernel
theorem dX11_faces_73 : decode cX11_faces 73 = .ok (.goto 10, 3) := by decide +kernel
theorem dX11_faces_76 : decode cX11_faces 76 = .ok (.iload 5, 2) := by decide +kernel
theorem dX11_faces_78 : decode cX11_faces 78 = .ok (.iload 8, 2) := by decide +kernel
theorem dX11_faces_80 : decode cX11_faces 80 = .ok (.invokestatic 349, 3) := by decide +kernel
theorem dX11_faces_83 : decode cX11_faces 83 = .ok (.istore 5, 2) := by decide +kernel
theorem dX11_faces_85 : decode cX11_faces 85 = .ok (.iload 6, 2) := by decide +kernel
theorem dX11_faces_87 : decode cX11_faces 87 = .ok (.iload 8, 2) := by decide +kernel
theorem dX11_faces_89 : decode cX11_faces 89 = .ok (.invokestatic 370, 3) := by decide +kernel
theorem dX11_faces_92 : decode cX11_faces 92 = .ok (.istore 6, 2) := by decide +kernel
theorem dX11_faces_94 : decode cX11_faces 94 = .ok (.iinc 7 1, 3) := by decide +kernel
theorem dX11_faces_97 : decode cX11_faces 97 = .ok (.goto (-75), 3) := by decide +kernel
theorem dX11_faces_100 : decode cX11_faces 100 = .ok (.iload_n 2, 1) := by decide +kernel
theorem dX11_faces_101 : decode cX11_faces 101 = .ok (.ifCond .ne 10, 3) := by decide +kernel
theorem dX11_faces_104 : decode cX11_faces 104 = .ok (.lload_n 3, 1) := by decide +kernel
theorem dX11_faces_105 : decode cX11_faces 105 = .ok (.invokestatic 307, 3) := by decide +kernel
theorem dX11_faces_108 : decode cX11_faces 108 = .ok (.goto 15, 3) := by decide +kernel
theorem dX11_faces_111 : decode cX11_faces 111 = .ok (.iload_n 2, 1) := by decide +kernel
theorem dX11_faces_112 : decode cX11_faces 112 = .ok (.iconst 1, 1) := by decide +kernel
theorem dX11_faces_113 : decode cX11_faces 113 = .ok (.if_icmp .ne 8, 3) := by decide +kernel
theorem dX11_faces_116 : decode cX11_faces 116 = .ok (.iload 5, 2) := by decide +kernel
theorem dX11_faces_118 : decode cX11_faces 118 = .ok (.goto 5, 3) := by decide +kernel
theorem dX11_faces_121 : decode cX11_faces 121 = .ok (.iload 6, 2) := by decide +kernel
theorem dX11_faces_123 : decode cX11_faces 123 = .ok (.ireturn, 1) := by decide +kernel
theorem dX11_years_0 : decode cX11_years 0 = .ok (.aload_n 0, 1) := by decide +kernel
theorem dX11_years_1 : decode cX11_years 1 = .ok (.iload_n 2, 1) := by decide +kernel
theorem dX11_years_2 : decode cX11_years 2 = .ok (.iload_n 3, 1) := by decide +kernel
theorem dX11_years_3 : decode cX11_years 3 = .ok (.invokevirtual 373, 3) := by decide +kernel
theorem dX11_years_6 : decode cX11_years 6 = .ok (.aload_n 0, 1) := by decide +kernel
theorem dX11_years_7 : decode cX11_years 7 = .ok (.iload 4, 2) := by decide +kernel
theorem dX11_years_9 : decode cX11_years 9 = .ok (.iconst 3, 1) := by decide +kernel
theorem dX11_years_10 : decode cX11_years 10 = .ok (.invokevirtual 179, 3) := by decide +kernel
theorem dX11_years_13 : decode cX11_years 13 = .ok (.aload_n 0, 1) := by decide +kernel
theorem dX11_years_14 : decode cX11_years 14 = .ok (.getfield 80, 3) := by decide +kernel
theorem dX11_years_17 : decode cX11_years 17 = .ok (.aload_n 0, 1) := by decide +kernel
theorem dX11_years_18 : decode cX11_years 18 = .ok (.getfield 87, 3) := by decide +kernel
theorem dX11_years_21 : decode cX11_years 21 = .ok (.iload_n 1, 1) := by decide +kernel
theorem dX11_years_22 : decode cX11_years 22 = .ok (.iload_n 2, 1) := by decide +kernel
theorem dX11_years_23 : decode cX11_years 23 = .ok (.iload_n 3, 1) := by decide +kernel
theorem dX11_years_24 : decode cX11_years 24 = .ok (.invokevirtual 376, 3) := by decide +kernel
theorem dX11_years_27 : decode cX11_years 27 = .ok (.iload 4, 2) := by decide +kernel
theorem dX11_years_29 : decode cX11_years 29 = .ok (.tableswitch 54 0 2 #[27, 38, 46], 27) := by decide +kernel
theorem dX11_years_56 : decode cX11_years 56 = .ok (.aload_n 0, 1) := by decide +kernel
theorem dX11_years_57 : decode cX11_years 57 = .ok (.getfield 80, 3) := by decide +kernel
theorem dX11_years_60 : decode cX11_years 60 = .ok (.getfield 380, 3) := by decide +kernel
theorem dX11_years_63 : decode cX11_years 63 = .ok (.getfield 182, 3) := by decide +kernel
theorem dX11_years_66 : decode cX11_years 66 = .ok (.ireturn, 1) := by decide +kernel
theorem dX11_years_67 : decode cX11_years 67 = .ok (.aload_n 0, 1) := by decide +kernel
theorem dX11_years_68 : decode cX11_years 68 = .ok (.getfield 80, 3) := by decide +kernel
theorem dX11_years_71 : decode cX11_years 71 = .ok (.getfield 381, 3) := by decide +kernel
theorem dX11_years_74 : decode cX11_years 74 = .ok (.ireturn, 1) := by decide +kernel
theorem dX11_years_75 : decode cX11_years 75 = .ok (.aload_n 0, 1) := by decide +kernel
theorem dX11_years_76 : decode cX11_years 76 = .ok (.getfield 80, 3) := by decide +kernel
theorem dX11_years_79 : decode cX11_years 79 = .ok (.getfield 384, 3) := by decide +kernel
theorem dX11_years_82 : decode cX11_years 82 = .ok (.ireturn, 1) := by decide +kernel
theorem dX11_years_83 : decode cX11_years 83 = .ok (.aload_n 0, 1) := by decide +kernel
theorem dX11_years_84 : decode cX11_years 84 = .ok (.getfield 57, 3) := by decide +kernel
theorem dX11_years_87 : decode cX11_years 87 = .ok (.aload_n 0, 1) := by decide +kernel
theorem dX11_years_88 : decode cX11_years 88 = .ok (.getfield 80, 3) := by decide +kernel
theorem dX11_years_91 : decode cX11_years 91 = .ok (.getfield 380, 3) := by decide +kernel
theorem dX11_years_94 : decode cX11_years 94 = .ok (.iconst (-1), 1) := by decide +kernel
theorem dX11_years_95 : decode cX11_years 95 = .ok (.invokevirtual 264, 3) := by decide +kernel
theorem dX11_years_98 : decode cX11_years 98 = .ok (.invokestatic 259, 3) := by decide +kernel
theorem dX11_years_101 : decode cX11_years 101 = .ok (.ireturn, 1) := by decide +kernel
theorem dX11_span_0 : decode cX11_span 0 = .ok (.aload_n 0, 1) := by decide +kernel
theorem dX11_span_1 : decode cX11_span 1 = .ok (.iload_n 2, 1) := by decide +kernel
theorem dX11_span_2 : decode cX11_span 2 = .ok (.iconst 1, 1) := by decide +kernel
theorem dX11_span_3 : decode cX11_span 3 = .ok (.if_icmp .lt 13, 3) := by decide +kernel
theorem dX11_span_6 : decode cX11_span 6 = .ok (.iload_n 2, 1) := by decide +kernel
theorem dX11_span_7 : decode cX11_span 7 = .ok (.bipush 20, 2) := by decide +kernel
theorem dX11_span_9 : decode cX11_span 9 = .ok (.if_icmp .gt 7, 3) := by decide +kernel
theorem dX11_span_12 : decode cX11_span 12 = .ok (.iconst 1, 1) := by decide +kernel
theorem dX11_span_13 : decode cX11_span 13 = .ok (.goto 4, 3) := by decide +kernel
theorem dX11_span_16 : decode cX11_span 16 = .ok (.iconst 0, 1) := by decide +kernel
theorem dX11_span_17 : decode cX11_span 17 = .ok (.invokevirtual 281, 3) := by decide +kernel
theorem dX11_span_20 : decode cX11_span 20 = .ok (.aload_n 0, 1) := by decide +kernel
theorem dX11_span_21 : decode cX11_span 21 = .ok (.iload_n 3, 1) := by decide +kernel
theorem dX11_span_22 : decode cX11_span 22 = .ok (.iload 4, 2) := by decide +kernel
theorem dX11_span_24 : decode cX11_span 24 = .ok (.invokevirtual 373, 3) := by decide +kernel
theorem dX11_span_27 : decode cX11_span 27 = .ok (.aload_n 0, 1) := by decide +kernel
theorem dX11_span_28 : decode cX11_span 28 = .ok (.iload 5, 2) := by decide +kernel
theorem dX11_span_30 : decode cX11_span 30 = .ok (.iconst 2, 1) := by decide +kernel
theorem dX11_span_31 : decode cX11_span 31 = .ok (.invokevirtual 179, 3) := by decide +kernel
theorem dX11_span_34 : decode cX11_span 34 = .ok (.aload_n 0, 1) := by decide +kernel
theorem dX11_span_35 : decode cX11_span 35 = .ok (.iload 6, 2) := by decide +kernel
theorem dX11_span_37 : decode cX11_span 37 = .ok (.ifCond .lt 19, 3) := by decide +kernel
theorem dX11_span_40 : decode cX11_span 40 = .ok (.iload 6, 2) := by decide +kernel
theorem dX11_span_42 : decode cX11_span 42 = .ok (.aload_n 0, 1) := by decide +kernel
theorem dX11_span_43 : decode cX11_span 43 = .ok (.getfield 19, 3) := by decide +kernel
theorem dX11_span_46 : decode cX11_span 46 = .ok (.getfield 137, 3) := by decide +kernel
theorem dX11_span_49 : decode cX11_span 49 = .ok (.if_icmp .ge 7, 3) := by decide +kernel
theorem dX11_span_52 : decode cX11_span 52 = .ok (.iconst 1, 1) := by decide +kernel
theorem dX11_span_53 : decode cX11_span 53 = .ok (.goto 4, 3) := by decide +kernel
theorem dX11_span_56 : decode cX11_span 56 = .ok (.iconst 0, 1) := by decide +kernel
theorem dX11_span_57 : decode cX11_span 57 = .ok (.invokevirtual 281, 3) := by decide +kernel
theorem dX11_span_60 : decode cX11_span 60 = .ok (.bipush 40, 2) := by decide +kernel
theorem dX11_span_62 : decode cX11_span 62 = .ok (.istore 7, 2) := by decide +kernel
theorem dX11_span_64 : decode cX11_span 64 = .ok (.iconst 0, 1) := by decide +kernel
theorem dX11_span_65 : decode cX11_span 65 = .ok (.istore 8, 2) := by decide +kernel
theorem dX11_span_67 : decode cX11_span 67 = .ok (.iconst 0, 1) := by decide +kernel
theorem dX11_span_68 : decode cX11_span 68 = .ok (.istore 9, 2) := by decide +kernel
theorem dX11_span_70 : decode cX11_span 70 = .ok (.iconst 0, 1) := by decide +kernel
theorem dX11_span_71 : decode cX11_span 71 = .ok (.istore 10, 2) := by decide +kernel
theorem dX11_span_73 : decode cX11_span 73 = .ok (.iload 10, 2) := by decide +kernel
theorem dX11_span_75 : decode cX11_span 75 = .ok (.iload_n 2, 1) := by decide +kernel
theorem dX11_span_76 : decode cX11_span 76 = .ok (.if_icmp .ge 86, 3) := by decide +kernel
theorem dX11_span_79 : decode cX11_span 79 = .ok (.aload_n 0, 1) := by decide +kernel
theorem dX11_span_80 : decode cX11_span 80 = .ok (.getfield 80, 3) := by decide +kernel
theorem dX11_span_83 : decode cX11_span 83 = .ok (.aload_n 0, 1) := by decide +kernel
theorem dX11_span_84 : decode cX11_span 84 = .ok (.getfield 87, 3) := by decide +kernel
theorem dX11_span_87 : decode cX11_span 87 = .ok (.iload_n 1, 1) := by decide +kernel
theorem dX11_span_88 : decode cX11_span 88 = .ok (.iload 10, 2) := by decide +kernel
theorem dX11_span_90 : decode cX11_span 90 = .ok (.iadd, 1) := by decide +kernel
theorem dX11_span_91 : decode cX11_span 91 = .ok (.iload_n 3, 1) := by decide +kernel
theorem dX11_span_92 : decode cX11_span 92 = .ok (.iload 4, 2) := by decide +kernel
theorem dX11_span_94 : decode cX11_span 94 = .ok (.invokevirtual 376, 3) := by decide +kernel
theorem dX11_span_97 : decode cX11_span 97 = .ok (.iload 7, 2) := by decide +kernel
theorem dX11_span_99 : decode cX11_span 99 = .ok (.aload_n 0, 1) := by decide +kernel
theorem dX11_span_100 : decode cX11_span 100 = .ok (.getfield 80, 3) := by decide +kernel
theorem dX11_span_103 : decode cX11_span 103 = .ok (.getfield 380, 3) := by decide +kernel
theorem dX11_span_106 : decode cX11_span 106 = .ok (.getfield 182, 3) := by decide +kernel
theorem dX11_span_109 : decode cX11_span 109 = .ok (.invokestatic 349, 3) := by decide +kernel
theorem dX11_span_112 : decode cX11_span 112 = .ok (.istore 7, 2) := by decide +kernel
theorem dX11_span_114 : decode cX11_span 114 = .ok (.iload 8, 2) := by decide +kernel
theorem dX11_span_116 : decode cX11_span 116 = .ok (.aload_n 0, 1) := by decide +kernel
theorem dX11_span_117 : decode cX11_span 117 = .ok (.getfield 80, 3) := by decide +kernel
theorem dX11_span_120 : decode cX11_span 120 = .ok (.getfield 380, 3) := by decide +kernel
theorem dX11_span_123 : decode cX11_span 123 = .ok (.getfield 182, 3) := by decide +kernel
theorem dX11_span_126 : decode cX11_span 126 = .ok (.invokestatic 370, 3) := by decide +kernel
theorem dX11_span_129 : decode cX11_span 129 = .ok (.istore 8, 2) := by decide +kernel
theorem dX11_span_131 : decode cX11_span 131 = .ok (.iload 9, 2) := by decide +kernel
theorem dX11_span_133 : decode cX11_span 133 = .ok (.aload_n 0, 1) := by decide +kernel
theorem dX11_span_134 : decode cX11_span 134 = .ok (.getfield 57, 3) := by decide +kernel
theorem dX11_span_137 : decode cX11_span 137 = .ok (.aload_n 0, 1) := by decide +kernel
theorem dX11_span_138 : decode cX11_span 138 = .ok (.getfield 80, 3) := by decide +kernel
theorem dX11_span_141 : decode cX11_span 141 = .ok (.getfield 380, 3) := by decide +kernel
theorem dX11_span_144 : decode cX11_span 144 = .ok (.iconst (-1), 1) := by decide +kernel
theorem dX11_span_145 : decode cX11_span 145 = .ok (.invokevirtual 264, 3) := by decide +kernel
theorem dX11_span_148 : decode cX11_span 148 = .ok (.iload 6, 2) := by decide +kernel
theorem dX11_span_150 : decode cX11_span 150 = .ok (.ishr, 1) := by decide +kernel
theorem dX11_span_151 : decode cX11_span 151 = .ok (.iconst 1, 1) := by decide +kernel
theorem dX11_span_152 : decode cX11_span 152 = .ok (.iand, 1) := by decide +kernel
theorem dX11_span_153 : decode cX11_span 153 = .ok (.iadd, 1) := by decide +kernel
theorem dX11_span_154 : decode cX11_span 154 = .ok (.istore 9, 2) := by decide +kernel
theorem dX11_span_156 : decode cX11_span 156 = .ok (.iinc 10 1, 3) := by decide +kernel
theorem dX11_span_159 : decode cX11_span 159 = .ok (.goto (-86), 3) := by decide +kernel
theorem dX11_span_162 : decode cX11_span 162 = .ok (.iload 5, 2) := by decide +kernel
theorem dX11_span_164 : decode cX11_span 164 = .ok (.ifCond .ne 8, 3) := by decide +kernel
theorem dX11_span_167 : decode cX11_span 167 = .ok (.iload 7, 2) := by decide +kernel
theorem dX11_span_169 : decode cX11_span 169 = .ok (.goto 16, 3) := by decide +kernel
theorem dX11_span_172 : decode cX11_span 172 = .ok (.iload 5, 2) := by decide +kernel
theorem dX11_span_174 : decode cX11_span 174 = .ok (.iconst 1, 1) := by decide +kernel
theorem dX11_span_175 : decode cX11_span 175 = .ok (.if_icmp .ne 8, 3) := by decide +kernel
theorem dX11_span_178 : decode cX11_span 178 = .ok (.iload 8, 2) := by decide +kernel
theorem dX11_span_180 : decode cX11_span 180 = .ok (.goto 5, 3) := by decide +kernel
theorem dX11_span_183 : decode cX11_span 183 = .ok (.iload 9, 2) := by decide +kernel
theorem dX11_span_185 : decode cX11_span 185 = .ok (.ireturn, 1) := by decide +kernel
theorem dX11_image_0 : decode cX11_image 0 = .ok (.aload_n 0, 1) := by decide +kernel
theorem dX11_image_1 : decode cX11_image 1 = .ok (.getfield 131, 3) := by decide +kernel
theorem dX11_image_4 : decode cX11_image 4 = .ok (.iconst 3, 1) := by decide +kernel
theorem dX11_image_5 : decode cX11_image 5 = .ok (.if_icmp .lt 5, 3) := by decide +kernel
theorem dX11_image_8 : decode cX11_image 8 = .ok (.iconst (-1), 1) := by decide +kernel
theorem dX11_image_9 : decode cX11_image 9 = .ok (.ireturn, 1) := by decide +kernel
theorem dX11_image_10 : decode cX11_image 10 = .ok (.aload_n 0, 1) := by decide +kernel
theorem dX11_image_11 : decode cX11_image 11 = .ok (.getfield 93, 3) := by decide +kernel
theorem dX11_image_14 : decode cX11_image 14 = .ok (.aload_n 0, 1) := by decide +kernel
theorem dX11_image_15 : decode cX11_image 15 = .ok (.getfield 131, 3) := by decide +kernel
theorem dX11_image_18 : decode cX11_image 18 = .ok (.new 91, 3) := by decide +kernel
theorem dX11_image_21 : decode cX11_image 21 = .ok (.dup, 1) := by decide +kernel
theorem dX11_image_22 : decode cX11_image 22 = .ok (.aload_n 0, 1) := by decide +kernel
theorem dX11_image_23 : decode cX11_image 23 = .ok (.getfield 87, 3) := by decide +kernel
theorem dX11_image_26 : decode cX11_image 26 = .ok (.aload_n 0, 1) := by decide +kernel
theorem dX11_image_27 : decode cX11_image 27 = .ok (.getfield 127, 3) := by decide +kernel
theorem dX11_image_30 : decode cX11_image 30 = .ok (.invokespecial 150, 3) := by decide +kernel
theorem dX11_image_33 : decode cX11_image 33 = .ok (.aastore, 1) := by decide +kernel
theorem dX11_image_34 : decode cX11_image 34 = .ok (.aload_n 0, 1) := by decide +kernel
theorem dX11_image_35 : decode cX11_image 35 = .ok (.dup, 1) := by decide +kernel
theorem dX11_image_36 : decode cX11_image 36 = .ok (.getfield 131, 3) := by decide +kernel
theorem dX11_image_39 : decode cX11_image 39 = .ok (.iconst 1, 1) := by decide +kernel
theorem dX11_image_40 : decode cX11_image 40 = .ok (.iadd, 1) := by decide +kernel
theorem dX11_image_41 : decode cX11_image 41 = .ok (.putfield 131, 3) := by decide +kernel
theorem dX11_image_44 : decode cX11_image 44 = .ok (.aload_n 0, 1) := by decide +kernel
theorem dX11_image_45 : decode cX11_image 45 = .ok (.getfield 131, 3) := by decide +kernel
theorem dX11_image_48 : decode cX11_image 48 = .ok (.ireturn, 1) := by decide +kernel
theorem dX11_restore_0 : decode cX11_restore 0 = .ok (.aload_n 0, 1) := by decide +kernel
theorem dX11_restore_1 : decode cX11_restore 1 = .ok (.getfield 131, 3) := by decide +kernel
theorem dX11_restore_4 : decode cX11_restore 4 = .ok (.ifCond .le 11, 3) := by decide +kernel
theorem dX11_restore_7 : decode cX11_restore 7 = .ok (.aload_n 0, 1) := by decide +kernel
theorem dX11_restore_8 : decode cX11_restore 8 = .ok (.getfield 131, 3) := by decide +kernel
theorem dX11_restore_11 : decode cX11_restore 11 = .ok (.iconst 3, 1) := by decide +kernel
theorem dX11_restore_12 : decode cX11_restore 12 = .ok (.if_icmp .le 5, 3) := by decide +kernel
theorem dX11_restore_15 : decode cX11_restore 15 = .ok (.iconst (-1), 1) := by decide +kernel
theorem dX11_restore_16 : decode cX11_restore 16 = .ok (.ireturn, 1) := by decide +kernel
theorem dX11_restore_17 : decode cX11_restore 17 = .ok (.aload_n 0, 1) := by decide +kernel
theorem dX11_restore_18 : decode cX11_restore 18 = .ok (.getfield 93, 3) := by decide +kernel
theorem dX11_restore_21 : decode cX11_restore 21 = .ok (.aload_n 0, 1) := by decide +kernel
theorem dX11_restore_22 : decode cX11_restore 22 = .ok (.getfield 131, 3) := by decide +kernel
theorem dX11_restore_25 : decode cX11_restore 25 = .ok (.iconst 1, 1) := by decide +kernel
theorem dX11_restore_26 : decode cX11_restore 26 = .ok (.isub, 1) := by decide +kernel
theorem dX11_restore_27 : decode cX11_restore 27 = .ok (.aaload, 1) := by decide +kernel
theorem dX11_restore_28 : decode cX11_restore 28 = .ok (.astore_n 1, 1) := by decide +kernel
theorem dX11_restore_29 : decode cX11_restore 29 = .ok (.aload_n 1, 1) := by decide +kernel
theorem dX11_restore_30 : decode cX11_restore 30 = .ok (.ifnonnull 5, 3) := by decide +kernel
theorem dX11_restore_33 : decode cX11_restore 33 = .ok (.iconst (-1), 1) := by decide +kernel
theorem dX11_restore_34 : decode cX11_restore 34 = .ok (.ireturn, 1) := by decide +kernel
theorem dX11_restore_35 : decode cX11_restore 35 = .ok (.aload_n 0, 1) := by decide +kernel
theorem dX11_restore_36 : decode cX11_restore 36 = .ok (.dup, 1) := by decide +kernel
theorem dX11_restore_37 : decode cX11_restore 37 = .ok (.getfield 131, 3) := by decide +kernel
theorem dX11_restore_40 : decode cX11_restore 40 = .ok (.iconst 1, 1) := by decide +kernel
theorem dX11_restore_41 : decode cX11_restore 41 = .ok (.isub, 1) := by decide +kernel
theorem dX11_restore_42 : decode cX11_restore 42 = .ok (.putfield 131, 3) := by decide +kernel
theorem dX11_restore_45 : decode cX11_restore 45 = .ok (.aload_n 0, 1) := by decide +kernel
theorem dX11_restore_46 : decode cX11_restore 46 = .ok (.getfield 87, 3) := by decide +kernel
theorem dX11_restore_49 : decode cX11_restore 49 = .ok (.aload_n 1, 1) := by decide +kernel
theorem dX11_restore_50 : decode cX11_restore 50 = .ok (.getfield 170, 3) := by decide +kernel
theorem dX11_restore_53 : decode cX11_restore 53 = .ok (.invokevirtual 173, 3) := by decide +kernel
theorem dX11_restore_56 : decode cX11_restore 56 = .ok (.aload_n 0, 1) := by decide +kernel
theorem dX11_restore_57 : decode cX11_restore 57 = .ok (.aload_n 1, 1) := by decide +kernel
theorem dX11_restore_58 : decode cX11_restore 58 = .ok (.getfield 176, 3) := by decide +kernel
theorem dX11_restore_61 : decode cX11_restore 61 = .ok (.putfield 127, 3) := by decide +kernel
theorem dX11_restore_64 : decode cX11_restore 64 = .ok (.aload_n 0, 1) := by decide +kernel
theorem dX11_restore_65 : decode cX11_restore 65 = .ok (.iconst 0, 1) := by decide +kernel
theorem dX11_restore_66 : decode cX11_restore 66 = .ok (.putfield 134, 3) := by decide +kernel
theorem dX11_restore_69 : decode cX11_restore 69 = .ok (.aload_n 0, 1) := by decide +kernel
theorem dX11_restore_70 : decode cX11_restore 70 = .ok (.getfield 131, 3) := by decide +kernel
theorem dX11_restore_73 : decode cX11_restore 73 = .ok (.ireturn, 1) := by decide +kernel
theorem dX11_status_0 : decode cX11_status 0 = .ok (.iload_n 1, 1) := by decide +kernel
theorem dX11_status_1 : decode cX11_status 1 = .ok (.ifCond .ne 10, 3) := by decide +kernel
theorem dX11_status_4 : decode cX11_status 4 = .ok (.aload_n 0, 1) := by decide +kernel
theorem dX11_status_5 : decode cX11_status 5 = .ok (.getfield 387, 3) := by decide +kernel
theorem dX11_status_8 : decode cX11_status 8 = .ok (.goto 16, 3) := by decide +kernel
theorem dX11_status_11 : decode cX11_status 11 = .ok (.iload_n 1, 1) := by decide +kernel
theorem dX11_status_12 : decode cX11_status 12 = .ok (.iconst 1, 1) := by decide +kernel
theorem dX11_status_13 : decode cX11_status 13 = .ok (.if_icmp .ne 10, 3) := by decide +kernel
theorem dX11_status_16 : decode cX11_status 16 = .ok (.aload_n 0, 1) := by decide +kernel
theorem dX11_status_17 : decode cX11_status 17 = .ok (.getfield 390, 3) := by decide +kernel
theorem dX11_status_20 : decode cX11_status 20 = .ok (.goto 4, 3) := by decide +kernel
theorem dX11_status_23 : decode cX11_status 23 = .ok (.iconst (-1), 1) := by decide +kernel
theorem dX11_status_24 : decode cX11_status 24 = .ok (.ireturn, 1) := by decide +kernel
theorem dX11_count_0 : decode cX11_count 0 = .ok (.iload_n 1, 1) := by decide +kernel
theorem dX11_count_1 : decode cX11_count 1 = .ok (.tableswitch 45 0 2 #[27, 32, 40], 27) := by decide +kernel
theorem dX11_count_28 : decode cX11_count 28 = .ok (.aload_n 0, 1) := by decide +kernel
theorem dX11_count_29 : decode cX11_count 29 = .ok (.getfield 131, 3) := by decide +kernel
theorem dX11_count_32 : decode cX11_count 32 = .ok (.ireturn, 1) := by decide +kernel
theorem dX11_count_33 : decode cX11_count 33 = .ok (.aload_n 0, 1) := by decide +kernel
theorem dX11_count_34 : decode cX11_count 34 = .ok (.getfield 10, 3) := by decide +kernel
theorem dX11_count_37 : decode cX11_count 37 = .ok (.getfield 97, 3) := by decide +kernel
theorem dX11_count_40 : decode cX11_count 40 = .ok (.ireturn, 1) := by decide +kernel
theorem dX11_count_41 : decode cX11_count 41 = .ok (.aload_n 0, 1) := by decide +kernel
theorem dX11_count_42 : decode cX11_count 42 = .ok (.invokevirtual 144, 3) := by decide +kernel
theorem dX11_count_45 : decode cX11_count 45 = .ok (.ireturn, 1) := by decide +kernel
theorem dX11_count_46 : decode cX11_count 46 = .ok (.iconst (-1), 1) := by decide +kernel
theorem dX11_count_47 : decode cX11_count 47 = .ok (.ireturn, 1) := by decide +kernel
theorem dX11_worksToUndo_0 : decode cX11_worksToUndo 0 = .ok (.aload_n 0, 1) := by decide +kernel
theorem dX11_worksToUndo_1 : decode cX11_worksToUndo 1 = .ok (.getfield 127, 3) := by decide +kernel
theorem dX11_worksToUndo_4 : decode cX11_worksToUndo 4 = .ok (.ifnonnull 7, 3) := by decide +kernel
theorem dX11_worksToUndo_7 : decode cX11_worksToUndo 7 = .ok (.iconst 0, 1) := by decide +kernel
theorem dX11_worksToUndo_8 : decode cX11_worksToUndo 8 = .ok (.goto 10, 3) := by decide +kernel
theorem dX11_worksToUndo_11 : decode cX11_worksToUndo 11 = .ok (.aload_n 0, 1) := by decide +kernel
theorem dX11_worksToUndo_12 : decode cX11_worksToUndo 12 = .ok (.getfield 127, 3) := by decide +kernel
theorem dX11_worksToUndo_15 : decode cX11_worksToUndo 15 = .ok (.getfield 393, 3) := by decide +kernel
theorem dX11_worksToUndo_18 : decode cX11_worksToUndo 18 = .ok (.ireturn, 1) := by decide +kernel
theorem dX11_openText_0 : decode cX11_openText 0 = .ok (.aload_n 0, 1) := by decide +kernel
theorem dX11_openText_1 : decode cX11_openText 1 = .ok (.iload_n 1, 1) := by decide +kernel
theorem dX11_openText_2 : decode cX11_openText 2 = .ok (.ifCond .lt 23, 3) := by decide +kernel
theorem dX11_openText_5 : decode cX11_openText 5 = .ok (.iload_n 1, 1) := by decide +kernel
theorem dX11_openText_6 : decode cX11_openText 6 = .ok (.aload_n 0, 1) := by decide +kernel
theorem dX11_openText_7 : decode cX11_openText 7 = .ok (.getfield 10, 3) := by decide +kernel
theorem dX11_openText_10 : decode cX11_openText 10 = .ok (.getfield 97, 3) := by decide +kernel
theorem dX11_openText_13 : decode cX11_openText 13 = .ok (.if_icmp .gt 12, 3) := by decide +kernel
theorem dX11_openText_16 : decode cX11_openText 16 = .ok (.iload_n 1, 1) := by decide +kernel
theorem dX11_openText_17 : decode cX11_openText 17 = .ok (.iload_n 2, 1) := by decide +kernel
theorem dX11_openText_18 : decode cX11_openText 18 = .ok (.if_icmp .gt 7, 3) := by decide +kernel
theorem dX11_openText_21 : decode cX11_openText 21 = .ok (.iconst 1, 1) := by decide +kernel
theorem dX11_openText_22 : decode cX11_openText 22 = .ok (.goto 4, 3) := by decide +kernel
theorem dX11_openText_25 : decode cX11_openText 25 = .ok (.iconst 0, 1) := by decide +kernel
theorem dX11_openText_26 : decode cX11_openText 26 = .ok (.invokevirtual 281, 3) := by decide +kernel
theorem dX11_openText_29 : decode cX11_openText 29 = .ok (.aload_n 0, 1) := by decide +kernel
theorem dX11_openText_30 : decode cX11_openText 30 = .ok (.getfield 10, 3) := by decide +kernel
theorem dX11_openText_33 : decode cX11_openText 33 = .ok (.iload_n 1, 1) := by decide +kernel
theorem dX11_openText_34 : decode cX11_openText 34 = .ok (.invokevirtual 396, 3) := by decide +kernel
theorem dX11_openText_37 : decode cX11_openText 37 = .ok (.return_, 1) := by decide +kernel
theorem dX11_needPerson_0 : decode cX11_needPerson 0 = .ok (.aload_n 0, 1) := by decide +kernel
theorem dX11_needPerson_1 : decode cX11_needPerson 1 = .ok (.iload_n 1, 1) := by decide +kernel
theorem dX11_needPerson_2 : decode cX11_needPerson 2 = .ok (.ifCond .lt 18, 3) := by decide +kernel
theorem dX11_needPerson_5 : decode cX11_needPerson 5 = .ok (.iload_n 1, 1) := by decide +kernel
theorem dX11_needPerson_6 : decode cX11_needPerson 6 = .ok (.aload_n 0, 1) := by decide +kernel
theorem dX11_needPerson_7 : decode cX11_needPerson 7 = .ok (.getfield 19, 3) := by decide +kernel
theorem dX11_needPerson_10 : decode cX11_needPerson 10 = .ok (.getfield 137, 3) := by decide +kernel
theorem dX11_needPerson_13 : decode cX11_needPerson 13 = .ok (.if_icmp .ge 7, 3) := by decide +kernel
theorem dX11_needPerson_16 : decode cX11_needPerson 16 = .ok (.iconst 1, 1) := by decide +kernel
theorem dX11_needPerson_17 : decode cX11_needPerson 17 = .ok (.goto 4, 3) := by decide +kernel
theorem dX11_needPerson_20 : decode cX11_needPerson 20 = .ok (.iconst 0, 1) := by decide +kernel
theorem dX11_needPerson_21 : decode cX11_needPerson 21 = .ok (.invokevirtual 222, 3) := by decide +kernel
theorem dX11_needPerson_24 : decode cX11_needPerson 24 = .ok (.return_, 1) := by decide +kernel
theorem dX11_needHall_0 : decode cX11_needHall 0 = .ok (.aload_n 0, 1) := by decide +kernel
theorem dX11_needHall_1 : decode cX11_needHall 1 = .ok (.iload_n 1, 1) := by decide +kernel
theorem dX11_needHall_2 : decode cX11_needHall 2 = .ok (.ifCond .lt 13, 3) := by decide +kernel
theorem dX11_needHall_5 : decode cX11_needHall 5 = .ok (.iload_n 1, 1) := by decide +kernel
theorem dX11_needHall_6 : decode cX11_needHall 6 = .ok (.bipush 6, 2) := by decide +kernel
theorem dX11_needHall_8 : decode cX11_needHall 8 = .ok (.if_icmp .ge 7, 3) := by decide +kernel
theorem dX11_needHall_11 : decode cX11_needHall 11 = .ok (.iconst 1, 1) := by decide +kernel
theorem dX11_needHall_12 : decode cX11_needHall 12 = .ok (.goto 4, 3) := by decide +kernel
theorem dX11_needHall_15 : decode cX11_needHall 15 = .ok (.iconst 0, 1) := by decide +kernel
theorem dX11_needHall_16 : decode cX11_needHall 16 = .ok (.invokevirtual 222, 3) := by decide +kernel
theorem dX11_needHall_19 : decode cX11_needHall 19 = .ok (.return_, 1) := by decide +kernel
theorem dX11_needRange_0 : decode cX11_needRange 0 = .ok (.aload_n 0, 1) := by decide +kernel
theorem dX11_needRange_1 : decode cX11_needRange 1 = .ok (.iload_n 1, 1) := by decide +kernel
theorem dX11_needRange_2 : decode cX11_needRange 2 = .ok (.ifCond .lt 12, 3) := by decide +kernel
theorem dX11_needRange_5 : decode cX11_needRange 5 = .ok (.iload_n 1, 1) := by decide +kernel
theorem dX11_needRange_6 : decode cX11_needRange 6 = .ok (.iload_n 2, 1) := by decide +kernel
theorem dX11_needRange_7 : decode cX11_needRange 7 = .ok (.if_icmp .gt 7, 3) := by decide +kernel
theorem dX11_needRange_10 : decode cX11_needRange 10 = .ok (.iconst 1, 1) := by decide +kernel
theorem dX11_needRange_11 : decode cX11_needRange 11 = .ok (.goto 4, 3) := by decide +kernel
theorem dX11_needRange_14 : decode cX11_needRange 14 = .ok (.iconst 0, 1) := by decide +kernel
theorem dX11_needRange_15 : decode cX11_needRange 15 = .ok (.invokevirtual 281, 3) := by decide +kernel
theorem dX11_needRange_18 : decode cX11_needRange 18 = .ok (.return_, 1) := by decide +kernel
theorem dX11_needBits_0 : decode cX11_needBits 0 = .ok (.aload_n 0, 1) := by decide +kernel
theorem dX11_needBits_1 : decode cX11_needBits 1 = .ok (.iload_n 1, 1) := by decide +kernel
theorem dX11_needBits_2 : decode cX11_needBits 2 = .ok (.aload_n 0, 1) := by decide +kernel
theorem dX11_needBits_3 : decode cX11_needBits 3 = .ok (.getfield 19, 3) := by decide +kernel
theorem dX11_needBits_6 : decode cX11_needBits 6 = .ok (.invokevirtual 297, 3) := by decide +kernel
theorem dX11_needBits_9 : decode cX11_needBits 9 = .ok (.iconst (-1), 1) := by decide +kernel
theorem dX11_needBits_10 : decode cX11_needBits 10 = .ok (.ixor, 1) := by decide +kernel
theorem dX11_needBits_11 : decode cX11_needBits 11 = .ok (.iand, 1) := by decide +kernel
theorem dX11_needBits_12 : decode cX11_needBits 12 = .ok (.ifCond .ne 7, 3) := by decide +kernel
theorem dX11_needBits_15 : decode cX11_needBits 15 = .ok (.iconst 1, 1) := by decide +kernel
theorem dX11_needBits_16 : decode cX11_needBits 16 = .ok (.goto 4, 3) := by decide +kernel
theorem dX11_needBits_19 : decode cX11_needBits 19 = .ok (.iconst 0, 1) := by decide +kernel
theorem dX11_needBits_20 : decode cX11_needBits 20 = .ok (.invokevirtual 281, 3) := by decide +kernel
theorem dX11_needBits_23 : decode cX11_needBits 23 = .ok (.return_, 1) := by decide +kernel
theorem dX11_needYears_0 : decode cX11_needYears 0 = .ok (.aload_n 0, 1) := by decide +kernel
theorem dX11_needYears_1 : decode cX11_needYears 1 = .ok (.iload_n 1, 1) := by decide +kernel
theorem dX11_needYears_2 : decode cX11_needYears 2 = .ok (.iconst 1, 1) := by decide +kernel
theorem dX11_needYears_3 : decode cX11_needYears 3 = .ok (.if_icmp .lt 13, 3) := by decide +kernel
theorem dX11_needYears_6 : decode cX11_needYears 6 = .ok (.iload_n 1, 1) := by decide +kernel
theorem dX11_needYears_7 : decode cX11_needYears 7 = .ok (.bipush 96, 2) := by decide +kernel
theorem dX11_needYears_9 : decode cX11_needYears 9 = .ok (.if_icmp .gt 7, 3) := by decide +kernel
theorem dX11_needYears_12 : decode cX11_needYears 12 = .ok (.iconst 1, 1) := by decide +kernel
theorem dX11_needYears_13 : decode cX11_needYears 13 = .ok (.goto 4, 3) := by decide +kernel
theorem dX11_needYears_16 : decode cX11_needYears 16 = .ok (.iconst 0, 1) := by decide +kernel
theorem dX11_needYears_17 : decode cX11_needYears 17 = .ok (.invokevirtual 281, 3) := by decide +kernel
theorem dX11_needYears_20 : decode cX11_needYears 20 = .ok (.aload_n 0, 1) := by decide +kernel
theorem dX11_needYears_21 : decode cX11_needYears 21 = .ok (.iload_n 2, 1) := by decide +kernel
theorem dX11_needYears_22 : decode cX11_needYears 22 = .ok (.bipush 16, 2) := by decide +kernel
theorem dX11_needYears_24 : decode cX11_needYears 24 = .ok (.invokevirtual 179, 3) := by decide +kernel
theorem dX11_needYears_27 : decode cX11_needYears 27 = .ok (.return_, 1) := by decide +kernel
theorem dX11_needElement_0 : decode cX11_needElement 0 = .ok (.iload_n 1, 1) := by decide +kernel
theorem dX11_needElement_1 : decode cX11_needElement 1 = .ok (.ifCond .ne 24, 3) := by decide +kernel
theorem dX11_needElement_4 : decode cX11_needElement 4 = .ok (.aload_n 0, 1) := by decide +kernel
theorem dX11_needElement_5 : decode cX11_needElement 5 = .ok (.dup, 1) := by decide +kernel
theorem dX11_needElement_6 : decode cX11_needElement 6 = .ok (.getfield 387, 3) := by decide +kernel
theorem dX11_needElement_9 : decode cX11_needElement 9 = .ok (.iconst 1, 1) := by decide +kernel
theorem dX11_needElement_10 : decode cX11_needElement 10 = .ok (.iadd, 1) := by decide +kernel
theorem dX11_needElement_11 : decode cX11_needElement 11 = .ok (.putfield 387, 3) := by decide +kernel
theorem dX11_needElement_14 : decode cX11_needElement 14 = .ok (.new 399, 3) := by decide +kernel
theorem dX11_needElement_17 : decode cX11_needElement 17 = .ok (.dup, 1) := by decide +kernel
theorem dX11_needElement_18 : decode cX11_needElement 18 = .ok (.ldc_w 401, 3) := by decide +kernel
theorem dX11_needElement_21 : decode cX11_needElement 21 = .ok (.invokespecial 403, 3) := by decide +kernel
theorem dX11_needElement_24 : decode cX11_needElement 24 = .ok (.athrow, 1) := by decide +kernel
theorem dX11_needElement_25 : decode cX11_needElement 25 = .ok (.return_, 1) := by decide +kernel
theorem dX11_needArgument_0 : decode cX11_needArgument 0 = .ok (.iload_n 1, 1) := by decide +kernel
theorem dX11_needArgument_1 : decode cX11_needArgument 1 = .ok (.ifCond .ne 24, 3) := by decide +kernel
theorem dX11_needArgument_4 : decode cX11_needArgument 4 = .ok (.aload_n 0, 1) := by decide +kernel
theorem dX11_needArgument_5 : decode cX11_needArgument 5 = .ok (.dup, 1) := by decide +kernel
theorem dX11_needArgument_6 : decode cX11_needArgument 6 = .ok (.getfield 390, 3) := by decide +kernel
theorem dX11_needArgument_9 : decode cX11_needArgument 9 = .ok (.iconst 1, 1) := by decide +kernel
theorem dX11_needArgument_10 : decode cX11_needArgument 10 = .ok (.iadd, 1) := by decide +kernel
theorem dX11_needArgument_11 : decode cX11_needArgument 11 = .ok (.putfield 390, 3) := by decide +kernel
theorem dX11_needArgument_14 : decode cX11_needArgument 14 = .ok (.new 406, 3) := by decide +kernel
theorem dX11_needArgument_17 : decode cX11_needArgument 17 = .ok (.dup, 1) := by decide +kernel
theorem dX11_needArgument_18 : decode cX11_needArgument 18 = .ok (.ldc_w 408, 3) := by decide +kernel
theorem dX11_needArgument_21 : decode cX11_needArgument 21 = .ok (.invokespecial 410, 3) := by decide +kernel
theorem dX11_needArgument_24 : decode cX11_needArgument 24 = .ok (.athrow, 1) := by decide +kernel
theorem dX11_needArgument_25 : decode cX11_needArgument 25 = .ok (.return_, 1) := by decide +kernel
theorem dX11_firstHas_0 : decode cX11_firstHas 0 = .ok (.iload_n 1, 1) := by decide +kernel
theorem dX11_firstHas_1 : decode cX11_firstHas 1 = .ok (.iload_n 2, 1) := by decide +kernel
theorem dX11_firstHas_2 : decode cX11_firstHas 2 = .ok (.if_icmp .lt 9, 3) := by decide +kernel
theorem dX11_firstHas_5 : decode cX11_firstHas 5 = .ok (.iload_n 0, 1) := by decide +kernel
theorem dX11_firstHas_6 : decode cX11_firstHas 6 = .ok (.iload_n 2, 1) := by decide +kernel
theorem dX11_firstHas_7 : decode cX11_firstHas 7 = .ok (.isub, 1) := by decide +kernel
theorem dX11_firstHas_8 : decode cX11_firstHas 8 = .ok (.goto 4, 3) := by decide +kernel
theorem dX11_firstHas_11 : decode cX11_firstHas 11 = .ok (.iconst 0, 1) := by decide +kernel
theorem dX11_firstHas_12 : decode cX11_firstHas 12 = .ok (.ireturn, 1) := by decide +kernel
theorem dX11_secondHas_0 : decode cX11_secondHas 0 = .ok (.iload_n 2, 1) := by decide +kernel
theorem dX11_secondHas_1 : decode cX11_secondHas 1 = .ok (.iload_n 1, 1) := by decide +kernel
theorem dX11_secondHas_2 : decode cX11_secondHas 2 = .ok (.if_icmp .le 9, 3) := by decide +kernel
theorem dX11_secondHas_5 : decode cX11_secondHas 5 = .ok (.iload_n 0, 1) := by decide +kernel
theorem dX11_secondHas_6 : decode cX11_secondHas 6 = .ok (.iload_n 1, 1) := by decide +kernel
theorem dX11_secondHas_7 : decode cX11_secondHas 7 = .ok (.isub, 1) := by decide +kernel
theorem dX11_secondHas_8 : decode cX11_secondHas 8 = .ok (.goto 4, 3) := by decide +kernel
theorem dX11_secondHas_11 : decode cX11_secondHas 11 = .ok (.iconst 0, 1) := by decide +kernel
theorem dX11_secondHas_12 : decode cX11_secondHas 12 = .ok (.ireturn, 1) := by decide +kernel
theorem dX11_rest_0 : decode cX11_rest 0 = .ok (.iconst 0, 1) := by decide +kernel
theorem dX11_rest_1 : decode cX11_rest 1 = .ok (.istore 5, 2) := by decide +kernel
theorem dX11_rest_3 : decode cX11_rest 3 = .ok (.iload 5, 2) := by decide +kernel
theorem dX11_rest_5 : decode cX11_rest 5 = .ok (.iload_n 0, 1) := by decide +kernel
theorem dX11_rest_6 : decode cX11_rest 6 = .ok (.if_icmp .gt 46, 3) := by decide +kernel
theorem dX11_rest_9 : decode cX11_rest 9 = .ok (.iload_n 1, 1) := by decide +kernel
theorem dX11_rest_10 : decode cX11_rest 10 = .ok (.iload 5, 2) := by decide +kernel
theorem dX11_rest_12 : decode cX11_rest 12 = .ok (.iload 4, 2) := by decide +kernel
theorem dX11_rest_14 : decode cX11_rest 14 = .ok (.invokestatic 338, 3) := by decide +kernel
theorem dX11_rest_17 : decode cX11_rest 17 = .ok (.iload_n 1, 1) := by decide +kernel
theorem dX11_rest_18 : decode cX11_rest 18 = .ok (.iload_n 3, 1) := by decide +kernel
theorem dX11_rest_19 : decode cX11_rest 19 = .ok (.iload 4, 2) := by decide +kernel
theorem dX11_rest_21 : decode cX11_rest 21 = .ok (.invokestatic 338, 3) := by decide +kernel
theorem dX11_rest_24 : decode cX11_rest 24 = .ok (.if_icmp .gt 20, 3) := by decide +kernel
theorem dX11_rest_27 : decode cX11_rest 27 = .ok (.iload_n 2, 1) := by decide +kernel
theorem dX11_rest_28 : decode cX11_rest 28 = .ok (.iload_n 3, 1) := by decide +kernel
theorem dX11_rest_29 : decode cX11_rest 29 = .ok (.iload 5, 2) := by decide +kernel
theorem dX11_rest_31 : decode cX11_rest 31 = .ok (.invokestatic 342, 3) := by decide +kernel
theorem dX11_rest_34 : decode cX11_rest 34 = .ok (.iload_n 2, 1) := by decide +kernel
theorem dX11_rest_35 : decode cX11_rest 35 = .ok (.iload_n 3, 1) := by decide +kernel
theorem dX11_rest_36 : decode cX11_rest 36 = .ok (.iload 4, 2) := by decide +kernel
theorem dX11_rest_38 : decode cX11_rest 38 = .ok (.invokestatic 342, 3) := by decide +kernel
theorem dX11_rest_41 : decode cX11_rest 41 = .ok (.if_icmp .le 5, 3) := by decide +kernel
theorem dX11_rest_44 : decode cX11_rest 44 = .ok (.iconst 0, 1) := by decide +kernel
theorem dX11_rest_45 : decode cX11_rest 45 = .ok (.ireturn, 1) := by decide +kernel
theorem dX11_rest_46 : decode cX11_rest 46 = .ok (.iinc 5 1, 3) := by decide +kernel
theorem dX11_rest_49 : decode cX11_rest 49 = .ok (.goto (-46), 3) := by decide +kernel
theorem dX11_rest_52 : decode cX11_rest 52 = .ok (.iconst 1, 1) := by decide +kernel
theorem dX11_rest_53 : decode cX11_rest 53 = .ok (.ireturn, 1) := by decide +kernel
