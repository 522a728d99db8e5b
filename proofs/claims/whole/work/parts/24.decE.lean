theorem dX12_plate_7 : decode cX12_plate 7 = .ok (.iload_n 1, 1) := by decide +kernel
theorem dX12_plate_8 : decode cX12_plate 8 = .ok (.invokevirtual 299, 3) := by decide +kernel
theorem dX12_plate_11 : decode cX12_plate 11 = .ok (.ifCond .ne 7, 3) := by decide +kernel
theorem dX12_plate_14 : decode cX12_plate 14 = .ok (.iconst 1, 1) := by decide +kernel
theorem dX12_plate_15 : decode cX12_plate 15 = .ok (.goto 4, 3) := by decide +kernel
theorem dX12_plate_18 : decode cX12_plate 18 = .ok (.iconst 0, 1) := by decide +kernel
theorem dX12_plate_19 : decode cX12_plate 19 = .ok (.iconst 1, 1) := by decide +kernel
theorem dX12_plate_20 : decode cX12_plate 20 = .ok (.iconst 0, 1) := by decide +kernel
theorem dX12_plate_21 : decode cX12_plate 21 = .ok (.invokevirtual 167, 3) := by decide +kernel
theorem dX12_plate_24 : decode cX12_plate 24 = .ok (.ifCond .ne 26, 3) := by decide +kernel
theorem dX12_plate_27 : decode cX12_plate 27 = .ok (.aload_n 0, 1) := by decide +kernel
theorem dX12_plate_28 : decode cX12_plate 28 = .ok (.iload_n 2, 1) := by decide +kernel
theorem dX12_plate_29 : decode cX12_plate 29 = .ok (.iconst 0, 1) := by decide +kernel
theorem dX12_plate_30 : decode cX12_plate 30 = .ok (.iconst 5, 1) := by decide +kernel
theorem dX12_plate_31 : decode cX12_plate 31 = .ok (.invokestatic 128, 3) := by decide +kernel
theorem dX12_plate_34 : decode cX12_plate 34 = .ok (.ifCond .ne 7, 3) := by decide +kernel
theorem dX12_plate_37 : decode cX12_plate 37 = .ok (.iconst 1, 1) := by decide +kernel
theorem dX12_plate_38 : decode cX12_plate 38 = .ok (.goto 4, 3) := by decide +kernel
theorem dX12_plate_41 : decode cX12_plate 41 = .ok (.iconst 0, 1) := by decide +kernel
theorem dX12_plate_42 : decode cX12_plate 42 = .ok (.iconst 2, 1) := by decide +kernel
theorem dX12_plate_43 : decode cX12_plate 43 = .ok (.iconst 1, 1) := by decide +kernel
theorem dX12_plate_44 : decode cX12_plate 44 = .ok (.invokevirtual 167, 3) := by decide +kernel
theorem dX12_plate_47 : decode cX12_plate 47 = .ok (.ifCond .eq 5, 3) := by decide +kernel
theorem dX12_plate_50 : decode cX12_plate 50 = .ok (.iconst 0, 1) := by decide +kernel
theorem dX12_plate_51 : decode cX12_plate 51 = .ok (.ireturn, 1) := by decide +kernel
theorem dX12_plate_52 : decode cX12_plate 52 = .ok (.iload_n 2, 1) := by decide +kernel
theorem dX12_plate_53 : decode cX12_plate 53 = .ok (.iconst 5, 1) := by decide +kernel
theorem dX12_plate_54 : decode cX12_plate 54 = .ok (.if_icmp .ge 15, 3) := by decide +kernel
theorem dX12_plate_57 : decode cX12_plate 57 = .ok (.aload_n 0, 1) := by decide +kernel
theorem dX12_plate_58 : decode cX12_plate 58 = .ok (.getfield 61, 3) := by decide +kernel
theorem dX12_plate_61 : decode cX12_plate 61 = .ok (.iload_n 1, 1) := by decide +kernel
theorem dX12_plate_62 : decode cX12_plate 62 = .ok (.iload_n 2, 1) := by decide +kernel
theorem dX12_plate_63 : decode cX12_plate 63 = .ok (.invokestatic 263, 3) := by decide +kernel
theorem dX12_plate_66 : decode cX12_plate 66 = .ok (.goto 16, 3) := by decide +kernel
theorem dX12_plate_69 : decode cX12_plate 69 = .ok (.aload_n 0, 1) := by decide +kernel
theorem dX12_plate_70 : decode cX12_plate 70 = .ok (.aload_n 0, 1) := by decide +kernel
theorem dX12_plate_71 : decode cX12_plate 71 = .ok (.getfield 61, 3) := by decide +kernel
theorem dX12_plate_74 : decode cX12_plate 74 = .ok (.iload_n 1, 1) := by decide +kernel
theorem dX12_plate_75 : decode cX12_plate 75 = .ok (.iconst 3, 1) := by decide +kernel
theorem dX12_plate_76 : decode cX12_plate 76 = .ok (.invokestatic 263, 3) := by decide +kernel
theorem dX12_plate_79 : decode cX12_plate 79 = .ok (.invokevirtual 302, 3) := by decide +kernel
theorem dX12_plate_82 : decode cX12_plate 82 = .ok (.ireturn, 1) := by decide +kernel
theorem dX12_hall_0 : decode cX12_hall 0 = .ok (.aload_n 0, 1) := by decide +kernel
theorem dX12_hall_1 : decode cX12_hall 1 = .ok (.iconst 0, 1) := by decide +kernel
theorem dX12_hall_2 : decode cX12_hall 2 = .ok (.putfield 94, 3) := by decide +kernel
theorem dX12_hall_5 : decode cX12_hall 5 = .ok (.aload_n 0, 1) := by decide +kernel
theorem dX12_hall_6 : decode cX12_hall 6 = .ok (.iload_n 1, 1) := by decide +kernel
theorem dX12_hall_7 : decode cX12_hall 7 = .ok (.invokestatic 305, 3) := by decide +kernel
theorem dX12_hall_10 : decode cX12_hall 10 = .ok (.ifCond .ne 7, 3) := by decide +kernel
theorem dX12_hall_13 : decode cX12_hall 13 = .ok (.iconst 1, 1) := by decide +kernel
theorem dX12_hall_14 : decode cX12_hall 14 = .ok (.goto 4, 3) := by decide +kernel
theorem dX12_hall_17 : decode cX12_hall 17 = .ok (.iconst 0, 1) := by decide +kernel
theorem dX12_hall_18 : decode cX12_hall 18 = .ok (.iconst 1, 1) := by decide +kernel
theorem dX12_hall_19 : decode cX12_hall 19 = .ok (.iconst 0, 1) := by decide +kernel
theorem dX12_hall_20 : decode cX12_hall 20 = .ok (.invokevirtual 167, 3) := by decide +kernel
theorem dX12_hall_23 : decode cX12_hall 23 = .ok (.ifCond .ne 26, 3) := by decide +kernel
theorem dX12_hall_26 : decode cX12_hall 26 = .ok (.aload_n 0, 1) := by decide +kernel
theorem dX12_hall_27 : decode cX12_hall 27 = .ok (.iload_n 2, 1) := by decide +kernel
theorem dX12_hall_28 : decode cX12_hall 28 = .ok (.iconst 0, 1) := by decide +kernel
theorem dX12_hall_29 : decode cX12_hall 29 = .ok (.iconst 3, 1) := by decide +kernel
theorem dX12_hall_30 : decode cX12_hall 30 = .ok (.invokestatic 128, 3) := by decide +kernel
theorem dX12_hall_33 : decode cX12_hall 33 = .ok (.ifCond .ne 7, 3) := by decide +kernel
theorem dX12_hall_36 : decode cX12_hall 36 = .ok (.iconst 1, 1) := by decide +kernel
theorem dX12_hall_37 : decode cX12_hall 37 = .ok (.goto 4, 3) := by decide +kernel
theorem dX12_hall_40 : decode cX12_hall 40 = .ok (.iconst 0, 1) := by decide +kernel
theorem dX12_hall_41 : decode cX12_hall 41 = .ok (.iconst 2, 1) := by decide +kernel
theorem dX12_hall_42 : decode cX12_hall 42 = .ok (.iconst 1, 1) := by decide +kernel
theorem dX12_hall_43 : decode cX12_hall 43 = .ok (.invokevirtual 167, 3) := by decide +kernel
theorem dX12_hall_46 : decode cX12_hall 46 = .ok (.ifCond .eq 5, 3) := by decide +kernel
theorem dX12_hall_49 : decode cX12_hall 49 = .ok (.iconst 0, 1) := by decide +kernel
theorem dX12_hall_50 : decode cX12_hall 50 = .ok (.ireturn, 1) := by decide +kernel
theorem dX12_hall_51 : decode cX12_hall 51 = .ok (.iconst 0, 1) := by decide +kernel
theorem dX12_hall_52 : decode cX12_hall 52 = .ok (.istore_n 3, 1) := by decide +kernel
theorem dX12_hall_53 : decode cX12_hall 53 = .ok (.iconst 0, 1) := by decide +kernel
theorem dX12_hall_54 : decode cX12_hall 54 = .ok (.istore 4, 2) := by decide +kernel
theorem dX12_hall_56 : decode cX12_hall 56 = .ok (.iconst 0, 1) := by decide +kernel
theorem dX12_hall_57 : decode cX12_hall 57 = .ok (.istore 5, 2) := by decide +kernel
theorem dX12_hall_59 : decode cX12_hall 59 = .ok (.iconst 0, 1) := by decide +kernel
theorem dX12_hall_60 : decode cX12_hall 60 = .ok (.istore 6, 2) := by decide +kernel
theorem dX12_hall_62 : decode cX12_hall 62 = .ok (.iconst 0, 1) := by decide +kernel
theorem dX12_hall_63 : decode cX12_hall 63 = .ok (.istore 7, 2) := by decide +kernel
theorem dX12_hall_65 : decode cX12_hall 65 = .ok (.iload 7, 2) := by decide +kernel
theorem dX12_hall_67 : decode cX12_hall 67 = .ok (.aload_n 0, 1) := by decide +kernel
theorem dX12_hall_68 : decode cX12_hall 68 = .ok (.getfield 61, 3) := by decide +kernel
theorem dX12_hall_71 : decode cX12_hall 71 = .ok (.bipush 24, 2) := by decide +kernel
theorem dX12_hall_73 : decode cX12_hall 73 = .ok (.iaload, 1) := by decide +kernel
theorem dX12_hall_74 : decode cX12_hall 74 = .ok (.if_icmp .ge 84, 3) := by decide +kernel
theorem dX12_hall_77 : decode cX12_hall 77 = .ok (.aload_n 0, 1) := by decide +kernel
theorem dX12_hall_78 : decode cX12_hall 78 = .ok (.getfield 61, 3) := by decide +kernel
theorem dX12_hall_81 : decode cX12_hall 81 = .ok (.iload 7, 2) := by decide +kernel
theorem dX12_hall_83 : decode cX12_hall 83 = .ok (.iconst 2, 1) := by decide +kernel
theorem dX12_hall_84 : decode cX12_hall 84 = .ok (.invokestatic 263, 3) := by decide +kernel
theorem dX12_hall_87 : decode cX12_hall 87 = .ok (.iload_n 1, 1) := by decide +kernel
theorem dX12_hall_88 : decode cX12_hall 88 = .ok (.if_icmp .eq 6, 3) := by decide +kernel
theorem dX12_hall_91 : decode cX12_hall 91 = .ok (.goto 61, 3) := by decide +kernel
theorem dX12_hall_94 : decode cX12_hall 94 = .ok (.iinc 3 1, 3) := by decide +kernel
theorem dX12_hall_97 : decode cX12_hall 97 = .ok (.iload 4, 2) := by decide +kernel
theorem dX12_hall_99 : decode cX12_hall 99 = .ok (.iconst 1, 1) := by decide +kernel
theorem dX12_hall_100 : decode cX12_hall 100 = .ok (.aload_n 0, 1) := by decide +kernel
theorem dX12_hall_101 : decode cX12_hall 101 = .ok (.getfield 61, 3) := by decide +kernel
theorem dX12_hall_104 : decode cX12_hall 104 = .ok (.iload 7, 2) := by decide +kernel
theorem dX12_hall_106 : decode cX12_hall 106 = .ok (.iconst 0, 1) := by decide +kernel
theorem dX12_hall_107 : decode cX12_hall 107 = .ok (.invokestatic 263, 3) := by decide +kernel
theorem dX12_hall_110 : decode cX12_hall 110 = .ok (.ishl, 1) := by decide +kernel
theorem dX12_hall_111 : decode cX12_hall 111 = .ok (.ior, 1) := by decide +kernel
theorem dX12_hall_112 : decode cX12_hall 112 = .ok (.istore 4, 2) := by decide +kernel
theorem dX12_hall_114 : decode cX12_hall 114 = .ok (.iload 5, 2) := by decide +kernel
theorem dX12_hall_116 : decode cX12_hall 116 = .ok (.iconst 1, 1) := by decide +kernel
theorem dX12_hall_117 : decode cX12_hall 117 = .ok (.aload_n 0, 1) := by decide +kernel
theorem dX12_hall_118 : decode cX12_hall 118 = .ok (.getfield 61, 3) := by decide +kernel
theorem dX12_hall_121 : decode cX12_hall 121 = .ok (.iload 7, 2) := by decide +kernel
theorem dX12_hall_123 : decode cX12_hall 123 = .ok (.iconst 1, 1) := by decide +kernel
theorem dX12_hall_124 : decode cX12_hall 124 = .ok (.invokestatic 263, 3) := by decide +kernel
theorem dX12_hall_127 : decode cX12_hall 127 = .ok (.ishl, 1) := by decide +kernel
theorem dX12_hall_128 : decode cX12_hall 128 = .ok (.ior, 1) := by decide +kernel
theorem dX12_hall_129 : decode cX12_hall 129 = .ok (.istore 5, 2) := by decide +kernel
theorem dX12_hall_131 : decode cX12_hall 131 = .ok (.iload 6, 2) := by decide +kernel
theorem dX12_hall_133 : decode cX12_hall 133 = .ok (.iconst 1, 1) := by decide +kernel
theorem dX12_hall_134 : decode cX12_hall 134 = .ok (.aload_n 0, 1) := by decide +kernel
theorem dX12_hall_135 : decode cX12_hall 135 = .ok (.aload_n 0, 1) := by decide +kernel
theorem dX12_hall_136 : decode cX12_hall 136 = .ok (.getfield 61, 3) := by decide +kernel
theorem dX12_hall_139 : decode cX12_hall 139 = .ok (.iload 7, 2) := by decide +kernel
theorem dX12_hall_141 : decode cX12_hall 141 = .ok (.iconst 3, 1) := by decide +kernel
theorem dX12_hall_142 : decode cX12_hall 142 = .ok (.invokestatic 263, 3) := by decide +kernel
theorem dX12_hall_145 : decode cX12_hall 145 = .ok (.invokevirtual 302, 3) := by decide +kernel
theorem dX12_hall_148 : decode cX12_hall 148 = .ok (.ishl, 1) := by decide +kernel
theorem dX12_hall_149 : decode cX12_hall 149 = .ok (.ior, 1) := by decide +kernel
theorem dX12_hall_150 : decode cX12_hall 150 = .ok (.istore 6, 2) := by decide +kernel
theorem dX12_hall_152 : decode cX12_hall 152 = .ok (.iinc 7 1, 3) := by decide +kernel
theorem dX12_hall_155 : decode cX12_hall 155 = .ok (.goto (-90), 3) := by decide +kernel
theorem dX12_hall_158 : decode cX12_hall 158 = .ok (.iload_n 2, 1) := by decide +kernel
theorem dX12_hall_159 : decode cX12_hall 159 = .ok (.ifCond .ne 7, 3) := by decide +kernel
theorem dX12_hall_162 : decode cX12_hall 162 = .ok (.iload_n 3, 1) := by decide +kernel
theorem dX12_hall_163 : decode cX12_hall 163 = .ok (.goto 25, 3) := by decide +kernel
theorem dX12_hall_166 : decode cX12_hall 166 = .ok (.iload_n 2, 1) := by decide +kernel
theorem dX12_hall_167 : decode cX12_hall 167 = .ok (.iconst 1, 1) := by decide +kernel
theorem dX12_hall_168 : decode cX12_hall 168 = .ok (.if_icmp .ne 8, 3) := by decide +kernel
theorem dX12_hall_171 : decode cX12_hall 171 = .ok (.iload 4, 2) := by decide +kernel
theorem dX12_hall_173 : decode cX12_hall 173 = .ok (.goto 15, 3) := by decide +kernel
theorem dX12_hall_176 : decode cX12_hall 176 = .ok (.iload_n 2, 1) := by decide +kernel
theorem dX12_hall_177 : decode cX12_hall 177 = .ok (.iconst 2, 1) := by decide +kernel
theorem dX12_hall_178 : decode cX12_hall 178 = .ok (.if_icmp .ne 8, 3) := by decide +kernel
theorem dX12_hall_181 : decode cX12_hall 181 = .ok (.iload 5, 2) := by decide +kernel
theorem dX12_hall_183 : decode cX12_hall 183 = .ok (.goto 5, 3) := by decide +kernel
theorem dX12_hall_186 : decode cX12_hall 186 = .ok (.iload 6, 2) := by decide +kernel
theorem dX12_hall_188 : decode cX12_hall 188 = .ok (.ireturn, 1) := by decide +kernel
theorem dX12_shown_0 : decode cX12_shown 0 = .ok (.aload_n 0, 1) := by decide +kernel
theorem dX12_shown_1 : decode cX12_shown 1 = .ok (.iconst 0, 1) := by decide +kernel
theorem dX12_shown_2 : decode cX12_shown 2 = .ok (.putfield 94, 3) := by decide +kernel
theorem dX12_shown_5 : decode cX12_shown 5 = .ok (.aload_n 0, 1) := by decide +kernel
theorem dX12_shown_6 : decode cX12_shown 6 = .ok (.aload_n 0, 1) := by decide +kernel
theorem dX12_shown_7 : decode cX12_shown 7 = .ok (.iload_n 1, 1) := by decide +kernel
theorem dX12_shown_8 : decode cX12_shown 8 = .ok (.invokevirtual 296, 3) := by decide +kernel
theorem dX12_shown_11 : decode cX12_shown 11 = .ok (.ifCond .eq 18, 3) := by decide +kernel
theorem dX12_shown_14 : decode cX12_shown 14 = .ok (.aload_n 0, 1) := by decide +kernel
theorem dX12_shown_15 : decode cX12_shown 15 = .ok (.iload_n 2, 1) := by decide +kernel
theorem dX12_shown_16 : decode cX12_shown 16 = .ok (.invokevirtual 296, 3) := by decide +kernel
theorem dX12_shown_19 : decode cX12_shown 19 = .ok (.ifCond .eq 10, 3) := by decide +kernel
theorem dX12_shown_22 : decode cX12_shown 22 = .ok (.iload_n 3, 1) := by decide +kernel
theorem dX12_shown_23 : decode cX12_shown 23 = .ok (.invokestatic 305, 3) := by decide +kernel
theorem dX12_shown_26 : decode cX12_shown 26 = .ok (.ifCond .ne 7, 3) := by decide +kernel
theorem dX12_shown_29 : decode cX12_shown 29 = .ok (.iconst 1, 1) := by decide +kernel
theorem dX12_shown_30 : decode cX12_shown 30 = .ok (.goto 4, 3) := by decide +kernel
theorem dX12_shown_33 : decode cX12_shown 33 = .ok (.iconst 0, 1) := by decide +kernel
theorem dX12_shown_34 : decode cX12_shown 34 = .ok (.iconst 1, 1) := by decide +kernel
theorem dX12_shown_35 : decode cX12_shown 35 = .ok (.iconst 0, 1) := by decide +kernel
theorem dX12_shown_36 : decode cX12_shown 36 = .ok (.invokevirtual 167, 3) := by decide +kernel
theorem dX12_shown_39 : decode cX12_shown 39 = .ok (.ifCond .eq 5, 3) := by decide +kernel
theorem dX12_shown_42 : decode cX12_shown 42 = .ok (.iconst 0, 1) := by decide +kernel
theorem dX12_shown_43 : decode cX12_shown 43 = .ok (.ireturn, 1) := by decide +kernel
theorem dX12_shown_44 : decode cX12_shown 44 = .ok (.aload_n 0, 1) := by decide +kernel
theorem dX12_shown_45 : decode cX12_shown 45 = .ok (.aload_n 0, 1) := by decide +kernel
theorem dX12_shown_46 : decode cX12_shown 46 = .ok (.getfield 61, 3) := by decide +kernel
theorem dX12_shown_49 : decode cX12_shown 49 = .ok (.iload_n 1, 1) := by decide +kernel
theorem dX12_shown_50 : decode cX12_shown 50 = .ok (.iload_n 2, 1) := by decide +kernel
theorem dX12_shown_51 : decode cX12_shown 51 = .ok (.iload_n 3, 1) := by decide +kernel
theorem dX12_shown_52 : decode cX12_shown 52 = .ok (.invokevirtual 259, 3) := by decide +kernel
theorem dX12_shown_55 : decode cX12_shown 55 = .ok (.ireturn, 1) := by decide +kernel
theorem dX12_would_0 : decode cX12_would 0 = .ok (.aload_n 0, 1) := by decide +kernel
theorem dX12_would_1 : decode cX12_would 1 = .ok (.iconst 0, 1) := by decide +kernel
theorem dX12_would_2 : decode cX12_would 2 = .ok (.putfield 94, 3) := by decide +kernel
theorem dX12_would_5 : decode cX12_would 5 = .ok (.aload_n 0, 1) := by decide +kernel
theorem dX12_would_6 : decode cX12_would 6 = .ok (.iload_n 1, 1) := by decide +kernel
theorem dX12_would_7 : decode cX12_would 7 = .ok (.invokestatic 308, 3) := by decide +kernel
theorem dX12_would_10 : decode cX12_would 10 = .ok (.ifCond .eq 73, 3) := by decide +kernel
theorem dX12_would_13 : decode cX12_would 13 = .ok (.iload_n 2, 1) := by decide +kernel
theorem dX12_would_14 : decode cX12_would 14 = .ok (.iconst 0, 1) := by decide +kernel
theorem dX12_would_15 : decode cX12_would 15 = .ok (.bipush 9, 2) := by decide +kernel
theorem dX12_would_17 : decode cX12_would 17 = .ok (.invokestatic 128, 3) := by decide +kernel
theorem dX12_would_20 : decode cX12_would 20 = .ok (.ifCond .eq 63, 3) := by decide +kernel
theorem dX12_would_23 : decode cX12_would 23 = .ok (.iload_n 3, 1) := by decide +kernel
theorem dX12_would_24 : decode cX12_would 24 = .ok (.iconst 0, 1) := by decide +kernel
theorem dX12_would_25 : decode cX12_would 25 = .ok (.bipush 9, 2) := by decide +kernel
theorem dX12_would_27 : decode cX12_would 27 = .ok (.invokestatic 128, 3) := by decide +kernel
theorem dX12_would_30 : decode cX12_would 30 = .ok (.ifCond .eq 53, 3) := by decide +kernel
theorem dX12_would_33 : decode cX12_would 33 = .ok (.iload 4, 2) := by decide +kernel
theorem dX12_would_35 : decode cX12_would 35 = .ok (.invokestatic 308, 3) := by decide +kernel
theorem dX12_would_38 : decode cX12_would 38 = .ok (.ifCond .eq 45, 3) := by decide +kernel
theorem dX12_would_41 : decode cX12_would 41 = .ok (.iload 5, 2) := by decide +kernel
theorem dX12_would_43 : decode cX12_would 43 = .ok (.iconst 0, 1) := by decide +kernel
theorem dX12_would_44 : decode cX12_would 44 = .ok (.iconst 1, 1) := by decide +kernel
theorem dX12_would_45 : decode cX12_would 45 = .ok (.invokestatic 128, 3) := by decide +kernel
theorem dX12_would_48 : decode cX12_would 48 = .ok (.ifCond .eq 35, 3) := by decide +kernel
theorem dX12_would_51 : decode cX12_would 51 = .ok (.iload 6, 2) := by decide +kernel
theorem dX12_would_53 : decode cX12_would 53 = .ok (.iconst 0, 1) := by decide +kernel
theorem dX12_would_54 : decode cX12_would 54 = .ok (.sipush 200, 3) := by decide +kernel
theorem dX12_would_57 : decode cX12_would 57 = .ok (.invokestatic 128, 3) := by decide +kernel
theorem dX12_would_60 : decode cX12_would 60 = .ok (.ifCond .eq 23, 3) := by decide +kernel
theorem dX12_would_63 : decode cX12_would 63 = .ok (.iload 7, 2) := by decide +kernel
theorem dX12_would_65 : decode cX12_would 65 = .ok (.iconst 0, 1) := by decide +kernel
theorem dX12_would_66 : decode cX12_would 66 = .ok (.sipush 999, 3) := by decide +kernel
theorem dX12_would_69 : decode cX12_would 69 = .ok (.invokestatic 128, 3) := by decide +kernel
theorem dX12_would_72 : decode cX12_would 72 = .ok (.ifCond .eq 11, 3) := by decide +kernel
theorem dX12_would_75 : decode cX12_would 75 = .ok (.iload 8, 2) := by decide +kernel
theorem dX12_would_77 : decode cX12_would 77 = .ok (.invokestatic 305, 3) := by decide +kernel
theorem dX12_would_80 : decode cX12_would 80 = .ok (.ifCond .ne 7, 3) := by decide +kernel
theorem dX12_would_83 : decode cX12_would 83 = .ok (.iconst 1, 1) := by decide +kernel
theorem dX12_would_84 : decode cX12_would 84 = .ok (.goto 4, 3) := by decide +kernel
theorem dX12_would_87 : decode cX12_would 87 = .ok (.iconst 0, 1) := by decide +kernel
theorem dX12_would_88 : decode cX12_would 88 = .ok (.iconst 1, 1) := by decide +kernel
theorem dX12_would_89 : decode cX12_would 89 = .ok (.iconst 1, 1) := by decide +kernel
theorem dX12_would_90 : decode cX12_would 90 = .ok (.invokevirtual 167, 3) := by decide +kernel
theorem dX12_would_93 : decode cX12_would 93 = .ok (.ifCond .eq 5, 3) := by decide +kernel
theorem dX12_would_96 : decode cX12_would 96 = .ok (.iconst 0, 1) := by decide +kernel
theorem dX12_would_97 : decode cX12_would 97 = .ok (.ireturn, 1) := by decide +kernel
theorem dX12_would_98 : decode cX12_would 98 = .ok (.aload_n 0, 1) := by decide +kernel
theorem dX12_would_99 : decode cX12_would 99 = .ok (.getfield 55, 3) := by decide +kernel
theorem dX12_would_102 : decode cX12_would 102 = .ok (.iconst 0, 1) := by decide +kernel
theorem dX12_would_103 : decode cX12_would 103 = .ok (.iload_n 1, 1) := by decide +kernel
theorem dX12_would_104 : decode cX12_would 104 = .ok (.iastore, 1) := by decide +kernel
theorem dX12_would_105 : decode cX12_would 105 = .ok (.aload_n 0, 1) := by decide +kernel
theorem dX12_would_106 : decode cX12_would 106 = .ok (.getfield 55, 3) := by decide +kernel
theorem dX12_would_109 : decode cX12_would 109 = .ok (.iconst 1, 1) := by decide +kernel
theorem dX12_would_110 : decode cX12_would 110 = .ok (.iload_n 2, 1) := by decide +kernel
theorem dX12_would_111 : decode cX12_would 111 = .ok (.iastore, 1) := by decide +kernel
theorem dX12_would_112 : decode cX12_would 112 = .ok (.aload_n 0, 1) := by decide +kernel
theorem dX12_would_113 : decode cX12_would 113 = .ok (.getfield 55, 3) := by decide +kernel
theorem dX12_would_116 : decode cX12_would 116 = .ok (.iconst 2, 1) := by decide +kernel
theorem dX12_would_117 : decode cX12_would 117 = .ok (.iload_n 3, 1) := by decide +kernel
theorem dX12_would_118 : decode cX12_would 118 = .ok (.iastore, 1) := by decide +kernel
theorem dX12_would_119 : decode cX12_would 119 = .ok (.aload_n 0, 1) := by decide +kernel
theorem dX12_would_120 : decode cX12_would 120 = .ok (.getfield 55, 3) := by decide +kernel
theorem dX12_would_123 : decode cX12_would 123 = .ok (.iconst 3, 1) := by decide +kernel
theorem dX12_would_124 : decode cX12_would 124 = .ok (.iload 4, 2) := by decide +kernel
theorem dX12_would_126 : decode cX12_would 126 = .ok (.iastore, 1) := by decide +kernel
theorem dX12_would_127 : decode cX12_would 127 = .ok (.aload_n 0, 1) := by decide +kernel
theorem dX12_would_128 : decode cX12_would 128 = .ok (.getfield 55, 3) := by decide +kernel
theorem dX12_would_131 : decode cX12_would 131 = .ok (.iconst 4, 1) := by decide +kernel
theorem dX12_would_132 : decode cX12_would 132 = .ok (.iload 5, 2) := by decide +kernel
theorem dX12_would_134 : decode cX12_would 134 = .ok (.iastore, 1) := by decide +kernel
theorem dX12_would_135 : decode cX12_would 135 = .ok (.aload_n 0, 1) := by decide +kernel
theorem dX12_would_136 : decode cX12_would 136 = .ok (.getfield 55, 3) := by decide +kernel
theorem dX12_would_139 : decode cX12_would 139 = .ok (.iconst 5, 1) := by decide +kernel
theorem dX12_would_140 : decode cX12_would 140 = .ok (.iload 6, 2) := by decide +kernel
theorem dX12_would_142 : decode cX12_would 142 = .ok (.iastore, 1) := by decide +kernel
theorem dX12_would_143 : decode cX12_would 143 = .ok (.aload_n 0, 1) := by decide +kernel
theorem dX12_would_144 : decode cX12_would 144 = .ok (.getfield 55, 3) := by decide +kernel
theorem dX12_would_147 : decode cX12_would 147 = .ok (.bipush 6, 2) := by decide +kernel
theorem dX12_would_149 : decode cX12_would 149 = .ok (.iload 7, 2) := by decide +kernel
theorem dX12_would_151 : decode cX12_would 151 = .ok (.iastore, 1) := by decide +kernel
theorem dX12_would_152 : decode cX12_would 152 = .ok (.aload_n 0, 1) := by decide +kernel
theorem dX12_would_153 : decode cX12_would 153 = .ok (.getfield 55, 3) := by decide +kernel
theorem dX12_would_156 : decode cX12_would 156 = .ok (.bipush 7, 2) := by decide +kernel
theorem dX12_would_158 : decode cX12_would 158 = .ok (.iload 8, 2) := by decide +kernel
theorem dX12_would_160 : decode cX12_would 160 = .ok (.iastore, 1) := by decide +kernel
theorem dX12_would_161 : decode cX12_would 161 = .ok (.aload_n 0, 1) := by decide +kernel
theorem dX12_would_162 : decode cX12_would 162 = .ok (.invokevirtual 256, 3) := by decide +kernel
theorem dX12_would_165 : decode cX12_would 165 = .ok (.ireturn, 1) := by decide +kernel
theorem dX12_unlike_0 : decode cX12_unlike 0 = .ok (.aload_n 0, 1) := by decide +kernel
theorem dX12_unlike_1 : decode cX12_unlike 1 = .ok (.iconst 0, 1) := by decide +kernel
theorem dX12_unlike_2 : decode cX12_unlike 2 = .ok (.putfield 94, 3) := by decide +kernel
theorem dX12_unlike_5 : decode cX12_unlike 5 = .ok (.aload_n 0, 1) := by decide +kernel
theorem dX12_unlike_6 : decode cX12_unlike 6 = .ok (.iload_n 1, 1) := by decide +kernel
theorem dX12_unlike_7 : decode cX12_unlike 7 = .ok (.invokestatic 308, 3) := by decide +kernel
theorem dX12_unlike_10 : decode cX12_unlike 10 = .ok (.ifCond .eq 10, 3) := by decide +kernel
theorem dX12_unlike_13 : decode cX12_unlike 13 = .ok (.iload_n 2, 1) := by decide +kernel
theorem dX12_unlike_14 : decode cX12_unlike 14 = .ok (.invokestatic 308, 3) := by decide +kernel
theorem dX12_unlike_17 : decode cX12_unlike 17 = .ok (.ifCond .ne 7, 3) := by decide +kernel
theorem dX12_unlike_20 : decode cX12_unlike 20 = .ok (.iconst 1, 1) := by decide +kernel
theorem dX12_unlike_21 : decode cX12_unlike 21 = .ok (.goto 4, 3) := by decide +kernel
theorem dX12_unlike_24 : decode cX12_unlike 24 = .ok (.iconst 0, 1) := by decide +kernel
theorem dX12_unlike_25 : decode cX12_unlike 25 = .ok (.iconst 1, 1) := by decide +kernel
theorem dX12_unlike_26 : decode cX12_unlike 26 = .ok (.iconst 1, 1) := by decide +kernel
theorem dX12_unlike_27 : decode cX12_unlike 27 = .ok (.invokevirtual 167, 3) := by decide +kernel
theorem dX12_unlike_30 : decode cX12_unlike 30 = .ok (.ifCond .eq 5, 3) := by decide +kernel
theorem dX12_unlike_33 : decode cX12_unlike 33 = .ok (.iconst 0, 1) := by decide +kernel
theorem dX12_unlike_34 : decode cX12_unlike 34 = .ok (.ireturn, 1) := by decide +kernel
theorem dX12_unlike_35 : decode cX12_unlike 35 = .ok (.iload_n 1, 1) := by decide +kernel
theorem dX12_unlike_36 : decode cX12_unlike 36 = .ok (.iload_n 2, 1) := by decide +kernel
theorem dX12_unlike_37 : decode cX12_unlike 37 = .ok (.ixor, 1) := by decide +kernel
theorem dX12_unlike_38 : decode cX12_unlike 38 = .ok (.invokestatic 250, 3) := by decide +kernel
theorem dX12_unlike_41 : decode cX12_unlike 41 = .ok (.ireturn, 1) := by decide +kernel
theorem dX12_hadBy_0 : decode cX12_hadBy 0 = .ok (.iconst 0, 1) := by decide +kernel
theorem dX12_hadBy_1 : decode cX12_hadBy 1 = .ok (.istore_n 2, 1) := by decide +kernel
theorem dX12_hadBy_2 : decode cX12_hadBy 2 = .ok (.iconst 0, 1) := by decide +kernel
theorem dX12_hadBy_3 : decode cX12_hadBy 3 = .ok (.istore_n 3, 1) := by decide +kernel
theorem dX12_hadBy_4 : decode cX12_hadBy 4 = .ok (.iload_n 3, 1) := by decide +kernel
theorem dX12_hadBy_5 : decode cX12_hadBy 5 = .ok (.aload_n 1, 1) := by decide +kernel
theorem dX12_hadBy_6 : decode cX12_hadBy 6 = .ok (.bipush 24, 2) := by decide +kernel
theorem dX12_hadBy_8 : decode cX12_hadBy 8 = .ok (.iaload, 1) := by decide +kernel
theorem dX12_hadBy_9 : decode cX12_hadBy 9 = .ok (.if_icmp .ge 47, 3) := by decide +kernel
theorem dX12_hadBy_12 : decode cX12_hadBy 12 = .ok (.aload_n 1, 1) := by decide +kernel
theorem dX12_hadBy_13 : decode cX12_hadBy 13 = .ok (.iload_n 3, 1) := by decide +kernel
theorem dX12_hadBy_14 : decode cX12_hadBy 14 = .ok (.iconst 1, 1) := by decide +kernel
theorem dX12_hadBy_15 : decode cX12_hadBy 15 = .ok (.invokestatic 263, 3) := by decide +kernel
theorem dX12_hadBy_18 : decode cX12_hadBy 18 = .ok (.istore 4, 2) := by decide +kernel
theorem dX12_hadBy_20 : decode cX12_hadBy 20 = .ok (.iload_n 2, 1) := by decide +kernel
theorem dX12_hadBy_21 : decode cX12_hadBy 21 = .ok (.aload_n 0, 1) := by decide +kernel
theorem dX12_hadBy_22 : decode cX12_hadBy 22 = .ok (.aload_n 1, 1) := by decide +kernel
theorem dX12_hadBy_23 : decode cX12_hadBy 23 = .ok (.iload_n 3, 1) := by decide +kernel
theorem dX12_hadBy_24 : decode cX12_hadBy 24 = .ok (.iconst 3, 1) := by decide +kernel
theorem dX12_hadBy_25 : decode cX12_hadBy 25 = .ok (.invokestatic 263, 3) := by decide +kernel
theorem dX12_hadBy_28 : decode cX12_hadBy 28 = .ok (.aload_n 0, 1) := by decide +kernel
theorem dX12_hadBy_29 : decode cX12_hadBy 29 = .ok (.iload 4, 2) := by decide +kernel
theorem dX12_hadBy_31 : decode cX12_hadBy 31 = .ok (.invokevirtual 253, 3) := by decide +kernel
theorem dX12_hadBy_34 : decode cX12_hadBy 34 = .ok (.invokevirtual 311, 3) := by decide +kernel
theorem dX12_hadBy_37 : decode cX12_hadBy 37 = .ok (.ifCond .eq 10, 3) := by decide +kernel
theorem dX12_hadBy_40 : decode cX12_hadBy 40 = .ok (.iconst 1, 1) := by decide +kernel
theorem dX12_hadBy_41 : decode cX12_hadBy 41 = .ok (.iload 4, 2) := by decide +kernel
theorem dX12_hadBy_43 : decode cX12_hadBy 43 = .ok (.ishl, 1) := by decide +kernel
theorem dX12_hadBy_44 : decode cX12_hadBy 44 = .ok (.goto 4, 3) := by decide +kernel
theorem dX12_hadBy_47 : decode cX12_hadBy 47 = .ok (.iconst 0, 1) := by decide +kernel
theorem dX12_hadBy_48 : decode cX12_hadBy 48 = .ok (.ior, 1) := by decide +kernel
theorem dX12_hadBy_49 : decode cX12_hadBy 49 = .ok (.istore_n 2, 1) := by decide +kernel
theorem dX12_hadBy_50 : decode cX12_hadBy 50 = .ok (.iinc 3 1, 3) := by decide +kernel
theorem dX12_hadBy_53 : decode cX12_hadBy 53 = .ok (.goto (-49), 3) := by decide +kernel
theorem dX12_hadBy_56 : decode cX12_hadBy 56 = .ok (.iload_n 2, 1) := by decide +kernel
theorem dX12_hadBy_57 : decode cX12_hadBy 57 = .ok (.ireturn, 1) := by decide +kernel
theorem dX12_had_0 : decode cX12_had 0 = .ok (.aload_n 0, 1) := by decide +kernel
theorem dX12_had_1 : decode cX12_had 1 = .ok (.iconst 0, 1) := by decide +kernel
theorem dX12_had_2 : decode cX12_had 2 = .ok (.putfield 94, 3) := by decide +kernel
theorem dX12_had_5 : decode cX12_had 5 = .ok (.aload_n 0, 1) := by decide +kernel
theorem dX12_had_6 : decode cX12_had 6 = .ok (.aload_n 0, 1) := by decide +kernel
theorem dX12_had_7 : decode cX12_had 7 = .ok (.getfield 61, 3) := by decide +kernel
theorem dX12_had_10 : decode cX12_had 10 = .ok (.invokevirtual 314, 3) := by decide +kernel
theorem dX12_had_13 : decode cX12_had 13 = .ok (.ireturn, 1) := by decide +kernel
theorem dX12_mistaken_0 : decode cX12_mistaken 0 = .ok (.aload_n 0, 1) := by decide +kernel
theorem dX12_mistaken_1 : decode cX12_mistaken 1 = .ok (.iconst 0, 1) := by decide +kernel
theorem dX12_mistaken_2 : decode cX12_mistaken 2 = .ok (.putfield 94, 3) := by decide +kernel
theorem dX12_mistaken_5 : decode cX12_mistaken 5 = .ok (.iconst 0, 1) := by decide +kernel
theorem dX12_mistaken_6 : decode cX12_mistaken 6 = .ok (.istore_n 1, 1) := by decide +kernel
theorem dX12_mistaken_7 : decode cX12_mistaken 7 = .ok (.iload_n 1, 1) := by decide +kernel
theorem dX12_mistaken_8 : decode cX12_mistaken 8 = .ok (.aload_n 0, 1) := by decide +kernel
theorem dX12_mistaken_9 : decode cX12_mistaken 9 = .ok (.getfield 61, 3) := by decide +kernel
theorem dX12_mistaken_12 : decode cX12_mistaken 12 = .ok (.bipush 24, 2) := by decide +kernel
theorem dX12_mistaken_14 : decode cX12_mistaken 14 = .ok (.iaload, 1) := by decide +kernel
theorem dX12_mistaken_15 : decode cX12_mistaken 15 = .ok (.if_icmp .ge 36, 3) := by decide +kernel
theorem dX12_mistaken_18 : decode cX12_mistaken 18 = .ok (.aload_n 0, 1) := by decide +kernel
theorem dX12_mistaken_19 : decode cX12_mistaken 19 = .ok (.aload_n 0, 1) := by decide +kernel
theorem dX12_mistaken_20 : decode cX12_mistaken 20 = .ok (.getfield 61, 3) := by decide +kernel
theorem dX12_mistaken_23 : decode cX12_mistaken 23 = .ok (.iload_n 1, 1) := by decide +kernel
theorem dX12_mistaken_24 : decode cX12_mistaken 24 = .ok (.iconst 3, 1) := by decide +kernel
theorem dX12_mistaken_25 : decode cX12_mistaken 25 = .ok (.invokestatic 263, 3) := by decide +kernel
theorem dX12_mistaken_28 : decode cX12_mistaken 28 = .ok (.invokevirtual 302, 3) := by decide +kernel
theorem dX12_mistaken_31 : decode cX12_mistaken 31 = .ok (.aload_n 0, 1) := by decide +kernel
theorem dX12_mistaken_32 : decode cX12_mistaken 32 = .ok (.getfield 61, 3) := by decide +kernel
theorem dX12_mistaken_35 : decode cX12_mistaken 35 = .ok (.iload_n 1, 1) := by decide +kernel
theorem dX12_mistaken_36 : decode cX12_mistaken 36 = .ok (.iconst 1, 1) := by decide +kernel
theorem dX12_mistaken_37 : decode cX12_mistaken 37 = .ok (.invokestatic 263, 3) := by decide +kernel
theorem dX12_mistaken_40 : decode cX12_mistaken 40 = .ok (.if_icmp .eq 5, 3) := by decide +kernel
theorem dX12_mistaken_43 : decode cX12_mistaken 43 = .ok (.iload_n 1, 1) := by decide +kernel
theorem dX12_mistaken_44 : decode cX12_mistaken 44 = .ok (.ireturn, 1) := by decide +kernel
theorem dX12_mistaken_45 : decode cX12_mistaken 45 = .ok (.iinc 1 1, 3) := by decide +kernel
theorem dX12_mistaken_48 : decode cX12_mistaken 48 = .ok (.goto (-41), 3) := by decide +kernel
theorem dX12_mistaken_51 : decode cX12_mistaken 51 = .ok (.iconst (-1), 1) := by decide +kernel
theorem dX12_mistaken_52 : decode cX12_mistaken 52 = .ok (.ireturn, 1) := by decide +kernel
theorem dX12_canOf_0 : decode cX12_canOf 0 = .ok (.iconst 0, 1) := by decide +kernel
theorem dX12_canOf_1 : decode cX12_canOf 1 = .ok (.istore_n 2, 1) := by decide +kernel
theorem dX12_canOf_2 : decode cX12_canOf 2 = .ok (.iconst 0, 1) := by decide +kernel
theorem dX12_canOf_3 : decode cX12_canOf 3 = .ok (.istore_n 3, 1) := by decide +kernel
theorem dX12_canOf_4 : decode cX12_canOf 4 = .ok (.iload_n 3, 1) := by decide +kernel
theorem dX12_canOf_5 : decode cX12_canOf 5 = .ok (.aload_n 0, 1) := by decide +kernel
theorem dX12_canOf_6 : decode cX12_canOf 6 = .ok (.getfield 23, 3) := by decide +kernel
theorem dX12_canOf_9 : decode cX12_canOf 9 = .ok (.iconst 0, 1) := by decide +kernel
theorem dX12_canOf_10 : decode cX12_canOf 10 = .ok (.iaload, 1) := by decide +kernel
theorem dX12_canOf_11 : decode cX12_canOf 11 = .ok (.if_icmp .ge 55, 3) := by decide +kernel
theorem dX12_canOf_14 : decode cX12_canOf 14 = .ok (.iload_n 2, 1) := by decide +kernel
theorem dX12_canOf_15 : decode cX12_canOf 15 = .ok (.aload_n 0, 1) := by decide +kernel
theorem dX12_canOf_16 : decode cX12_canOf 16 = .ok (.getfield 29, 3) := by decide +kernel
theorem dX12_canOf_19 : decode cX12_canOf 19 = .ok (.iload_n 3, 1) := by decide +kernel
theorem dX12_canOf_20 : decode cX12_canOf 20 = .ok (.iaload, 1) := by decide +kernel
theorem dX12_canOf_21 : decode cX12_canOf 21 = .ok (.iload_n 1, 1) := by decide +kernel
theorem dX12_canOf_22 : decode cX12_canOf 22 = .ok (.invokestatic 246, 3) := by decide +kernel
theorem dX12_canOf_25 : decode cX12_canOf 25 = .ok (.ifCond .ne 32, 3) := by decide +kernel
theorem dX12_canOf_28 : decode cX12_canOf 28 = .ok (.aload_n 0, 1) := by decide +kernel
theorem dX12_canOf_29 : decode cX12_canOf 29 = .ok (.aload_n 0, 1) := by decide +kernel
theorem dX12_canOf_30 : decode cX12_canOf 30 = .ok (.aload_n 0, 1) := by decide +kernel
theorem dX12_canOf_31 : decode cX12_canOf 31 = .ok (.getfield 61, 3) := by decide +kernel
theorem dX12_canOf_34 : decode cX12_canOf 34 = .ok (.iload_n 3, 1) := by decide +kernel
theorem dX12_canOf_35 : decode cX12_canOf 35 = .ok (.iload_n 1, 1) := by decide +kernel
theorem dX12_canOf_36 : decode cX12_canOf 36 = .ok (.iconst 0, 1) := by decide +kernel
theorem dX12_canOf_37 : decode cX12_canOf 37 = .ok (.invokevirtual 259, 3) := by decide +kernel
theorem dX12_canOf_40 : decode cX12_canOf 40 = .ok (.aload_n 0, 1) := by decide +kernel
theorem dX12_canOf_41 : decode cX12_canOf 41 = .ok (.iload_n 1, 1) := by decide +kernel
theorem dX12_canOf_42 : decode cX12_canOf 42 = .ok (.invokevirtual 253, 3) := by decide +kernel
theorem dX12_canOf_45 : decode cX12_canOf 45 = .ok (.invokevirtual 311, 3) := by decide +kernel
theorem dX12_canOf_48 : decode cX12_canOf 48 = .ok (.ifCond .eq 9, 3) := by decide +kernel
theorem dX12_canOf_51 : decode cX12_canOf 51 = .ok (.iconst 1, 1) := by decide +kernel
theorem dX12_canOf_52 : decode cX12_canOf 52 = .ok (.iload_n 3, 1) := by decide +kernel
theorem dX12_canOf_53 : decode cX12_canOf 53 = .ok (.ishl, 1) := by decide +kernel
theorem dX12_canOf_54 : decode cX12_canOf 54 = .ok (.goto 4, 3) := by decide +kernel
theorem dX12_canOf_57 : decode cX12_canOf 57 = .ok (.iconst 0, 1) := by decide +kernel
theorem dX12_canOf_58 : decode cX12_canOf 58 = .ok (.ior, 1) := by decide +kernel
theorem dX12_canOf_59 : decode cX12_canOf 59 = .ok (.istore_n 2, 1) := by decide +kernel
theorem dX12_canOf_60 : decode cX12_canOf 60 = .ok (.iinc 3 1, 3) := by decide +kernel
theorem dX12_canOf_63 : decode cX12_canOf 63 = .ok (.goto (-59), 3) := by decide +kernel
theorem dX12_canOf_66 : decode cX12_canOf 66 = .ok (.iload_n 2, 1) := by decide +kernel
theorem dX12_canOf_67 : decode cX12_canOf 67 = .ok (.ireturn, 1) := by decide +kernel
theorem dX12_can_0 : decode cX12_can 0 = .ok (.aload_n 0, 1) := by decide +kernel
theorem dX12_can_1 : decode cX12_can 1 = .ok (.iconst 0, 1) := by decide +kernel
theorem dX12_can_2 : decode cX12_can 2 = .ok (.putfield 94, 3) := by decide +kernel
theorem dX12_can_5 : decode cX12_can 5 = .ok (.aload_n 0, 1) := by decide +kernel
theorem dX12_can_6 : decode cX12_can 6 = .ok (.aload_n 0, 1) := by decide +kernel
theorem dX12_can_7 : decode cX12_can 7 = .ok (.iload_n 1, 1) := by decide +kernel
theorem dX12_can_8 : decode cX12_can 8 = .ok (.invokevirtual 296, 3) := by decide +kernel
theorem dX12_can_11 : decode cX12_can 11 = .ok (.ifCond .ne 7, 3) := by decide +kernel
theorem dX12_can_14 : decode cX12_can 14 = .ok (.iconst 1, 1) := by decide +kernel
theorem dX12_can_15 : decode cX12_can 15 = .ok (.goto 4, 3) := by decide +kernel
theorem dX12_can_18 : decode cX12_can 18 = .ok (.iconst 0, 1) := by decide +kernel
theorem dX12_can_19 : decode cX12_can 19 = .ok (.iconst 1, 1) := by decide +kernel
theorem dX12_can_20 : decode cX12_can 20 = .ok (.iconst 0, 1) := by decide +kernel
theorem dX12_can_21 : decode cX12_can 21 = .ok (.invokevirtual 167, 3) := by decide +kernel
theorem dX12_can_24 : decode cX12_can 24 = .ok (.ifCond .eq 5, 3) := by decide +kernel
theorem dX12_can_27 : decode cX12_can 27 = .ok (.iconst 0, 1) := by decide +kernel
theorem dX12_can_28 : decode cX12_can 28 = .ok (.ireturn, 1) := by decide +kernel
theorem dX12_can_29 : decode cX12_can 29 = .ok (.aload_n 0, 1) := by decide +kernel
theorem dX12_can_30 : decode cX12_can 30 = .ok (.iload_n 1, 1) := by decide +kernel
theorem dX12_can_31 : decode cX12_can 31 = .ok (.invokevirtual 318, 3) := by decide +kernel
theorem dX12_can_34 : decode cX12_can 34 = .ok (.ireturn, 1) := by decide +kernel
theorem dX12_laysCans_0 : decode cX12_laysCans 0 = .ok (.iconst 0, 1) := by decide +kernel
theorem dX12_laysCans_1 : decode cX12_laysCans 1 = .ok (.istore_n 1, 1) := by decide +kernel
theorem dX12_laysCans_2 : decode cX12_laysCans 2 = .ok (.iload_n 1, 1) := by decide +kernel
theorem dX12_laysCans_3 : decode cX12_laysCans 3 = .ok (.aload_n 0, 1) := by decide +kernel
theorem dX12_laysCans_4 : decode cX12_laysCans 4 = .ok (.getfield 23, 3) := by decide +kernel
theorem dX12_laysCans_7 : decode cX12_laysCans 7 = .ok (.iconst 0, 1) := by decide +kernel
theorem dX12_laysCans_8 : decode cX12_laysCans 8 = .ok (.iaload, 1) := by decide +kernel
theorem dX12_laysCans_9 : decode cX12_laysCans 9 = .ok (.if_icmp .ge 20, 3) := by decide +kernel
theorem dX12_laysCans_12 : decode cX12_laysCans 12 = .ok (.aload_n 0, 1) := by decide +kernel
theorem dX12_laysCans_13 : decode cX12_laysCans 13 = .ok (.getfield 73, 3) := by decide +kernel
theorem dX12_laysCans_16 : decode cX12_laysCans 16 = .ok (.iload_n 1, 1) := by decide +kernel
theorem dX12_laysCans_17 : decode cX12_laysCans 17 = .ok (.aload_n 0, 1) := by decide +kernel
theorem dX12_laysCans_18 : decode cX12_laysCans 18 = .ok (.iload_n 1, 1) := by decide +kernel
theorem dX12_laysCans_19 : decode cX12_laysCans 19 = .ok (.invokevirtual 318, 3) := by decide +kernel
theorem dX12_laysCans_22 : decode cX12_laysCans 22 = .ok (.iastore, 1) := by decide +kernel
theorem dX12_laysCans_23 : decode cX12_laysCans 23 = .ok (.iinc 1 1, 3) := by decide +kernel
theorem dX12_laysCans_26 : decode cX12_laysCans 26 = .ok (.goto (-24), 3) := by decide +kernel
theorem dX12_laysCans_29 : decode cX12_laysCans 29 = .ok (.return_, 1) := by decide +kernel
theorem dX12_isEnough_0 : decode cX12_isEnough 0 = .ok (.iconst 0, 1) := by decide +kernel
theorem dX12_isEnough_1 : decode cX12_isEnough 1 = .ok (.istore_n 3, 1) := by decide +kernel
theorem dX12_isEnough_2 : decode cX12_isEnough 2 = .ok (.iload_n 3, 1) := by decide +kernel
theorem dX12_isEnough_3 : decode cX12_isEnough 3 = .ok (.aload_n 0, 1) := by decide +kernel
theorem dX12_isEnough_4 : decode cX12_isEnough 4 = .ok (.getfield 23, 3) := by decide +kernel
theorem dX12_isEnough_7 : decode cX12_isEnough 7 = .ok (.iconst 0, 1) := by decide +kernel
theorem dX12_isEnough_8 : decode cX12_isEnough 8 = .ok (.iaload, 1) := by decide +kernel
theorem dX12_isEnough_9 : decode cX12_isEnough 9 = .ok (.if_icmp .ge 30, 3) := by decide +kernel
theorem dX12_isEnough_12 : decode cX12_isEnough 12 = .ok (.iload_n 2, 1) := by decide +kernel
theorem dX12_isEnough_13 : decode cX12_isEnough 13 = .ok (.iload_n 3, 1) := by decide +kernel
theorem dX12_isEnough_14 : decode cX12_isEnough 14 = .ok (.invokestatic 246, 3) := by decide +kernel
theorem dX12_isEnough_17 : decode cX12_isEnough 17 = .ok (.ifCond .eq 16, 3) := by decide +kernel
theorem dX12_isEnough_20 : decode cX12_isEnough 20 = .ok (.aload_n 0, 1) := by decide +kernel
theorem dX12_isEnough_21 : decode cX12_isEnough 21 = .ok (.getfield 73, 3) := by decide +kernel
theorem dX12_isEnough_24 : decode cX12_isEnough 24 = .ok (.iload_n 3, 1) := by decide +kernel
theorem dX12_isEnough_25 : decode cX12_isEnough 25 = .ok (.iaload, 1) := by decide +kernel
theorem dX12_isEnough_26 : decode cX12_isEnough 26 = .ok (.iload_n 1, 1) := by decide +kernel
theorem dX12_isEnough_27 : decode cX12_isEnough 27 = .ok (.iand, 1) := by decide +kernel
theorem dX12_isEnough_28 : decode cX12_isEnough 28 = .ok (.ifCond .ne 5, 3) := by decide +kernel
theorem dX12_isEnough_31 : decode cX12_isEnough 31 = .ok (.iconst 0, 1) := by decide +kernel
theorem dX12_isEnough_32 : decode cX12_isEnough 32 = .ok (.ireturn, 1) := by decide +kernel
theorem dX12_isEnough_33 : decode cX12_isEnough 33 = .ok (.iinc 3 1, 3) := by decide +kernel
theorem dX12_isEnough_36 : decode cX12_isEnough 36 = .ok (.goto (-34), 3) := by decide +kernel
theorem dX12_isEnough_39 : decode cX12_isEnough 39 = .ok (.iconst 1, 1) := by decide +kernel
theorem dX12_isEnough_40 : decode cX12_isEnough 40 = .ok (.ireturn, 1) := by decide +kernel
theorem dX12_fewest_0 : decode cX12_fewest 0 = .ok (.aload_n 0, 1) := by decide +kernel
theorem dX12_fewest_1 : decode cX12_fewest 1 = .ok (.iconst 0, 1) := by decide +kernel
theorem dX12_fewest_2 : decode cX12_fewest 2 = .ok (.putfield 94, 3) := by decide +kernel
theorem dX12_fewest_5 : decode cX12_fewest 5 = .ok (.aload_n 0, 1) := by decide +kernel
theorem dX12_fewest_6 : decode cX12_fewest 6 = .ok (.aload_n 0, 1) := by decide +kernel
theorem dX12_fewest_7 : decode cX12_fewest 7 = .ok (.iload_n 1, 1) := by decide +kernel
theorem dX12_fewest_8 : decode cX12_fewest 8 = .ok (.invokevirtual 321, 3) := by decide +kernel
theorem dX12_fewest_11 : decode cX12_fewest 11 = .ok (.ifCond .ne 7, 3) := by decide +kernel
theorem dX12_fewest_14 : decode cX12_fewest 14 = .ok (.iconst 1, 1) := by decide +kernel
theorem dX12_fewest_15 : decode cX12_fewest 15 = .ok (.goto 4, 3) := by decide +kernel
theorem dX12_fewest_18 : decode cX12_fewest 18 = .ok (.iconst 0, 1) := by decide +kernel
theorem dX12_fewest_19 : decode cX12_fewest 19 = .ok (.iconst 1, 1) := by decide +kernel
theorem dX12_fewest_20 : decode cX12_fewest 20 = .ok (.iconst 1, 1) := by decide +kernel
theorem dX12_fewest_21 : decode cX12_fewest 21 = .ok (.invokevirtual 167, 3) := by decide +kernel
theorem dX12_fewest_24 : decode cX12_fewest 24 = .ok (.ifCond .eq 5, 3) := by decide +kernel
theorem dX12_fewest_27 : decode cX12_fewest 27 = .ok (.iconst 0, 1) := by decide +kernel
theorem dX12_fewest_28 : decode cX12_fewest 28 = .ok (.ireturn, 1) := by decide +kernel
theorem dX12_fewest_29 : decode cX12_fewest 29 = .ok (.iconst (-1), 1) := by decide +kernel
theorem dX12_fewest_30 : decode cX12_fewest 30 = .ok (.istore_n 2, 1) := by decide +kernel
theorem dX12_fewest_31 : decode cX12_fewest 31 = .ok (.aload_n 0, 1) := by decide +kernel
theorem dX12_fewest_32 : decode cX12_fewest 32 = .ok (.invokevirtual 324, 3) := by decide +kernel
theorem dX12_fewest_35 : decode cX12_fewest 35 = .ok (.iconst 1, 1) := by decide +kernel
theorem dX12_fewest_36 : decode cX12_fewest 36 = .ok (.aload_n 0, 1) := by decide +kernel
theorem dX12_fewest_37 : decode cX12_fewest 37 = .ok (.getfield 23, 3) := by decide +kernel
theorem dX12_fewest_40 : decode cX12_fewest 40 = .ok (.iconst 0, 1) := by decide +kernel
theorem dX12_fewest_41 : decode cX12_fewest 41 = .ok (.iaload, 1) := by decide +kernel
theorem dX12_fewest_42 : decode cX12_fewest 42 = .ok (.ishl, 1) := by decide +kernel
theorem dX12_fewest_43 : decode cX12_fewest 43 = .ok (.iconst 1, 1) := by decide +kernel
theorem dX12_fewest_44 : decode cX12_fewest 44 = .ok (.isub, 1) := by decide +kernel
theorem dX12_fewest_45 : decode cX12_fewest 45 = .ok (.istore_n 3, 1) := by decide +kernel
theorem dX12_fewest_46 : decode cX12_fewest 46 = .ok (.iload_n 3, 1) := by decide +kernel
theorem dX12_fewest_47 : decode cX12_fewest 47 = .ok (.ifCond .lt 40, 3) := by decide +kernel
theorem dX12_fewest_50 : decode cX12_fewest 50 = .ok (.aload_n 0, 1) := by decide +kernel
theorem dX12_fewest_51 : decode cX12_fewest 51 = .ok (.iload_n 3, 1) := by decide +kernel
theorem dX12_fewest_52 : decode cX12_fewest 52 = .ok (.iload_n 1, 1) := by decide +kernel
theorem dX12_fewest_53 : decode cX12_fewest 53 = .ok (.invokevirtual 327, 3) := by decide +kernel
theorem dX12_fewest_56 : decode cX12_fewest 56 = .ok (.ifCond .eq 23, 3) := by decide +kernel
theorem dX12_fewest_59 : decode cX12_fewest 59 = .ok (.iload_n 2, 1) := by decide +kernel
theorem dX12_fewest_60 : decode cX12_fewest 60 = .ok (.iconst (-1), 1) := by decide +kernel
theorem dX12_fewest_61 : decode cX12_fewest 61 = .ok (.if_icmp .eq 14, 3) := by decide +kernel
theorem dX12_fewest_64 : decode cX12_fewest 64 = .ok (.iload_n 3, 1) := by decide +kernel
theorem dX12_fewest_65 : decode cX12_fewest 65 = .ok (.invokestatic 250, 3) := by decide +kernel
theorem dX12_fewest_68 : decode cX12_fewest 68 = .ok (.iload_n 2, 1) := by decide +kernel
theorem dX12_fewest_69 : decode cX12_fewest 69 = .ok (.invokestatic 250, 3) := by decide +kernel
theorem dX12_fewest_72 : decode cX12_fewest 72 = .ok (.if_icmp .gt 7, 3) := by decide +kernel
theorem dX12_fewest_75 : decode cX12_fewest 75 = .ok (.iload_n 3, 1) := by decide +kernel
theorem dX12_fewest_76 : decode cX12_fewest 76 = .ok (.goto 4, 3) := by decide +kernel
theorem dX12_fewest_79 : decode cX12_fewest 79 = .ok (.iload_n 2, 1) := by decide +kernel
theorem dX12_fewest_80 : decode cX12_fewest 80 = .ok (.istore_n 2, 1) := by decide +kernel
theorem dX12_fewest_81 : decode cX12_fewest 81 = .ok (.iinc 3 (-1), 3) := by decide +kernel
theorem dX12_fewest_84 : decode cX12_fewest 84 = .ok (.goto (-38), 3) := by decide +kernel
theorem dX12_fewest_87 : decode cX12_fewest 87 = .ok (.iload_n 2, 1) := by decide +kernel
theorem dX12_fewest_88 : decode cX12_fewest 88 = .ok (.ireturn, 1) := by decide +kernel
theorem dX12_nobody_0 : decode cX12_nobody 0 = .ok (.aload_n 0, 1) := by decide +kernel
theorem dX12_nobody_1 : decode cX12_nobody 1 = .ok (.iconst 0, 1) := by decide +kernel
theorem dX12_nobody_2 : decode cX12_nobody 2 = .ok (.putfield 94, 3) := by decide +kernel
theorem dX12_nobody_5 : decode cX12_nobody 5 = .ok (.aload_n 0, 1) := by decide +kernel
theorem dX12_nobody_6 : decode cX12_nobody 6 = .ok (.aload_n 0, 1) := by decide +kernel
theorem dX12_nobody_7 : decode cX12_nobody 7 = .ok (.iload_n 1, 1) := by decide +kernel
theorem dX12_nobody_8 : decode cX12_nobody 8 = .ok (.invokevirtual 321, 3) := by decide +kernel
theorem dX12_nobody_11 : decode cX12_nobody 11 = .ok (.ifCond .ne 7, 3) := by decide +kernel
theorem dX12_nobody_14 : decode cX12_nobody 14 = .ok (.iconst 1, 1) := by decide +kernel
theorem dX12_nobody_15 : decode cX12_nobody 15 = .ok (.goto 4, 3) := by decide +kernel
theorem dX12_nobody_18 : decode cX12_nobody 18 = .ok (.iconst 0, 1) := by decide +kernel
theorem dX12_nobody_19 : decode cX12_nobody 19 = .ok (.iconst 1, 1) := by decide +kernel
theorem dX12_nobody_20 : decode cX12_nobody 20 = .ok (.iconst 1, 1) := by decide +kernel
theorem dX12_nobody_21 : decode cX12_nobody 21 = .ok (.invokevirtual 167, 3) := by decide +kernel
theorem dX12_nobody_24 : decode cX12_nobody 24 = .ok (.ifCond .eq 5, 3) := by decide +kernel
theorem dX12_nobody_27 : decode cX12_nobody 27 = .ok (.iconst 0, 1) := by decide +kernel
theorem dX12_nobody_28 : decode cX12_nobody 28 = .ok (.ireturn, 1) := by decide +kernel
theorem dX12_nobody_29 : decode cX12_nobody 29 = .ok (.iconst 0, 1) := by decide +kernel
theorem dX12_nobody_30 : decode cX12_nobody 30 = .ok (.istore_n 2, 1) := by decide +kernel
theorem dX12_nobody_31 : decode cX12_nobody 31 = .ok (.iload_n 2, 1) := by decide +kernel
theorem dX12_nobody_32 : decode cX12_nobody 32 = .ok (.aload_n 0, 1) := by decide +kernel
theorem dX12_nobody_33 : decode cX12_nobody 33 = .ok (.getfield 23, 3) := by decide +kernel
theorem dX12_nobody_36 : decode cX12_nobody 36 = .ok (.iconst 0, 1) := by decide +kernel
theorem dX12_nobody_37 : decode cX12_nobody 37 = .ok (.iaload, 1) := by decide +kernel
theorem dX12_nobody_38 : decode cX12_nobody 38 = .ok (.if_icmp .ge 27, 3) := by decide +kernel
theorem dX12_nobody_41 : decode cX12_nobody 41 = .ok (.iload_n 1, 1) := by decide +kernel
theorem dX12_nobody_42 : decode cX12_nobody 42 = .ok (.iload_n 2, 1) := by decide +kernel
theorem dX12_nobody_43 : decode cX12_nobody 43 = .ok (.invokestatic 246, 3) := by decide +kernel
theorem dX12_nobody_46 : decode cX12_nobody 46 = .ok (.ifCond .eq 13, 3) := by decide +kernel
theorem dX12_nobody_49 : decode cX12_nobody 49 = .ok (.aload_n 0, 1) := by decide +kernel
theorem dX12_nobody_50 : decode cX12_nobody 50 = .ok (.iload_n 2, 1) := by decide +kernel
theorem dX12_nobody_51 : decode cX12_nobody 51 = .ok (.invokevirtual 318, 3) := by decide +kernel
theorem dX12_nobody_54 : decode cX12_nobody 54 = .ok (.ifCond .ne 5, 3) := by decide +kernel
theorem dX12_nobody_57 : decode cX12_nobody 57 = .ok (.iload_n 2, 1) := by decide +kernel
theorem dX12_nobody_58 : decode cX12_nobody 58 = .ok (.ireturn, 1) := by decide +kernel
theorem dX12_nobody_59 : decode cX12_nobody 59 = .ok (.iinc 2 1, 3) := by decide +kernel
theorem dX12_nobody_62 : decode cX12_nobody 62 = .ok (.goto (-31), 3) := by decide +kernel
theorem dX12_nobody_65 : decode cX12_nobody 65 = .ok (.iconst (-1), 1) := by decide +kernel
theorem dX12_nobody_66 : decode cX12_nobody 66 = .ok (.ireturn, 1) := by decide +kernel
theorem dX12_cheapest_0 : decode cX12_cheapest 0 = .ok (.aload_n 0, 1) := by decide +kernel
theorem dX12_cheapest_1 : decode cX12_cheapest 1 = .ok (.iconst 0, 1) := by decide +kernel
theorem dX12_cheapest_2 : decode cX12_cheapest 2 = .ok (.putfield 94, 3) := by decide +kernel
theorem dX12_cheapest_5 : decode cX12_cheapest 5 = .ok (.aload_n 0, 1) := by decide +kernel
theorem dX12_cheapest_6 : decode cX12_cheapest 6 = .ok (.aload_n 0, 1) := by decide +kernel
theorem dX12_cheapest_7 : decode cX12_cheapest 7 = .ok (.iload_n 1, 1) := by decide +kernel
theorem dX12_cheapest_8 : decode cX12_cheapest 8 = .ok (.invokevirtual 321, 3) := by decide +kernel
theorem dX12_cheapest_11 : decode cX12_cheapest 11 = .ok (.ifCond .eq 12, 3) := by decide +kernel
theorem dX12_cheapest_14 : decode cX12_cheapest 14 = .ok (.iload_n 2, 1) := by decide +kernel
theorem dX12_cheapest_15 : decode cX12_cheapest 15 = .ok (.iconst 0, 1) := by decide +kernel
theorem dX12_cheapest_16 : decode cX12_cheapest 16 = .ok (.iconst 1, 1) := by decide +kernel
theorem dX12_cheapest_17 : decode cX12_cheapest 17 = .ok (.invokestatic 128, 3) := by decide +kernel
theorem dX12_cheapest_20 : decode cX12_cheapest 20 = .ok (.ifCond .ne 7, 3) := by decide +kernel
theorem dX12_cheapest_23 : decode cX12_cheapest 23 = .ok (.iconst 1, 1) := by decide +kernel
theorem dX12_cheapest_24 : decode cX12_cheapest 24 = .ok (.goto 4, 3) := by decide +kernel
theorem dX12_cheapest_27 : decode cX12_cheapest 27 = .ok (.iconst 0, 1) := by decide +kernel
theorem dX12_cheapest_28 : decode cX12_cheapest 28 = .ok (.iconst 1, 1) := by decide +kernel
theorem dX12_cheapest_29 : decode cX12_cheapest 29 = .ok (.iconst 1, 1) := by decide +kernel
theorem dX12_cheapest_30 : decode cX12_cheapest 30 = .ok (.invokevirtual 167, 3) := by decide +kernel
theorem dX12_cheapest_33 : decode cX12_cheapest 33 = .ok (.ifCond .eq 5, 3) := by decide +kernel
theorem dX12_cheapest_36 : decode cX12_cheapest 36 = .ok (.iconst 0, 1) := by decide +kernel
theorem dX12_cheapest_37 : decode cX12_cheapest 37 = .ok (.ireturn, 1) := by decide +kernel
theorem dX12_cheapest_38 : decode cX12_cheapest 38 = .ok (.iconst (-1), 1) := by decide +kernel
theorem dX12_cheapest_39 : decode cX12_cheapest 39 = .ok (.istore_n 3, 1) := by decide +kernel
theorem dX12_cheapest_40 : decode cX12_cheapest 40 = .ok (.iconst (-1), 1) := by decide +kernel
theorem dX12_cheapest_41 : decode cX12_cheapest 41 = .ok (.istore 4, 2) := by decide +kernel
theorem dX12_cheapest_43 : decode cX12_cheapest 43 = .ok (.aload_n 0, 1) := by decide +kernel
theorem dX12_cheapest_44 : decode cX12_cheapest 44 = .ok (.invokevirtual 324, 3) := by decide +kernel
theorem dX12_cheapest_47 : decode cX12_cheapest 47 = .ok (.iconst 0, 1) := by decide +kernel
theorem dX12_cheapest_48 : decode cX12_cheapest 48 = .ok (.istore 5, 2) := by decide +kernel
theorem dX12_cheapest_50 : decode cX12_cheapest 50 = .ok (.iload 5, 2) := by decide +kernel
theorem dX12_cheapest_52 : decode cX12_cheapest 52 = .ok (.iconst 1, 1) := by decide +kernel
theorem dX12_cheapest_53 : decode cX12_cheapest 53 = .ok (.aload_n 0, 1) := by decide +kernel
theorem dX12_cheapest_54 : decode cX12_cheapest 54 = .ok (.getfield 23, 3) := by decide +kernel
theorem dX12_cheapest_57 : decode cX12_cheapest 57 = .ok (.iconst 0, 1) := by decide +kernel
theorem dX12_cheapest_58 : decode cX12_cheapest 58 = .ok (.iaload, 1) := by decide +kernel
theorem dX12_cheapest_59 : decode cX12_cheapest 59 = .ok (.ishl, 1) := by decide +kernel
theorem dX12_cheapest_60 : decode cX12_cheapest 60 = .ok (.if_icmp .ge 52, 3) := by decide +kernel
theorem dX12_cheapest_63 : decode cX12_cheapest 63 = .ok (.aload_n 0, 1) := by decide +kernel
theorem dX12_cheapest_64 : decode cX12_cheapest 64 = .ok (.iload 5, 2) := by decide +kernel
theorem dX12_cheapest_66 : decode cX12_cheapest 66 = .ok (.bipush 40, 2) := by decide +kernel
theorem dX12_cheapest_68 : decode cX12_cheapest 68 = .ok (.invokevirtual 330, 3) := by decide +kernel
theorem dX12_cheapest_71 : decode cX12_cheapest 71 = .ok (.istore 6, 2) := by decide +kernel
theorem dX12_cheapest_73 : decode cX12_cheapest 73 = .ok (.aload_n 0, 1) := by decide +kernel
theorem dX12_cheapest_74 : decode cX12_cheapest 74 = .ok (.iload 5, 2) := by decide +kernel
theorem dX12_cheapest_76 : decode cX12_cheapest 76 = .ok (.iload_n 1, 1) := by decide +kernel
theorem dX12_cheapest_77 : decode cX12_cheapest 77 = .ok (.invokevirtual 327, 3) := by decide +kernel
theorem dX12_cheapest_80 : decode cX12_cheapest 80 = .ok (.ifCond .eq 26, 3) := by decide +kernel
theorem dX12_cheapest_83 : decode cX12_cheapest 83 = .ok (.iload 4, 2) := by decide +kernel
theorem dX12_cheapest_85 : decode cX12_cheapest 85 = .ok (.iconst (-1), 1) := by decide +kernel
theorem dX12_cheapest_86 : decode cX12_cheapest 86 = .ok (.if_icmp .eq 13, 3) := by decide +kernel
theorem dX12_cheapest_89 : decode cX12_cheapest 89 = .ok (.iload 6, 2) := by decide +kernel
theorem dX12_cheapest_91 : decode cX12_cheapest 91 = .ok (.iload 4, 2) := by decide +kernel
theorem dX12_cheapest_93 : decode cX12_cheapest 93 = .ok (.if_icmp .lt 6, 3) := by decide +kernel
theorem dX12_cheapest_96 : decode cX12_cheapest 96 = .ok (.goto 10, 3) := by decide +kernel
theorem dX12_cheapest_99 : decode cX12_cheapest 99 = .ok (.iload 5, 2) := by decide +kernel
theorem dX12_cheapest_101 : decode cX12_cheapest 101 = .ok (.istore_n 3, 1) := by decide +kernel
theorem dX12_cheapest_102 : decode cX12_cheapest 102 = .ok (.iload 6, 2) := by decide +kernel
theorem dX12_cheapest_104 : decode cX12_cheapest 104 = .ok (.istore 4, 2) := by decide +kernel
theorem dX12_cheapest_106 : decode cX12_cheapest 106 = .ok (.iinc 5 1, 3) := by decide +kernel
theorem dX12_cheapest_109 : decode cX12_cheapest 109 = .ok (.goto (-59), 3) := by decide +kernel
theorem dX12_cheapest_112 : decode cX12_cheapest 112 = .ok (.iload_n 2, 1) := by decide +kernel
theorem dX12_cheapest_113 : decode cX12_cheapest 113 = .ok (.ifCond .ne 8, 3) := by decide +kernel
theorem dX12_cheapest_116 : decode cX12_cheapest 116 = .ok (.iload 4, 2) := by decide +kernel
theorem dX12_cheapest_118 : decode cX12_cheapest 118 = .ok (.goto 4, 3) := by decide +kernel
theorem dX12_cheapest_121 : decode cX12_cheapest 121 = .ok (.iload_n 3, 1) := by decide +kernel
theorem dX12_cheapest_122 : decode cX12_cheapest 122 = .ok (.ireturn, 1) := by decide +kernel
theorem dX12_chain_0 : decode cX12_chain 0 = .ok (.aload_n 0, 1) := by decide +kernel
theorem dX12_chain_1 : decode cX12_chain 1 = .ok (.iconst 0, 1) := by decide +kernel
theorem dX12_chain_2 : decode cX12_chain 2 = .ok (.putfield 94, 3) := by decide +kernel
theorem dX12_chain_5 : decode cX12_chain 5 = .ok (.aload_n 0, 1) := by decide +kernel
theorem dX12_chain_6 : decode cX12_chain 6 = .ok (.aload_n 0, 1) := by decide +kernel
theorem dX12_chain_7 : decode cX12_chain 7 = .ok (.iload_n 1, 1) := by decide +kernel
theorem dX12_chain_8 : decode cX12_chain 8 = .ok (.invokevirtual 296, 3) := by decide +kernel
theorem dX12_chain_11 : decode cX12_chain 11 = .ok (.ifCond .eq 11, 3) := by decide +kernel
theorem dX12_chain_14 : decode cX12_chain 14 = .ok (.aload_n 0, 1) := by decide +kernel
theorem dX12_chain_15 : decode cX12_chain 15 = .ok (.iload_n 2, 1) := by decide +kernel
theorem dX12_chain_16 : decode cX12_chain 16 = .ok (.invokevirtual 296, 3) := by decide +kernel
theorem dX12_chain_19 : decode cX12_chain 19 = .ok (.ifCond .ne 7, 3) := by decide +kernel
theorem dX12_chain_22 : decode cX12_chain 22 = .ok (.iconst 1, 1) := by decide +kernel
theorem dX12_chain_23 : decode cX12_chain 23 = .ok (.goto 4, 3) := by decide +kernel
theorem dX12_chain_26 : decode cX12_chain 26 = .ok (.iconst 0, 1) := by decide +kernel
theorem dX12_chain_27 : decode cX12_chain 27 = .ok (.iconst 1, 1) := by decide +kernel
theorem dX12_chain_28 : decode cX12_chain 28 = .ok (.iconst 0, 1) := by decide +kernel
theorem dX12_chain_29 : decode cX12_chain 29 = .ok (.invokevirtual 167, 3) := by decide +kernel
theorem dX12_chain_32 : decode cX12_chain 32 = .ok (.ifCond .eq 5, 3) := by decide +kernel
theorem dX12_chain_35 : decode cX12_chain 35 = .ok (.iconst 0, 1) := by decide +kernel
theorem dX12_chain_36 : decode cX12_chain 36 = .ok (.ireturn, 1) := by decide +kernel
theorem dX12_chain_37 : decode cX12_chain 37 = .ok (.iconst 1, 1) := by decide +kernel
theorem dX12_chain_38 : decode cX12_chain 38 = .ok (.iload_n 1, 1) := by decide +kernel
theorem dX12_chain_39 : decode cX12_chain 39 = .ok (.ishl, 1) := by decide +kernel
theorem dX12_chain_40 : decode cX12_chain 40 = .ok (.istore_n 3, 1) := by decide +kernel
theorem dX12_chain_41 : decode cX12_chain 41 = .ok (.aload_n 0, 1) := by decide +kernel
theorem dX12_chain_42 : decode cX12_chain 42 = .ok (.invokevirtual 324, 3) := by decide +kernel
theorem dX12_chain_45 : decode cX12_chain 45 = .ok (.iconst 0, 1) := by decide +kernel
theorem dX12_chain_46 : decode cX12_chain 46 = .ok (.istore 4, 2) := by decide +kernel
theorem dX12_chain_48 : decode cX12_chain 48 = .ok (.iload 4, 2) := by decide +kernel
theorem dX12_chain_50 : decode cX12_chain 50 = .ok (.bipush 8, 2) := by decide +kernel
theorem dX12_chain_52 : decode cX12_chain 52 = .ok (.if_icmp .ge 71, 3) := by decide +kernel
theorem dX12_chain_55 : decode cX12_chain 55 = .ok (.iload_n 3, 1) := by decide +kernel
theorem dX12_chain_56 : decode cX12_chain 56 = .ok (.iload_n 2, 1) := by decide +kernel
theorem dX12_chain_57 : decode cX12_chain 57 = .ok (.invokestatic 246, 3) := by decide +kernel
theorem dX12_chain_60 : decode cX12_chain 60 = .ok (.ifCond .eq 6, 3) := by decide +kernel
theorem dX12_chain_63 : decode cX12_chain 63 = .ok (.iload 4, 2) := by decide +kernel
theorem dX12_chain_65 : decode cX12_chain 65 = .ok (.ireturn, 1) := by decide +kernel
theorem dX12_chain_66 : decode cX12_chain 66 = .ok (.iload_n 3, 1) := by decide +kernel
theorem dX12_chain_67 : decode cX12_chain 67 = .ok (.istore 5, 2) := by decide +kernel
theorem dX12_chain_69 : decode cX12_chain 69 = .ok (.iconst 0, 1) := by decide +kernel
theorem dX12_chain_70 : decode cX12_chain 70 = .ok (.istore 6, 2) := by decide +kernel
theorem dX12_chain_72 : decode cX12_chain 72 = .ok (.iload 6, 2) := by decide +kernel
theorem dX12_chain_74 : decode cX12_chain 74 = .ok (.aload_n 0, 1) := by decide +kernel
theorem dX12_chain_75 : decode cX12_chain 75 = .ok (.getfield 23, 3) := by decide +kernel
theorem dX12_chain_78 : decode cX12_chain 78 = .ok (.iconst 0, 1) := by decide +kernel
theorem dX12_chain_79 : decode cX12_chain 79 = .ok (.iaload, 1) := by decide +kernel
theorem dX12_chain_80 : decode cX12_chain 80 = .ok (.if_icmp .ge 34, 3) := by decide +kernel
theorem dX12_chain_83 : decode cX12_chain 83 = .ok (.iload 5, 2) := by decide +kernel
theorem dX12_chain_85 : decode cX12_chain 85 = .ok (.aload_n 0, 1) := by decide +kernel
theorem dX12_chain_86 : decode cX12_chain 86 = .ok (.getfield 73, 3) := by decide +kernel
theorem dX12_chain_89 : decode cX12_chain 89 = .ok (.iload 6, 2) := by decide +kernel
theorem dX12_chain_91 : decode cX12_chain 91 = .ok (.iaload, 1) := by decide +kernel
theorem dX12_chain_92 : decode cX12_chain 92 = .ok (.iload_n 3, 1) := by decide +kernel
theorem dX12_chain_93 : decode cX12_chain 93 = .ok (.iand, 1) := by decide +kernel
theorem dX12_chain_94 : decode cX12_chain 94 = .ok (.ifCond .eq 10, 3) := by decide +kernel
theorem dX12_chain_97 : decode cX12_chain 97 = .ok (.iconst 1, 1) := by decide +kernel
theorem dX12_chain_98 : decode cX12_chain 98 = .ok (.iload 6, 2) := by decide +kernel
theorem dX12_chain_100 : decode cX12_chain 100 = .ok (.ishl, 1) := by decide +kernel
theorem dX12_chain_101 : decode cX12_chain 101 = .ok (.goto 4, 3) := by decide +kernel
theorem dX12_chain_104 : decode cX12_chain 104 = .ok (.iconst 0, 1) := by decide +kernel
theorem dX12_chain_105 : decode cX12_chain 105 = .ok (.ior, 1) := by decide +kernel
theorem dX12_chain_106 : decode cX12_chain 106 = .ok (.istore 5, 2) := by decide +kernel
theorem dX12_chain_108 : decode cX12_chain 108 = .ok (.iinc 6 1, 3) := by decide +kernel
theorem dX12_chain_111 : decode cX12_chain 111 = .ok (.goto (-39), 3) := by decide +kernel
theorem dX12_chain_114 : decode cX12_chain 114 = .ok (.iload 5, 2) := by decide +kernel
theorem dX12_chain_116 : decode cX12_chain 116 = .ok (.istore_n 3, 1) := by decide +kernel
theorem dX12_chain_117 : decode cX12_chain 117 = .ok (.iinc 4 1, 3) := by decide +kernel
theorem dX12_chain_120 : decode cX12_chain 120 = .ok (.goto (-72), 3) := by decide +kernel
theorem dX12_chain_123 : decode cX12_chain 123 = .ok (.iconst (-1), 1) := by decide +kernel
theorem dX12_chain_124 : decode cX12_chain 124 = .ok (.ireturn, 1) := by decide +kernel
theorem dX12_moodFor_0 : decode cX12_moodFor 0 = .ok (.aload_n 0, 1) := by decide +kernel
theorem dX12_moodFor_1 : decode cX12_moodFor 1 = .ok (.iconst 0, 1) := by decide +kernel
theorem dX12_moodFor_2 : decode cX12_moodFor 2 = .ok (.putfield 94, 3) := by decide +kernel
theorem dX12_moodFor_5 : decode cX12_moodFor 5 = .ok (.aload_n 0, 1) := by decide +kernel
theorem dX12_moodFor_6 : decode cX12_moodFor 6 = .ok (.aload_n 0, 1) := by decide +kernel
theorem dX12_moodFor_7 : decode cX12_moodFor 7 = .ok (.iload_n 1, 1) := by decide +kernel
theorem dX12_moodFor_8 : decode cX12_moodFor 8 = .ok (.invokevirtual 296, 3) := by decide +kernel
theorem dX12_moodFor_11 : decode cX12_moodFor 11 = .ok (.ifCond .eq 11, 3) := by decide +kernel
theorem dX12_moodFor_14 : decode cX12_moodFor 14 = .ok (.aload_n 0, 1) := by decide +kernel
theorem dX12_moodFor_15 : decode cX12_moodFor 15 = .ok (.iload_n 2, 1) := by decide +kernel
theorem dX12_moodFor_16 : decode cX12_moodFor 16 = .ok (.invokevirtual 296, 3) := by decide +kernel
theorem dX12_moodFor_19 : decode cX12_moodFor 19 = .ok (.ifCond .ne 7, 3) := by decide +kernel
theorem dX12_moodFor_22 : decode cX12_moodFor 22 = .ok (.iconst 1, 1) := by decide +kernel
theorem dX12_moodFor_23 : decode cX12_moodFor 23 = .ok (.goto 4, 3) := by decide +kernel
theorem dX12_moodFor_26 : decode cX12_moodFor 26 = .ok (.iconst 0, 1) := by decide +kernel
theorem dX12_moodFor_27 : decode cX12_moodFor 27 = .ok (.iconst 1, 1) := by decide +kernel
theorem dX12_moodFor_28 : decode cX12_moodFor 28 = .ok (.iconst 0, 1) := by decide +kernel
theorem dX12_moodFor_29 : decode cX12_moodFor 29 = .ok (.invokevirtual 167, 3) := by decide +kernel
theorem dX12_moodFor_32 : decode cX12_moodFor 32 = .ok (.ifCond .eq 5, 3) := by decide +kernel
theorem dX12_moodFor_35 : decode cX12_moodFor 35 = .ok (.iconst 0, 1) := by decide +kernel
theorem dX12_moodFor_36 : decode cX12_moodFor 36 = .ok (.ireturn, 1) := by decide +kernel
theorem dX12_moodFor_37 : decode cX12_moodFor 37 = .ok (.aload_n 0, 1) := by decide +kernel
theorem dX12_moodFor_38 : decode cX12_moodFor 38 = .ok (.getfield 61, 3) := by decide +kernel
theorem dX12_moodFor_41 : decode cX12_moodFor 41 = .ok (.aload_n 0, 1) := by decide +kernel
theorem dX12_moodFor_42 : decode cX12_moodFor 42 = .ok (.getfield 64, 3) := by decide +kernel
theorem dX12_moodFor_45 : decode cX12_moodFor 45 = .ok (.invokestatic 292, 3) := by decide +kernel
theorem dX12_moodFor_48 : decode cX12_moodFor 48 = .ok (.iconst 0, 1) := by decide +kernel
theorem dX12_moodFor_49 : decode cX12_moodFor 49 = .ok (.istore_n 3, 1) := by decide +kernel
theorem dX12_moodFor_50 : decode cX12_moodFor 50 = .ok (.iload_n 3, 1) := by decide +kernel
theorem dX12_moodFor_51 : decode cX12_moodFor 51 = .ok (.bipush 10, 2) := by decide +kernel
theorem dX12_moodFor_53 : decode cX12_moodFor 53 = .ok (.if_icmp .ge 56, 3) := by decide +kernel
theorem dX12_moodFor_56 : decode cX12_moodFor 56 = .ok (.aload_n 0, 1) := by decide +kernel
theorem dX12_moodFor_57 : decode cX12_moodFor 57 = .ok (.getfield 64, 3) := by decide +kernel
theorem dX12_moodFor_60 : decode cX12_moodFor 60 = .ok (.iconst 0, 1) := by decide +kernel
theorem dX12_moodFor_61 : decode cX12_moodFor 61 = .ok (.iload_n 1, 1) := by decide +kernel
theorem dX12_moodFor_62 : decode cX12_moodFor 62 = .ok (.iadd, 1) := by decide +kernel
theorem dX12_moodFor_63 : decode cX12_moodFor 63 = .ok (.iload_n 3, 1) := by decide +kernel
theorem dX12_moodFor_64 : decode cX12_moodFor 64 = .ok (.iastore, 1) := by decide +kernel
theorem dX12_moodFor_65 : decode cX12_moodFor 65 = .ok (.aload_n 0, 1) := by decide +kernel
theorem dX12_moodFor_66 : decode cX12_moodFor 66 = .ok (.getfield 29, 3) := by decide +kernel
theorem dX12_moodFor_69 : decode cX12_moodFor 69 = .ok (.iload_n 1, 1) := by decide +kernel
theorem dX12_moodFor_70 : decode cX12_moodFor 70 = .ok (.iaload, 1) := by decide +kernel
theorem dX12_moodFor_71 : decode cX12_moodFor 71 = .ok (.iload_n 2, 1) := by decide +kernel
theorem dX12_moodFor_72 : decode cX12_moodFor 72 = .ok (.invokestatic 246, 3) := by decide +kernel
theorem dX12_moodFor_75 : decode cX12_moodFor 75 = .ok (.ifCond .ne 28, 3) := by decide +kernel
theorem dX12_moodFor_78 : decode cX12_moodFor 78 = .ok (.aload_n 0, 1) := by decide +kernel
theorem dX12_moodFor_79 : decode cX12_moodFor 79 = .ok (.aload_n 0, 1) := by decide +kernel
theorem dX12_moodFor_80 : decode cX12_moodFor 80 = .ok (.aload_n 0, 1) := by decide +kernel
theorem dX12_moodFor_81 : decode cX12_moodFor 81 = .ok (.getfield 64, 3) := by decide +kernel
theorem dX12_moodFor_84 : decode cX12_moodFor 84 = .ok (.iload_n 1, 1) := by decide +kernel
theorem dX12_moodFor_85 : decode cX12_moodFor 85 = .ok (.iload_n 2, 1) := by decide +kernel
theorem dX12_moodFor_86 : decode cX12_moodFor 86 = .ok (.iconst 0, 1) := by decide +kernel
theorem dX12_moodFor_87 : decode cX12_moodFor 87 = .ok (.invokevirtual 259, 3) := by decide +kernel
theorem dX12_moodFor_90 : decode cX12_moodFor 90 = .ok (.aload_n 0, 1) := by decide +kernel
theorem dX12_moodFor_91 : decode cX12_moodFor 91 = .ok (.iload_n 2, 1) := by decide +kernel
theorem dX12_moodFor_92 : decode cX12_moodFor 92 = .ok (.invokevirtual 253, 3) := by decide +kernel
theorem dX12_moodFor_95 : decode cX12_moodFor 95 = .ok (.invokevirtual 311, 3) := by decide +kernel
theorem dX12_moodFor_98 : decode cX12_moodFor 98 = .ok (.ifCond .eq 5, 3) := by decide +kernel
theorem dX12_moodFor_101 : decode cX12_moodFor 101 = .ok (.iload_n 3, 1) := by decide +kernel
theorem dX12_moodFor_102 : decode cX12_moodFor 102 = .ok (.ireturn, 1) := by decide +kernel
theorem dX12_moodFor_103 : decode cX12_moodFor 103 = .ok (.iinc 3 1, 3) := by decide +kernel
theorem dX12_moodFor_106 : decode cX12_moodFor 106 = .ok (.goto (-56), 3) := by decide +kernel
theorem dX12_moodFor_109 : decode cX12_moodFor 109 = .ok (.iconst (-1), 1) := by decide +kernel
theorem dX12_moodFor_110 : decode cX12_moodFor 110 = .ok (.ireturn, 1) := by decide +kernel
theorem dX12_rings_0 : decode cX12_rings 0 = .ok (.iload 4, 2) := by decide +kernel
theorem dX12_rings_2 : decode cX12_rings 2 = .ok (.ifCond .ne 48, 3) := by decide +kernel
theorem dX12_rings_5 : decode cX12_rings 5 = .ok (.aload_n 0, 1) := by decide +kernel
theorem dX12_rings_6 : decode cX12_rings 6 = .ok (.getfield 73, 3) := by decide +kernel
theorem dX12_rings_9 : decode cX12_rings 9 = .ok (.iload_n 1, 1) := by decide +kernel
theorem dX12_rings_10 : decode cX12_rings 10 = .ok (.iaload, 1) := by decide +kernel
theorem dX12_rings_11 : decode cX12_rings 11 = .ok (.iload_n 2, 1) := by decide +kernel
theorem dX12_rings_12 : decode cX12_rings 12 = .ok (.invokestatic 246, 3) := by decide +kernel
theorem dX12_rings_15 : decode cX12_rings 15 = .ok (.ifCond .ne 4, 3) := by decide +kernel
theorem dX12_rings_18 : decode cX12_rings 18 = .ok (.return_, 1) := by decide +kernel
theorem dX12_rings_19 : decode cX12_rings 19 = .ok (.aload_n 0, 1) := by decide +kernel
theorem dX12_rings_20 : decode cX12_rings 20 = .ok (.aload_n 0, 1) := by decide +kernel
theorem dX12_rings_21 : decode cX12_rings 21 = .ok (.getfield 333, 3) := by decide +kernel
theorem dX12_rings_24 : decode cX12_rings 24 = .ok (.ifCond .ne 8, 3) := by decide +kernel
theorem dX12_rings_27 : decode cX12_rings 27 = .ok (.iload 5, 2) := by decide +kernel
theorem dX12_rings_29 : decode cX12_rings 29 = .ok (.goto 7, 3) := by decide +kernel
theorem dX12_rings_32 : decode cX12_rings 32 = .ok (.aload_n 0, 1) := by decide +kernel
theorem dX12_rings_33 : decode cX12_rings 33 = .ok (.getfield 336, 3) := by decide +kernel
theorem dX12_rings_36 : decode cX12_rings 36 = .ok (.putfield 336, 3) := by decide +kernel
theorem dX12_rings_39 : decode cX12_rings 39 = .ok (.aload_n 0, 1) := by decide +kernel
theorem dX12_rings_40 : decode cX12_rings 40 = .ok (.dup, 1) := by decide +kernel
theorem dX12_rings_41 : decode cX12_rings 41 = .ok (.getfield 333, 3) := by decide +kernel
theorem dX12_rings_44 : decode cX12_rings 44 = .ok (.iconst 1, 1) := by decide +kernel
theorem dX12_rings_45 : decode cX12_rings 45 = .ok (.iadd, 1) := by decide +kernel
theorem dX12_rings_46 : decode cX12_rings 46 = .ok (.putfield 333, 3) := by decide +kernel
theorem dX12_rings_49 : decode cX12_rings 49 = .ok (.return_, 1) := by decide +kernel
theorem dX12_rings_50 : decode cX12_rings 50 = .ok (.iload_n 1, 1) := by decide +kernel
theorem dX12_rings_51 : decode cX12_rings 51 = .ok (.iconst 1, 1) := by decide +kernel
theorem dX12_rings_52 : decode cX12_rings 52 = .ok (.iadd, 1) := by decide +kernel
theorem dX12_rings_53 : decode cX12_rings 53 = .ok (.istore 6, 2) := by decide +kernel
theorem dX12_rings_55 : decode cX12_rings 55 = .ok (.iload 6, 2) := by decide +kernel
theorem dX12_rings_57 : decode cX12_rings 57 = .ok (.aload_n 0, 1) := by decide +kernel
theorem dX12_rings_58 : decode cX12_rings 58 = .ok (.getfield 23, 3) := by decide +kernel
theorem dX12_rings_61 : decode cX12_rings 61 = .ok (.iconst 0, 1) := by decide +kernel
theorem dX12_rings_62 : decode cX12_rings 62 = .ok (.iaload, 1) := by decide +kernel
theorem dX12_rings_63 : decode cX12_rings 63 = .ok (.if_icmp .ge 57, 3) := by decide +kernel
theorem dX12_rings_66 : decode cX12_rings 66 = .ok (.iload_n 3, 1) := by decide +kernel
theorem dX12_rings_67 : decode cX12_rings 67 = .ok (.iload 6, 2) := by decide +kernel
theorem dX12_rings_69 : decode cX12_rings 69 = .ok (.invokestatic 246, 3) := by decide +kernel
theorem dX12_rings_72 : decode cX12_rings 72 = .ok (.ifCond .ne 42, 3) := by decide +kernel
theorem dX12_rings_75 : decode cX12_rings 75 = .ok (.aload_n 0, 1) := by decide +kernel
theorem dX12_rings_76 : decode cX12_rings 76 = .ok (.getfield 73, 3) := by decide +kernel
theorem dX12_rings_79 : decode cX12_rings 79 = .ok (.iload 6, 2) := by decide +kernel
theorem dX12_rings_81 : decode cX12_rings 81 = .ok (.iaload, 1) := by decide +kernel
theorem dX12_rings_82 : decode cX12_rings 82 = .ok (.iload_n 2, 1) := by decide +kernel
theorem dX12_rings_83 : decode cX12_rings 83 = .ok (.invokestatic 246, 3) := by decide +kernel
theorem dX12_rings_86 : decode cX12_rings 86 = .ok (.ifCond .eq 28, 3) := by decide +kernel
theorem dX12_rings_89 : decode cX12_rings 89 = .ok (.aload_n 0, 1) := by decide +kernel
theorem dX12_rings_90 : decode cX12_rings 90 = .ok (.iload_n 1, 1) := by decide +kernel
theorem dX12_rings_91 : decode cX12_rings 91 = .ok (.iload 6, 2) := by decide +kernel
theorem dX12_rings_93 : decode cX12_rings 93 = .ok (.iload_n 3, 1) := by decide +kernel
theorem dX12_rings_94 : decode cX12_rings 94 = .ok (.iconst 1, 1) := by decide +kernel
theorem dX12_rings_95 : decode cX12_rings 95 = .ok (.iload 6, 2) := by decide +kernel
theorem dX12_rings_97 : decode cX12_rings 97 = .ok (.ishl, 1) := by decide +kernel
theorem dX12_rings_98 : decode cX12_rings 98 = .ok (.ior, 1) := by decide +kernel
theorem dX12_rings_99 : decode cX12_rings 99 = .ok (.iload 4, 2) := by decide +kernel
theorem dX12_rings_101 : decode cX12_rings 101 = .ok (.iconst 1, 1) := by decide +kernel
theorem dX12_rings_102 : decode cX12_rings 102 = .ok (.isub, 1) := by decide +kernel
theorem dX12_rings_103 : decode cX12_rings 103 = .ok (.bipush 10, 2) := by decide +kernel
theorem dX12_rings_105 : decode cX12_rings 105 = .ok (.iload 5, 2) := by decide +kernel
theorem dX12_rings_107 : decode cX12_rings 107 = .ok (.imul, 1) := by decide +kernel
theorem dX12_rings_108 : decode cX12_rings 108 = .ok (.iload 6, 2) := by decide +kernel
theorem dX12_rings_110 : decode cX12_rings 110 = .ok (.iadd, 1) := by decide +kernel
theorem dX12_rings_111 : decode cX12_rings 111 = .ok (.invokevirtual 339, 3) := by decide +kernel
theorem dX12_rings_114 : decode cX12_rings 114 = .ok (.iinc 6 1, 3) := by decide +kernel
theorem dX12_rings_117 : decode cX12_rings 117 = .ok (.goto (-62), 3) := by decide +kernel
theorem dX12_rings_120 : decode cX12_rings 120 = .ok (.return_, 1) := by decide +kernel
theorem dX12_ring_0 : decode cX12_ring 0 = .ok (.aload_n 0, 1) := by decide +kernel
theorem dX12_ring_1 : decode cX12_ring 1 = .ok (.iconst 0, 1) := by decide +kernel
theorem dX12_ring_2 : decode cX12_ring 2 = .ok (.putfield 94, 3) := by decide +kernel
theorem dX12_ring_5 : decode cX12_ring 5 = .ok (.aload_n 0, 1) := by decide +kernel
theorem dX12_ring_6 : decode cX12_ring 6 = .ok (.iload_n 1, 1) := by decide +kernel
theorem dX12_ring_7 : decode cX12_ring 7 = .ok (.iconst 2, 1) := by decide +kernel
theorem dX12_ring_8 : decode cX12_ring 8 = .ok (.iconst 5, 1) := by decide +kernel
theorem dX12_ring_9 : decode cX12_ring 9 = .ok (.invokestatic 128, 3) := by decide +kernel
theorem dX12_ring_12 : decode cX12_ring 12 = .ok (.ifCond .eq 12, 3) := by decide +kernel
theorem dX12_ring_15 : decode cX12_ring 15 = .ok (.iload_n 2, 1) := by decide +kernel
theorem dX12_ring_16 : decode cX12_ring 16 = .ok (.iconst 0, 1) := by decide +kernel
theorem dX12_ring_17 : decode cX12_ring 17 = .ok (.iconst 1, 1) := by decide +kernel
theorem dX12_ring_18 : decode cX12_ring 18 = .ok (.invokestatic 128, 3) := by decide +kernel
theorem dX12_ring_21 : decode cX12_ring 21 = .ok (.ifCond .ne 7, 3) := by decide +kernel
theorem dX12_ring_24 : decode cX12_ring 24 = .ok (.iconst 1, 1) := by decide +kernel
theorem dX12_ring_25 : decode cX12_ring 25 = .ok (.goto 4, 3) := by decide +kernel
theorem dX12_ring_28 : decode cX12_ring 28 = .ok (.iconst 0, 1) := by decide +kernel
theorem dX12_ring_29 : decode cX12_ring 29 = .ok (.iconst 1, 1) := by decide +kernel
theorem dX12_ring_30 : decode cX12_ring 30 = .ok (.iconst 1, 1) := by decide +kernel
theorem dX12_ring_31 : decode cX12_ring 31 = .ok (.invokevirtual 167, 3) := by decide +kernel
theorem dX12_ring_34 : decode cX12_ring 34 = .ok (.ifCond .eq 5, 3) := by decide +kernel
theorem dX12_ring_37 : decode cX12_ring 37 = .ok (.iconst 0, 1) := by decide +kernel
theorem dX12_ring_38 : decode cX12_ring 38 = .ok (.ireturn, 1) := by decide +kernel
theorem dX12_ring_39 : decode cX12_ring 39 = .ok (.aload_n 0, 1) := by decide +kernel
theorem dX12_ring_40 : decode cX12_ring 40 = .ok (.iconst 0, 1) := by decide +kernel
theorem dX12_ring_41 : decode cX12_ring 41 = .ok (.putfield 333, 3) := by decide +kernel
theorem dX12_ring_44 : decode cX12_ring 44 = .ok (.aload_n 0, 1) := by decide +kernel
theorem dX12_ring_45 : decode cX12_ring 45 = .ok (.iconst (-1), 1) := by decide +kernel
theorem dX12_ring_46 : decode cX12_ring 46 = .ok (.putfield 336, 3) := by decide +kernel
theorem dX12_ring_49 : decode cX12_ring 49 = .ok (.aload_n 0, 1) := by decide +kernel
theorem dX12_ring_50 : decode cX12_ring 50 = .ok (.invokevirtual 324, 3) := by decide +kernel
theorem dX12_ring_53 : decode cX12_ring 53 = .ok (.iconst 0, 1) := by decide +kernel
theorem dX12_ring_54 : decode cX12_ring 54 = .ok (.istore_n 3, 1) := by decide +kernel
theorem dX12_ring_55 : decode cX12_ring 55 = .ok (.iload_n 3, 1) := by decide +kernel
theorem dX12_ring_56 : decode cX12_ring 56 = .ok (.aload_n 0, 1) := by decide +kernel
theorem dX12_ring_57 : decode cX12_ring 57 = .ok (.getfield 23, 3) := by decide +kernel
theorem dX12_ring_60 : decode cX12_ring 60 = .ok (.iconst 0, 1) := by decide +kernel
theorem dX12_ring_61 : decode cX12_ring 61 = .ok (.iaload, 1) := by decide +kernel
theorem dX12_ring_62 : decode cX12_ring 62 = .ok (.if_icmp .ge 22, 3) := by decide +kernel
theorem dX12_ring_65 : decode cX12_ring 65 = .ok (.aload_n 0, 1) := by decide +kernel
theorem dX12_ring_66 : decode cX12_ring 66 = .ok (.iload_n 3, 1) := by decide +kernel
theorem dX12_ring_67 : decode cX12_ring 67 = .ok (.iload_n 3, 1) := by decide +kernel
theorem dX12_ring_68 : decode cX12_ring 68 = .ok (.iconst 1, 1) := by decide +kernel
theorem dX12_ring_69 : decode cX12_ring 69 = .ok (.iload_n 3, 1) := by decide +kernel
theorem dX12_ring_70 : decode cX12_ring 70 = .ok (.ishl, 1) := by decide +kernel
theorem dX12_ring_71 : decode cX12_ring 71 = .ok (.iload_n 1, 1) := by decide +kernel
theorem dX12_ring_72 : decode cX12_ring 72 = .ok (.iconst 1, 1) := by decide +kernel
theorem dX12_ring_73 : decode cX12_ring 73 = .ok (.isub, 1) := by decide +kernel
theorem dX12_ring_74 : decode cX12_ring 74 = .ok (.iload_n 3, 1) := by decide +kernel
theorem dX12_ring_75 : decode cX12_ring 75 = .ok (.invokevirtual 339, 3) := by decide +kernel
theorem dX12_ring_78 : decode cX12_ring 78 = .ok (.iinc 3 1, 3) := by decide +kernel
theorem dX12_ring_81 : decode cX12_ring 81 = .ok (.goto (-26), 3) := by decide +kernel
theorem dX12_ring_84 : decode cX12_ring 84 = .ok (.iload_n 2, 1) := by decide +kernel
theorem dX12_ring_85 : decode cX12_ring 85 = .ok (.ifCond .ne 10, 3) := by decide +kernel
theorem dX12_ring_88 : decode cX12_ring 88 = .ok (.aload_n 0, 1) := by decide +kernel
theorem dX12_ring_89 : decode cX12_ring 89 = .ok (.getfield 333, 3) := by decide +kernel
theorem dX12_ring_92 : decode cX12_ring 92 = .ok (.goto 7, 3) := by decide +kernel
theorem dX12_ring_95 : decode cX12_ring 95 = .ok (.aload_n 0, 1) := by decide +kernel
theorem dX12_ring_96 : decode cX12_ring 96 = .ok (.getfield 336, 3) := by decide +kernel
theorem dX12_ring_99 : decode cX12_ring 99 = .ok (.ireturn, 1) := by decide +kernel
theorem dX12_who_0 : decode cX12_who 0 = .ok (.aload_n 0, 1) := by decide +kernel
theorem dX12_who_1 : decode cX12_who 1 = .ok (.iconst 0, 1) := by decide +kernel
theorem dX12_who_2 : decode cX12_who 2 = .ok (.putfield 94, 3) := by decide +kernel
theorem dX12_who_5 : decode cX12_who 5 = .ok (.aload_n 0, 1) := by decide +kernel
theorem dX12_who_6 : decode cX12_who 6 = .ok (.aload_n 0, 1) := by decide +kernel
theorem dX12_who_7 : decode cX12_who 7 = .ok (.iload_n 2, 1) := by decide +kernel
theorem dX12_who_8 : decode cX12_who 8 = .ok (.invokevirtual 296, 3) := by decide +kernel
theorem dX12_who_11 : decode cX12_who 11 = .ok (.ifCond .ne 7, 3) := by decide +kernel
theorem dX12_who_14 : decode cX12_who 14 = .ok (.iconst 1, 1) := by decide +kernel
theorem dX12_who_15 : decode cX12_who 15 = .ok (.goto 4, 3) := by decide +kernel
theorem dX12_who_18 : decode cX12_who 18 = .ok (.iconst 0, 1) := by decide +kernel
theorem dX12_who_19 : decode cX12_who 19 = .ok (.iconst 1, 1) := by decide +kernel
theorem dX12_who_20 : decode cX12_who 20 = .ok (.iconst 0, 1) := by decide +kernel
theorem dX12_who_21 : decode cX12_who 21 = .ok (.invokevirtual 167, 3) := by decide +kernel
theorem dX12_who_24 : decode cX12_who 24 = .ok (.ifCond .ne 24, 3) := by decide +kernel
theorem dX12_who_27 : decode cX12_who 27 = .ok (.aload_n 0, 1) := by decide +kernel
theorem dX12_who_28 : decode cX12_who 28 = .ok (.iload_n 1, 1) := by decide +kernel
theorem dX12_who_29 : decode cX12_who 29 = .ok (.invokestatic 308, 3) := by decide +kernel
theorem dX12_who_32 : decode cX12_who 32 = .ok (.ifCond .ne 7, 3) := by decide +kernel
theorem dX12_who_35 : decode cX12_who 35 = .ok (.iconst 1, 1) := by decide +kernel
theorem dX12_who_36 : decode cX12_who 36 = .ok (.goto 4, 3) := by decide +kernel
theorem dX12_who_39 : decode cX12_who 39 = .ok (.iconst 0, 1) := by decide +kernel
theorem dX12_who_40 : decode cX12_who 40 = .ok (.iconst 2, 1) := by decide +kernel
theorem dX12_who_41 : decode cX12_who 41 = .ok (.iconst 1, 1) := by decide +kernel
theorem dX12_who_42 : decode cX12_who 42 = .ok (.invokevirtual 167, 3) := by decide +kernel
theorem dX12_who_45 : decode cX12_who 45 = .ok (.ifCond .eq 5, 3) := by decide +kernel
theorem dX12_who_48 : decode cX12_who 48 = .ok (.iconst 0, 1) := by decide +kernel
theorem dX12_who_49 : decode cX12_who 49 = .ok (.ireturn, 1) := by decide +kernel
theorem dX12_who_50 : decode cX12_who 50 = .ok (.iconst 0, 1) := by decide +kernel
theorem dX12_who_51 : decode cX12_who 51 = .ok (.istore_n 3, 1) := by decide +kernel
theorem dX12_who_52 : decode cX12_who 52 = .ok (.iconst 0, 1) := by decide +kernel
theorem dX12_who_53 : decode cX12_who 53 = .ok (.istore 4, 2) := by decide +kernel
theorem dX12_who_55 : decode cX12_who 55 = .ok (.iload 4, 2) := by decide +kernel
theorem dX12_who_57 : decode cX12_who 57 = .ok (.aload_n 0, 1) := by decide +kernel
theorem dX12_who_58 : decode cX12_who 58 = .ok (.getfield 23, 3) := by decide +kernel
theorem dX12_who_61 : decode cX12_who 61 = .ok (.iconst 0, 1) := by decide +kernel
theorem dX12_who_62 : decode cX12_who 62 = .ok (.iaload, 1) := by decide +kernel
theorem dX12_who_63 : decode cX12_who 63 = .ok (.if_icmp .ge 50, 3) := by decide +kernel
theorem dX12_who_66 : decode cX12_who 66 = .ok (.iload_n 3, 1) := by decide +kernel
theorem dX12_who_67 : decode cX12_who 67 = .ok (.aload_n 0, 1) := by decide +kernel
theorem dX12_who_68 : decode cX12_who 68 = .ok (.getfield 29, 3) := by decide +kernel
theorem dX12_who_71 : decode cX12_who 71 = .ok (.iload 4, 2) := by decide +kernel
theorem dX12_who_73 : decode cX12_who 73 = .ok (.iaload, 1) := by decide +kernel
theorem dX12_who_74 : decode cX12_who 74 = .ok (.iload_n 2, 1) := by decide +kernel
theorem dX12_who_75 : decode cX12_who 75 = .ok (.invokestatic 246, 3) := by decide +kernel
theorem dX12_who_78 : decode cX12_who 78 = .ok (.ifCond .ne 26, 3) := by decide +kernel
theorem dX12_who_81 : decode cX12_who 81 = .ok (.aload_n 0, 1) := by decide +kernel
theorem dX12_who_82 : decode cX12_who 82 = .ok (.aload_n 0, 1) := by decide +kernel
theorem dX12_who_83 : decode cX12_who 83 = .ok (.getfield 61, 3) := by decide +kernel
theorem dX12_who_86 : decode cX12_who 86 = .ok (.iload 4, 2) := by decide +kernel
theorem dX12_who_88 : decode cX12_who 88 = .ok (.iload_n 2, 1) := by decide +kernel
theorem dX12_who_89 : decode cX12_who 89 = .ok (.iconst 0, 1) := by decide +kernel
theorem dX12_who_90 : decode cX12_who 90 = .ok (.invokevirtual 259, 3) := by decide +kernel
theorem dX12_who_93 : decode cX12_who 93 = .ok (.iload_n 1, 1) := by decide +kernel
theorem dX12_who_94 : decode cX12_who 94 = .ok (.if_icmp .ne 10, 3) := by decide +kernel
theorem dX12_who_97 : decode cX12_who 97 = .ok (.iconst 1, 1) := by decide +kernel
theorem dX12_who_98 : decode cX12_who 98 = .ok (.iload 4, 2) := by decide +kernel
theorem dX12_who_100 : decode cX12_who 100 = .ok (.ishl, 1) := by decide +kernel
theorem dX12_who_101 : decode cX12_who 101 = .ok (.goto 4, 3) := by decide +kernel
theorem dX12_who_104 : decode cX12_who 104 = .ok (.iconst 0, 1) := by decide +kernel
theorem dX12_who_105 : decode cX12_who 105 = .ok (.ior, 1) := by decide +kernel
theorem dX12_who_106 : decode cX12_who 106 = .ok (.istore_n 3, 1) := by decide +kernel
theorem dX12_who_107 : decode cX12_who 107 = .ok (.iinc 4 1, 3) := by decide +kernel
theorem dX12_who_110 : decode cX12_who 110 = .ok (.goto (-55), 3) := by decide +kernel
theorem dX12_who_113 : decode cX12_who 113 = .ok (.iload_n 3, 1) := by decide +kernel
theorem dX12_who_114 : decode cX12_who 114 = .ok (.ireturn, 1) := by decide +kernel
theorem dX12_made_0 : decode cX12_made 0 = .ok (.aload_n 0, 1) := by decide +kernel
theorem dX12_made_1 : decode cX12_made 1 = .ok (.iconst 0, 1) := by decide +kernel
theorem dX12_made_2 : decode cX12_made 2 = .ok (.putfield 94, 3) := by decide +kernel
theorem dX12_made_5 : decode cX12_made 5 = .ok (.aload_n 0, 1) := by decide +kernel
theorem dX12_made_6 : decode cX12_made 6 = .ok (.iload_n 1, 1) := by decide +kernel
theorem dX12_made_7 : decode cX12_made 7 = .ok (.invokestatic 308, 3) := by decide +kernel
theorem dX12_made_10 : decode cX12_made 10 = .ok (.ifCond .ne 7, 3) := by decide +kernel
theorem dX12_made_13 : decode cX12_made 13 = .ok (.iconst 1, 1) := by decide +kernel
theorem dX12_made_14 : decode cX12_made 14 = .ok (.goto 4, 3) := by decide +kernel
theorem dX12_made_17 : decode cX12_made 17 = .ok (.iconst 0, 1) := by decide +kernel
theorem dX12_made_18 : decode cX12_made 18 = .ok (.iconst 1, 1) := by decide +kernel
theorem dX12_made_19 : decode cX12_made 19 = .ok (.iconst 1, 1) := by decide +kernel
theorem dX12_made_20 : decode cX12_made 20 = .ok (.invokevirtual 167, 3) := by decide +kernel
theorem dX12_made_23 : decode cX12_made 23 = .ok (.ifCond .eq 5, 3) := by decide +kernel
theorem dX12_made_26 : decode cX12_made 26 = .ok (.iconst 0, 1) := by decide +kernel
theorem dX12_made_27 : decode cX12_made 27 = .ok (.ireturn, 1) := by decide +kernel
theorem dX12_made_28 : decode cX12_made 28 = .ok (.iconst (-1), 1) := by decide +kernel
theorem dX12_made_29 : decode cX12_made 29 = .ok (.istore_n 2, 1) := by decide +kernel
theorem dX12_made_30 : decode cX12_made 30 = .ok (.iconst 1, 1) := by decide +kernel
theorem dX12_made_31 : decode cX12_made 31 = .ok (.aload_n 0, 1) := by decide +kernel
theorem dX12_made_32 : decode cX12_made 32 = .ok (.getfield 23, 3) := by decide +kernel
theorem dX12_made_35 : decode cX12_made 35 = .ok (.iconst 0, 1) := by decide +kernel
theorem dX12_made_36 : decode cX12_made 36 = .ok (.iaload, 1) := by decide +kernel
theorem dX12_made_37 : decode cX12_made 37 = .ok (.ishl, 1) := by decide +kernel
theorem dX12_made_38 : decode cX12_made 38 = .ok (.iconst 1, 1) := by decide +kernel
theorem dX12_made_39 : decode cX12_made 39 = .ok (.isub, 1) := by decide +kernel
theorem dX12_made_40 : decode cX12_made 40 = .ok (.istore_n 3, 1) := by decide +kernel
theorem dX12_made_41 : decode cX12_made 41 = .ok (.iload_n 3, 1) := by decide +kernel
theorem dX12_made_42 : decode cX12_made 42 = .ok (.ifCond .lt 84, 3) := by decide +kernel
theorem dX12_made_45 : decode cX12_made 45 = .ok (.iconst 0, 1) := by decide +kernel
theorem dX12_made_46 : decode cX12_made 46 = .ok (.istore 4, 2) := by decide +kernel
theorem dX12_made_48 : decode cX12_made 48 = .ok (.iconst 0, 1) := by decide +kernel
theorem dX12_made_49 : decode cX12_made 49 = .ok (.istore 5, 2) := by decide +kernel
theorem dX12_made_51 : decode cX12_made 51 = .ok (.iload 5, 2) := by decide +kernel
theorem dX12_made_53 : decode cX12_made 53 = .ok (.aload_n 0, 1) := by decide +kernel
theorem dX12_made_54 : decode cX12_made 54 = .ok (.getfield 23, 3) := by decide +kernel
theorem dX12_made_57 : decode cX12_made 57 = .ok (.iconst 0, 1) := by decide +kernel
theorem dX12_made_58 : decode cX12_made 58 = .ok (.iaload, 1) := by decide +kernel
theorem dX12_made_59 : decode cX12_made 59 = .ok (.if_icmp .ge 33, 3) := by decide +kernel
theorem dX12_made_62 : decode cX12_made 62 = .ok (.iload 4, 2) := by decide +kernel
theorem dX12_made_64 : decode cX12_made 64 = .ok (.iload_n 3, 1) := by decide +kernel
theorem dX12_made_65 : decode cX12_made 65 = .ok (.iload 5, 2) := by decide +kernel
theorem dX12_made_67 : decode cX12_made 67 = .ok (.invokestatic 246, 3) := by decide +kernel
theorem dX12_made_70 : decode cX12_made 70 = .ok (.ifCond .eq 12, 3) := by decide +kernel
theorem dX12_made_73 : decode cX12_made 73 = .ok (.aload_n 0, 1) := by decide +kernel
theorem dX12_made_74 : decode cX12_made 74 = .ok (.iload 5, 2) := by decide +kernel
theorem dX12_made_76 : decode cX12_made 76 = .ok (.invokevirtual 253, 3) := by decide +kernel
theorem dX12_made_79 : decode cX12_made 79 = .ok (.goto 4, 3) := by decide +kernel
theorem dX12_made_82 : decode cX12_made 82 = .ok (.iconst 0, 1) := by decide +kernel
theorem dX12_made_83 : decode cX12_made 83 = .ok (.ior, 1) := by decide +kernel
theorem dX12_made_84 : decode cX12_made 84 = .ok (.istore 4, 2) := by decide +kernel
theorem dX12_made_86 : decode cX12_made 86 = .ok (.iinc 5 1, 3) := by decide +kernel
theorem dX12_made_89 : decode cX12_made 89 = .ok (.goto (-38), 3) := by decide +kernel
theorem dX12_made_92 : decode cX12_made 92 = .ok (.iload 4, 2) := by decide +kernel
theorem dX12_made_94 : decode cX12_made 94 = .ok (.iload_n 1, 1) := by decide +kernel
theorem dX12_made_95 : decode cX12_made 95 = .ok (.if_icmp .ne 23, 3) := by decide +kernel
theorem dX12_made_98 : decode cX12_made 98 = .ok (.iload_n 2, 1) := by decide +kernel
theorem dX12_made_99 : decode cX12_made 99 = .ok (.iconst (-1), 1) := by decide +kernel
theorem dX12_made_100 : decode cX12_made 100 = .ok (.if_icmp .eq 14, 3) := by decide +kernel
theorem dX12_made_103 : decode cX12_made 103 = .ok (.iload_n 3, 1) := by decide +kernel
theorem dX12_made_104 : decode cX12_made 104 = .ok (.invokestatic 250, 3) := by decide +kernel
theorem dX12_made_107 : decode cX12_made 107 = .ok (.iload_n 2, 1) := by decide +kernel
theorem dX12_made_108 : decode cX12_made 108 = .ok (.invokestatic 250, 3) := by decide +kernel
theorem dX12_made_111 : decode cX12_made 111 = .ok (.if_icmp .gt 7, 3) := by decide +kernel
theorem dX12_made_114 : decode cX12_made 114 = .ok (.iload_n 3, 1) := by decide +kernel
theorem dX12_made_115 : decode cX12_made 115 = .ok (.goto 4, 3) := by decide +kernel
theorem dX12_made_118 : decode cX12_made 118 = .ok (.iload_n 2, 1) := by decide +kernel
theorem dX12_made_119 : decode cX12_made 119 = .ok (.istore_n 2, 1) := by decide +kernel
theorem dX12_made_120 : decode cX12_made 120 = .ok (.iinc 3 (-1), 3) := by decide +kernel
theorem dX12_made_123 : decode cX12_made 123 = .ok (.goto (-82), 3) := by decide +kernel
theorem dX12_made_126 : decode cX12_made 126 = .ok (.iload_n 2, 1) := by decide +kernel
theorem dX12_made_127 : decode cX12_made 127 = .ok (.ireturn, 1) := by decide +kernel
theorem dX12_isSaid_0 : decode cX12_isSaid 0 = .ok (.iconst 0, 1) := by decide +kernel
theorem dX12_isSaid_1 : decode cX12_isSaid 1 = .ok (.istore_n 2, 1) := by decide +kernel
theorem dX12_isSaid_2 : decode cX12_isSaid 2 = .ok (.iload_n 2, 1) := by decide +kernel
theorem dX12_isSaid_3 : decode cX12_isSaid 3 = .ok (.aload_n 0, 1) := by decide +kernel
theorem dX12_isSaid_4 : decode cX12_isSaid 4 = .ok (.getfield 187, 3) := by decide +kernel
theorem dX12_isSaid_7 : decode cX12_isSaid 7 = .ok (.if_icmp .ge 42, 3) := by decide +kernel
theorem dX12_isSaid_10 : decode cX12_isSaid 10 = .ok (.bipush 6, 2) := by decide +kernel
theorem dX12_isSaid_12 : decode cX12_isSaid 12 = .ok (.iload_n 1, 1) := by decide +kernel
theorem dX12_isSaid_13 : decode cX12_isSaid 13 = .ok (.aload_n 0, 1) := by decide +kernel
theorem dX12_isSaid_14 : decode cX12_isSaid 14 = .ok (.aload_n 0, 1) := by decide +kernel
theorem dX12_isSaid_15 : decode cX12_isSaid 15 = .ok (.getfield 46, 3) := by decide +kernel
theorem dX12_isSaid_18 : decode cX12_isSaid 18 = .ok (.iload_n 2, 1) := by decide +kernel
theorem dX12_isSaid_19 : decode cX12_isSaid 19 = .ok (.aaload, 1) := by decide +kernel
theorem dX12_isSaid_20 : decode cX12_isSaid 20 = .ok (.iconst 0, 1) := by decide +kernel
theorem dX12_isSaid_21 : decode cX12_isSaid 21 = .ok (.iaload, 1) := by decide +kernel
theorem dX12_isSaid_22 : decode cX12_isSaid 22 = .ok (.invokevirtual 253, 3) := by decide +kernel
theorem dX12_isSaid_25 : decode cX12_isSaid 25 = .ok (.ixor, 1) := by decide +kernel
theorem dX12_isSaid_26 : decode cX12_isSaid 26 = .ok (.invokestatic 250, 3) := by decide +kernel
theorem dX12_isSaid_29 : decode cX12_isSaid 29 = .ok (.isub, 1) := by decide +kernel
theorem dX12_isSaid_30 : decode cX12_isSaid 30 = .ok (.aload_n 0, 1) := by decide +kernel
theorem dX12_isSaid_31 : decode cX12_isSaid 31 = .ok (.getfield 46, 3) := by decide +kernel
theorem dX12_isSaid_34 : decode cX12_isSaid 34 = .ok (.iload_n 2, 1) := by decide +kernel
theorem dX12_isSaid_35 : decode cX12_isSaid 35 = .ok (.aaload, 1) := by decide +kernel
theorem dX12_isSaid_36 : decode cX12_isSaid 36 = .ok (.iconst 1, 1) := by decide +kernel
theorem dX12_isSaid_37 : decode cX12_isSaid 37 = .ok (.iaload, 1) := by decide +kernel
theorem dX12_isSaid_38 : decode cX12_isSaid 38 = .ok (.if_icmp .eq 5, 3) := by decide +kernel
theorem dX12_isSaid_41 : decode cX12_isSaid 41 = .ok (.iconst 0, 1) := by decide +kernel
theorem dX12_isSaid_42 : decode cX12_isSaid 42 = .ok (.ireturn, 1) := by decide +kernel
theorem dX12_isSaid_43 : decode cX12_isSaid 43 = .ok (.iinc 2 1, 3) := by decide +kernel
theorem dX12_isSaid_46 : decode cX12_isSaid 46 = .ok (.goto (-44), 3) := by decide +kernel
theorem dX12_isSaid_49 : decode cX12_isSaid 49 = .ok (.iconst 1, 1) := by decide +kernel
theorem dX12_isSaid_50 : decode cX12_isSaid 50 = .ok (.ireturn, 1) := by decide +kernel
theorem dX12_unknown_0 : decode cX12_unknown 0 = .ok (.aload_n 0, 1) := by decide +kernel
theorem dX12_unknown_1 : decode cX12_unknown 1 = .ok (.iconst 0, 1) := by decide +kernel
theorem dX12_unknown_2 : decode cX12_unknown 2 = .ok (.putfield 94, 3) := by decide +kernel
theorem dX12_unknown_5 : decode cX12_unknown 5 = .ok (.aload_n 0, 1) := by decide +kernel
theorem dX12_unknown_6 : decode cX12_unknown 6 = .ok (.iload_n 1, 1) := by decide +kernel
theorem dX12_unknown_7 : decode cX12_unknown 7 = .ok (.iconst 0, 1) := by decide +kernel
theorem dX12_unknown_8 : decode cX12_unknown 8 = .ok (.iconst 3, 1) := by decide +kernel
theorem dX12_unknown_9 : decode cX12_unknown 9 = .ok (.invokestatic 128, 3) := by decide +kernel
theorem dX12_unknown_12 : decode cX12_unknown 12 = .ok (.ifCond .ne 7, 3) := by decide +kernel
theorem dX12_unknown_15 : decode cX12_unknown 15 = .ok (.iconst 1, 1) := by decide +kernel
theorem dX12_unknown_16 : decode cX12_unknown 16 = .ok (.goto 4, 3) := by decide +kernel
theorem dX12_unknown_19 : decode cX12_unknown 19 = .ok (.iconst 0, 1) := by decide +kernel
theorem dX12_unknown_20 : decode cX12_unknown 20 = .ok (.iconst 1, 1) := by decide +kernel
theorem dX12_unknown_21 : decode cX12_unknown 21 = .ok (.iconst 1, 1) := by decide +kernel
theorem dX12_unknown_22 : decode cX12_unknown 22 = .ok (.invokevirtual 167, 3) := by decide +kernel
theorem dX12_unknown_25 : decode cX12_unknown 25 = .ok (.ifCond .eq 5, 3) := by decide +kernel
theorem dX12_unknown_28 : decode cX12_unknown 28 = .ok (.iconst 0, 1) := by decide +kernel
theorem dX12_unknown_29 : decode cX12_unknown 29 = .ok (.ireturn, 1) := by decide +kernel
theorem dX12_unknown_30 : decode cX12_unknown 30 = .ok (.iconst 0, 1) := by decide +kernel
theorem dX12_unknown_31 : decode cX12_unknown 31 = .ok (.istore_n 2, 1) := by decide +kernel
theorem dX12_unknown_32 : decode cX12_unknown 32 = .ok (.iconst (-1), 1) := by decide +kernel
theorem dX12_unknown_33 : decode cX12_unknown 33 = .ok (.istore_n 3, 1) := by decide +kernel
theorem dX12_unknown_34 : decode cX12_unknown 34 = .ok (.bipush 63, 2) := by decide +kernel
theorem dX12_unknown_36 : decode cX12_unknown 36 = .ok (.istore 4, 2) := by decide +kernel
theorem dX12_unknown_38 : decode cX12_unknown 38 = .ok (.iconst 0, 1) := by decide +kernel
theorem dX12_unknown_39 : decode cX12_unknown 39 = .ok (.istore 5, 2) := by decide +kernel
theorem dX12_unknown_41 : decode cX12_unknown 41 = .ok (.iconst 0, 1) := by decide +kernel
theorem dX12_unknown_42 : decode cX12_unknown 42 = .ok (.istore 6, 2) := by decide +kernel
theorem dX12_unknown_44 : decode cX12_unknown 44 = .ok (.iload 6, 2) := by decide +kernel
theorem dX12_unknown_46 : decode cX12_unknown 46 = .ok (.bipush 64, 2) := by decide +kernel
theorem dX12_unknown_48 : decode cX12_unknown 48 = .ok (.if_icmp .ge 49, 3) := by decide +kernel
theorem dX12_unknown_51 : decode cX12_unknown 51 = .ok (.aload_n 0, 1) := by decide +kernel
theorem dX12_unknown_52 : decode cX12_unknown 52 = .ok (.iload 6, 2) := by decide +kernel
theorem dX12_unknown_54 : decode cX12_unknown 54 = .ok (.invokevirtual 343, 3) := by decide +kernel
theorem dX12_unknown_57 : decode cX12_unknown 57 = .ok (.ifCond .ne 6, 3) := by decide +kernel
theorem dX12_unknown_60 : decode cX12_unknown 60 = .ok (.goto 31, 3) := by decide +kernel
theorem dX12_unknown_63 : decode cX12_unknown 63 = .ok (.iload_n 2, 1) := by decide +kernel
theorem dX12_unknown_64 : decode cX12_unknown 64 = .ok (.ifCond .ne 8, 3) := by decide +kernel
theorem dX12_unknown_67 : decode cX12_unknown 67 = .ok (.iload 6, 2) := by decide +kernel
theorem dX12_unknown_69 : decode cX12_unknown 69 = .ok (.goto 4, 3) := by decide +kernel
theorem dX12_unknown_72 : decode cX12_unknown 72 = .ok (.iload_n 3, 1) := by decide +kernel
theorem dX12_unknown_73 : decode cX12_unknown 73 = .ok (.istore_n 3, 1) := by decide +kernel
theorem dX12_unknown_74 : decode cX12_unknown 74 = .ok (.iload 4, 2) := by decide +kernel
theorem dX12_unknown_76 : decode cX12_unknown 76 = .ok (.iload 6, 2) := by decide +kernel
theorem dX12_unknown_78 : decode cX12_unknown 78 = .ok (.iand, 1) := by decide +kernel
theorem dX12_unknown_79 : decode cX12_unknown 79 = .ok (.istore 4, 2) := by decide +kernel
theorem dX12_unknown_81 : decode cX12_unknown 81 = .ok (.iload 5, 2) := by decide +kernel
theorem dX12_unknown_83 : decode cX12_unknown 83 = .ok (.iload 6, 2) := by decide +kernel
theorem dX12_unknown_85 : decode cX12_unknown 85 = .ok (.ior, 1) := by decide +kernel
theorem dX12_unknown_86 : decode cX12_unknown 86 = .ok (.istore 5, 2) := by decide +kernel
theorem dX12_unknown_88 : decode cX12_unknown 88 = .ok (.iinc 2 1, 3) := by decide +kernel
theorem dX12_unknown_91 : decode cX12_unknown 91 = .ok (.iinc 6 1, 3) := by decide +kernel
theorem dX12_unknown_94 : decode cX12_unknown 94 = .ok (.goto (-50), 3) := by decide +kernel
theorem dX12_unknown_97 : decode cX12_unknown 97 = .ok (.iload_n 1, 1) := by decide +kernel
theorem dX12_unknown_98 : decode cX12_unknown 98 = .ok (.iconst 2, 1) := by decide +kernel
theorem dX12_unknown_99 : decode cX12_unknown 99 = .ok (.if_icmp .ge 13, 3) := by decide +kernel
theorem dX12_unknown_102 : decode cX12_unknown 102 = .ok (.iload_n 1, 1) := by decide +kernel
theorem dX12_unknown_103 : decode cX12_unknown 103 = .ok (.ifCond .ne 7, 3) := by decide +kernel
theorem dX12_unknown_106 : decode cX12_unknown 106 = .ok (.iload_n 2, 1) := by decide +kernel
theorem dX12_unknown_107 : decode cX12_unknown 107 = .ok (.goto 4, 3) := by decide +kernel
theorem dX12_unknown_110 : decode cX12_unknown 110 = .ok (.iload_n 3, 1) := by decide +kernel
theorem dX12_unknown_111 : decode cX12_unknown 111 = .ok (.ireturn, 1) := by decide +kernel
theorem dX12_unknown_112 : decode cX12_unknown 112 = .ok (.iload_n 2, 1) := by decide +kernel
theorem dX12_unknown_113 : decode cX12_unknown 113 = .ok (.ifCond .ne 7, 3) := by decide +kernel
theorem dX12_unknown_116 : decode cX12_unknown 116 = .ok (.iconst 0, 1) := by decide +kernel
theorem dX12_unknown_117 : decode cX12_unknown 117 = .ok (.goto 18, 3) := by decide +kernel
theorem dX12_unknown_120 : decode cX12_unknown 120 = .ok (.iload_n 1, 1) := by decide +kernel
theorem dX12_unknown_121 : decode cX12_unknown 121 = .ok (.iconst 2, 1) := by decide +kernel
theorem dX12_unknown_122 : decode cX12_unknown 122 = .ok (.if_icmp .ne 8, 3) := by decide +kernel
theorem dX12_unknown_125 : decode cX12_unknown 125 = .ok (.iload 4, 2) := by decide +kernel
theorem dX12_unknown_127 : decode cX12_unknown 127 = .ok (.goto 8, 3) := by decide +kernel
theorem dX12_unknown_130 : decode cX12_unknown 130 = .ok (.bipush 63, 2) := by decide +kernel
theorem dX12_unknown_132 : decode cX12_unknown 132 = .ok (.iload 5, 2) := by decide +kernel
theorem dX12_unknown_134 : decode cX12_unknown 134 = .ok (.isub, 1) := by decide +kernel
theorem dX12_unknown_135 : decode cX12_unknown 135 = .ok (.ireturn, 1) := by decide +kernel
theorem dX12_worstAt_0 : decode cX12_worstAt 0 = .ok (.iconst 0, 1) := by decide +kernel
theorem dX12_worstAt_1 : decode cX12_worstAt 1 = .ok (.istore_n 2, 1) := by decide +kernel
theorem dX12_worstAt_2 : decode cX12_worstAt 2 = .ok (.iconst 0, 1) := by decide +kernel
theorem dX12_worstAt_3 : decode cX12_worstAt 3 = .ok (.istore_n 3, 1) := by decide +kernel
theorem dX12_worstAt_4 : decode cX12_worstAt 4 = .ok (.iload_n 3, 1) := by decide +kernel
theorem dX12_worstAt_5 : decode cX12_worstAt 5 = .ok (.bipush 6, 2) := by decide +kernel
theorem dX12_worstAt_7 : decode cX12_worstAt 7 = .ok (.if_icmp .gt 16, 3) := by decide +kernel
theorem dX12_worstAt_10 : decode cX12_worstAt 10 = .ok (.aload_n 0, 1) := by decide +kernel
theorem dX12_worstAt_11 : decode cX12_worstAt 11 = .ok (.getfield 76, 3) := by decide +kernel
theorem dX12_worstAt_14 : decode cX12_worstAt 14 = .ok (.iload_n 3, 1) := by decide +kernel
theorem dX12_worstAt_15 : decode cX12_worstAt 15 = .ok (.iconst 0, 1) := by decide +kernel
theorem dX12_worstAt_16 : decode cX12_worstAt 16 = .ok (.iastore, 1) := by decide +kernel
theorem dX12_worstAt_17 : decode cX12_worstAt 17 = .ok (.iinc 3 1, 3) := by decide +kernel
theorem dX12_worstAt_20 : decode cX12_worstAt 20 = .ok (.goto (-16), 3) := by decide +kernel
theorem dX12_worstAt_23 : decode cX12_worstAt 23 = .ok (.iconst 0, 1) := by decide +kernel
theorem dX12_worstAt_24 : decode cX12_worstAt 24 = .ok (.istore_n 3, 1) := by decide +kernel
theorem dX12_worstAt_25 : decode cX12_worstAt 25 = .ok (.iload_n 3, 1) := by decide +kernel
theorem dX12_worstAt_26 : decode cX12_worstAt 26 = .ok (.bipush 64, 2) := by decide +kernel
theorem dX12_worstAt_28 : decode cX12_worstAt 28 = .ok (.if_icmp .ge 36, 3) := by decide +kernel
theorem dX12_worstAt_31 : decode cX12_worstAt 31 = .ok (.aload_n 0, 1) := by decide +kernel
theorem dX12_worstAt_32 : decode cX12_worstAt 32 = .ok (.iload_n 3, 1) := by decide +kernel
theorem dX12_worstAt_33 : decode cX12_worstAt 33 = .ok (.invokevirtual 343, 3) := by decide +kernel
theorem dX12_worstAt_36 : decode cX12_worstAt 36 = .ok (.ifCond .eq 22, 3) := by decide +kernel
theorem dX12_worstAt_39 : decode cX12_worstAt 39 = .ok (.aload_n 0, 1) := by decide +kernel
theorem dX12_worstAt_40 : decode cX12_worstAt 40 = .ok (.getfield 76, 3) := by decide +kernel
theorem dX12_worstAt_43 : decode cX12_worstAt 43 = .ok (.iload_n 3, 1) := by decide +kernel
theorem dX12_worstAt_44 : decode cX12_worstAt 44 = .ok (.aload_n 0, 1) := by decide +kernel
theorem dX12_worstAt_45 : decode cX12_worstAt 45 = .ok (.iload_n 1, 1) := by decide +kernel
theorem dX12_worstAt_46 : decode cX12_worstAt 46 = .ok (.invokevirtual 253, 3) := by decide +kernel
theorem dX12_worstAt_49 : decode cX12_worstAt 49 = .ok (.ixor, 1) := by decide +kernel
theorem dX12_worstAt_50 : decode cX12_worstAt 50 = .ok (.invokestatic 250, 3) := by decide +kernel
theorem dX12_worstAt_53 : decode cX12_worstAt 53 = .ok (.dup2, 1) := by decide +kernel
theorem dX12_worstAt_54 : decode cX12_worstAt 54 = .ok (.iaload, 1) := by decide +kernel
theorem dX12_worstAt_55 : decode cX12_worstAt 55 = .ok (.iconst 1, 1) := by decide +kernel
theorem dX12_worstAt_56 : decode cX12_worstAt 56 = .ok (.iadd, 1) := by decide +kernel
theorem dX12_worstAt_57 : decode cX12_worstAt 57 = .ok (.iastore, 1) := by decide +kernel
theorem dX12_worstAt_58 : decode cX12_worstAt 58 = .ok (.iinc 3 1, 3) := by decide +kernel
theorem dX12_worstAt_61 : decode cX12_worstAt 61 = .ok (.goto (-36), 3) := by decide +kernel
theorem dX12_worstAt_64 : decode cX12_worstAt 64 = .ok (.iconst 0, 1) := by decide +kernel
theorem dX12_worstAt_65 : decode cX12_worstAt 65 = .ok (.istore_n 3, 1) := by decide +kernel
theorem dX12_worstAt_66 : decode cX12_worstAt 66 = .ok (.iload_n 3, 1) := by decide +kernel
theorem dX12_worstAt_67 : decode cX12_worstAt 67 = .ok (.bipush 6, 2) := by decide +kernel
theorem dX12_worstAt_69 : decode cX12_worstAt 69 = .ok (.if_icmp .gt 20, 3) := by decide +kernel
theorem dX12_worstAt_72 : decode cX12_worstAt 72 = .ok (.iload_n 2, 1) := by decide +kernel
theorem dX12_worstAt_73 : decode cX12_worstAt 73 = .ok (.aload_n 0, 1) := by decide +kernel
theorem dX12_worstAt_74 : decode cX12_worstAt 74 = .ok (.getfield 76, 3) := by decide +kernel
theorem dX12_worstAt_77 : decode cX12_worstAt 77 = .ok (.iload_n 3, 1) := by decide +kernel
theorem dX12_worstAt_78 : decode cX12_worstAt 78 = .ok (.iaload, 1) := by decide +kernel
theorem dX12_worstAt_79 : decode cX12_worstAt 79 = .ok (.invokestatic 230, 3) := by decide +kernel
theorem dX12_worstAt_82 : decode cX12_worstAt 82 = .ok (.istore_n 2, 1) := by decide +kernel
theorem dX12_worstAt_83 : decode cX12_worstAt 83 = .ok (.iinc 3 1, 3) := by decide +kernel
theorem dX12_worstAt_86 : decode cX12_worstAt 86 = .ok (.goto (-20), 3) := by decide +kernel
theorem dX12_worstAt_89 : decode cX12_worstAt 89 = .ok (.iload_n 2, 1) := by decide +kernel
theorem dX12_worstAt_90 : decode cX12_worstAt 90 = .ok (.ireturn, 1) := by decide +kernel
theorem dX12_isTold_0 : decode cX12_isTold 0 = .ok (.iconst 0, 1) := by decide +kernel
theorem dX12_isTold_1 : decode cX12_isTold 1 = .ok (.istore_n 2, 1) := by decide +kernel
theorem dX12_isTold_2 : decode cX12_isTold 2 = .ok (.iload_n 2, 1) := by decide +kernel
theorem dX12_isTold_3 : decode cX12_isTold 3 = .ok (.aload_n 0, 1) := by decide +kernel
theorem dX12_isTold_4 : decode cX12_isTold 4 = .ok (.getfield 187, 3) := by decide +kernel
theorem dX12_isTold_7 : decode cX12_isTold 7 = .ok (.if_icmp .ge 23, 3) := by decide +kernel
theorem dX12_isTold_10 : decode cX12_isTold 10 = .ok (.aload_n 0, 1) := by decide +kernel
theorem dX12_isTold_11 : decode cX12_isTold 11 = .ok (.getfield 46, 3) := by decide +kernel
theorem dX12_isTold_14 : decode cX12_isTold 14 = .ok (.iload_n 2, 1) := by decide +kernel
theorem dX12_isTold_15 : decode cX12_isTold 15 = .ok (.aaload, 1) := by decide +kernel
theorem dX12_isTold_16 : decode cX12_isTold 16 = .ok (.iconst 0, 1) := by decide +kernel
theorem dX12_isTold_17 : decode cX12_isTold 17 = .ok (.iaload, 1) := by decide +kernel
theorem dX12_isTold_18 : decode cX12_isTold 18 = .ok (.iload_n 1, 1) := by decide +kernel
theorem dX12_isTold_19 : decode cX12_isTold 19 = .ok (.if_icmp .ne 5, 3) := by decide +kernel
theorem dX12_isTold_22 : decode cX12_isTold 22 = .ok (.iconst 1, 1) := by decide +kernel
theorem dX12_isTold_23 : decode cX12_isTold 23 = .ok (.ireturn, 1) := by decide +kernel
theorem dX12_isTold_24 : decode cX12_isTold 24 = .ok (.iinc 2 1, 3) := by decide +kernel
theorem dX12_isTold_27 : decode cX12_isTold 27 = .ok (.goto (-25), 3) := by decide +kernel
theorem dX12_isTold_30 : decode cX12_isTold 30 = .ok (.iconst 0, 1) := by decide +kernel
theorem dX12_isTold_31 : decode cX12_isTold 31 = .ok (.ireturn, 1) := by decide +kernel
theorem dX12_hold_0 : decode cX12_hold 0 = .ok (.aload_n 0, 1) := by decide +kernel
theorem dX12_hold_1 : decode cX12_hold 1 = .ok (.iconst 0, 1) := by decide +kernel
theorem dX12_hold_2 : decode cX12_hold 2 = .ok (.putfield 94, 3) := by decide +kernel
theorem dX12_hold_5 : decode cX12_hold 5 = .ok (.aload_n 0, 1) := by decide +kernel
theorem dX12_hold_6 : decode cX12_hold 6 = .ok (.iload_n 1, 1) := by decide +kernel
theorem dX12_hold_7 : decode cX12_hold 7 = .ok (.iconst 0, 1) := by decide +kernel
theorem dX12_hold_8 : decode cX12_hold 8 = .ok (.iconst 1, 1) := by decide +kernel
theorem dX12_hold_9 : decode cX12_hold 9 = .ok (.invokestatic 128, 3) := by decide +kernel
theorem dX12_hold_12 : decode cX12_hold 12 = .ok (.ifCond .ne 7, 3) := by decide +kernel
theorem dX12_hold_15 : decode cX12_hold 15 = .ok (.iconst 1, 1) := by decide +kernel
theorem dX12_hold_16 : decode cX12_hold 16 = .ok (.goto 4, 3) := by decide +kernel
theorem dX12_hold_19 : decode cX12_hold 19 = .ok (.iconst 0, 1) := by decide +kernel
theorem dX12_hold_20 : decode cX12_hold 20 = .ok (.iconst 1, 1) := by decide +kernel
theorem dX12_hold_21 : decode cX12_hold 21 = .ok (.iconst 1, 1) := by decide +kernel
theorem dX12_hold_22 : decode cX12_hold 22 = .ok (.invokevirtual 167, 3) := by decide +kernel
theorem dX12_hold_25 : decode cX12_hold 25 = .ok (.ifCond .eq 5, 3) := by decide +kernel
theorem dX12_hold_28 : decode cX12_hold 28 = .ok (.iconst 0, 1) := by decide +kernel
theorem dX12_hold_29 : decode cX12_hold 29 = .ok (.ireturn, 1) := by decide +kernel
theorem dX12_hold_30 : decode cX12_hold 30 = .ok (.iconst (-1), 1) := by decide +kernel
theorem dX12_hold_31 : decode cX12_hold 31 = .ok (.istore_n 2, 1) := by decide +kernel
theorem dX12_hold_32 : decode cX12_hold 32 = .ok (.iconst (-1), 1) := by decide +kernel
theorem dX12_hold_33 : decode cX12_hold 33 = .ok (.istore_n 3, 1) := by decide +kernel
theorem dX12_hold_34 : decode cX12_hold 34 = .ok (.iconst 0, 1) := by decide +kernel
theorem dX12_hold_35 : decode cX12_hold 35 = .ok (.istore 4, 2) := by decide +kernel
theorem dX12_hold_37 : decode cX12_hold 37 = .ok (.iload 4, 2) := by decide +kernel
theorem dX12_hold_39 : decode cX12_hold 39 = .ok (.aload_n 0, 1) := by decide +kernel
theorem dX12_hold_40 : decode cX12_hold 40 = .ok (.getfield 23, 3) := by decide +kernel
theorem dX12_hold_43 : decode cX12_hold 43 = .ok (.iconst 0, 1) := by decide +kernel
theorem dX12_hold_44 : decode cX12_hold 44 = .ok (.iaload, 1) := by decide +kernel
theorem dX12_hold_45 : decode cX12_hold 45 = .ok (.if_icmp .ge 49, 3) := by decide +kernel
theorem dX12_hold_48 : decode cX12_hold 48 = .ok (.aload_n 0, 1) := by decide +kernel
theorem dX12_hold_49 : decode cX12_hold 49 = .ok (.iload 4, 2) := by decide +kernel
theorem dX12_hold_51 : decode cX12_hold 51 = .ok (.invokevirtual 346, 3) := by decide +kernel
theorem dX12_hold_54 : decode cX12_hold 54 = .ok (.ifCond .eq 6, 3) := by decide +kernel
theorem dX12_hold_57 : decode cX12_hold 57 = .ok (.goto 31, 3) := by decide +kernel
theorem dX12_hold_60 : decode cX12_hold 60 = .ok (.aload_n 0, 1) := by decide +kernel
theorem dX12_hold_61 : decode cX12_hold 61 = .ok (.iload 4, 2) := by decide +kernel
theorem dX12_hold_63 : decode cX12_hold 63 = .ok (.invokevirtual 349, 3) := by decide +kernel
theorem dX12_hold_66 : decode cX12_hold 66 = .ok (.istore 5, 2) := by decide +kernel
theorem dX12_hold_68 : decode cX12_hold 68 = .ok (.iload_n 2, 1) := by decide +kernel
theorem dX12_hold_69 : decode cX12_hold 69 = .ok (.iconst (-1), 1) := by decide +kernel
theorem dX12_hold_70 : decode cX12_hold 70 = .ok (.if_icmp .eq 12, 3) := by decide +kernel
theorem dX12_hold_73 : decode cX12_hold 73 = .ok (.iload 5, 2) := by decide +kernel
theorem dX12_hold_75 : decode cX12_hold 75 = .ok (.iload_n 3, 1) := by decide +kernel
theorem dX12_hold_76 : decode cX12_hold 76 = .ok (.if_icmp .lt 6, 3) := by decide +kernel
theorem dX12_hold_79 : decode cX12_hold 79 = .ok (.goto 9, 3) := by decide +kernel
theorem dX12_hold_82 : decode cX12_hold 82 = .ok (.iload 4, 2) := by decide +kernel
theorem dX12_hold_84 : decode cX12_hold 84 = .ok (.istore_n 2, 1) := by decide +kernel
theorem dX12_hold_85 : decode cX12_hold 85 = .ok (.iload 5, 2) := by decide +kernel
theorem dX12_hold_87 : decode cX12_hold 87 = .ok (.istore_n 3, 1) := by decide +kernel
theorem dX12_hold_88 : decode cX12_hold 88 = .ok (.iinc 4 1, 3) := by decide +kernel
theorem dX12_hold_91 : decode cX12_hold 91 = .ok (.goto (-54), 3) := by decide +kernel
theorem dX12_hold_94 : decode cX12_hold 94 = .ok (.iload_n 1, 1) := by decide +kernel
theorem dX12_hold_95 : decode cX12_hold 95 = .ok (.ifCond .ne 7, 3) := by decide +kernel
theorem dX12_hold_98 : decode cX12_hold 98 = .ok (.iload_n 2, 1) := by decide +kernel
theorem dX12_hold_99 : decode cX12_hold 99 = .ok (.goto 4, 3) := by decide +kernel
theorem dX12_hold_102 : decode cX12_hold 102 = .ok (.iload_n 3, 1) := by decide +kernel
theorem dX12_hold_103 : decode cX12_hold 103 = .ok (.ireturn, 1) := by decide +kernel
theorem dX12_carriesFrom_0 : decode cX12_carriesFrom 0 = .ok (.bipush 8, 2) := by decide +kernel
theorem dX12_carriesFrom_2 : decode cX12_carriesFrom 2 = .ok (.aload_n 0, 1) := by decide +kernel
theorem dX12_carriesFrom_3 : decode cX12_carriesFrom 3 = .ok (.getfield 61, 3) := by decide +kernel
theorem dX12_carriesFrom_6 : decode cX12_carriesFrom 6 = .ok (.bipush 24, 2) := by decide +kernel
theorem dX12_carriesFrom_8 : decode cX12_carriesFrom 8 = .ok (.iaload, 1) := by decide +kernel
theorem dX12_carriesFrom_9 : decode cX12_carriesFrom 9 = .ok (.invokestatic 227, 3) := by decide +kernel
theorem dX12_carriesFrom_12 : decode cX12_carriesFrom 12 = .ok (.iload_n 2, 1) := by decide +kernel
theorem dX12_carriesFrom_13 : decode cX12_carriesFrom 13 = .ok (.invokestatic 250, 3) := by decide +kernel
theorem dX12_carriesFrom_16 : decode cX12_carriesFrom 16 = .ok (.isub, 1) := by decide +kernel
theorem dX12_carriesFrom_17 : decode cX12_carriesFrom 17 = .ok (.istore 4, 2) := by decide +kernel
theorem dX12_carriesFrom_19 : decode cX12_carriesFrom 19 = .ok (.iload_n 3, 1) := by decide +kernel
theorem dX12_carriesFrom_20 : decode cX12_carriesFrom 20 = .ok (.aload_n 0, 1) := by decide +kernel
theorem dX12_carriesFrom_21 : decode cX12_carriesFrom 21 = .ok (.getfield 23, 3) := by decide +kernel
theorem dX12_carriesFrom_24 : decode cX12_carriesFrom 24 = .ok (.iconst 0, 1) := by decide +kernel
theorem dX12_carriesFrom_25 : decode cX12_carriesFrom 25 = .ok (.iaload, 1) := by decide +kernel
theorem dX12_carriesFrom_26 : decode cX12_carriesFrom 26 = .ok (.iload_n 1, 1) := by decide +kernel
theorem dX12_carriesFrom_27 : decode cX12_carriesFrom 27 = .ok (.isub, 1) := by decide +kernel
theorem dX12_carriesFrom_28 : decode cX12_carriesFrom 28 = .ok (.iload 4, 2) := by decide +kernel
theorem dX12_carriesFrom_30 : decode cX12_carriesFrom 30 = .ok (.invokestatic 227, 3) := by decide +kernel
theorem dX12_carriesFrom_33 : decode cX12_carriesFrom 33 = .ok (.iadd, 1) := by decide +kernel
theorem dX12_carriesFrom_34 : decode cX12_carriesFrom 34 = .ok (.aload_n 0, 1) := by decide +kernel
theorem dX12_carriesFrom_35 : decode cX12_carriesFrom 35 = .ok (.getfield 352, 3) := by decide +kernel
theorem dX12_carriesFrom_38 : decode cX12_carriesFrom 38 = .ok (.if_icmp .gt 4, 3) := by decide +kernel
theorem dX12_carriesFrom_41 : decode cX12_carriesFrom 41 = .ok (.return_, 1) := by decide +kernel
theorem dX12_carriesFrom_42 : decode cX12_carriesFrom 42 = .ok (.iload_n 1, 1) := by decide +kernel
theorem dX12_carriesFrom_43 : decode cX12_carriesFrom 43 = .ok (.aload_n 0, 1) := by decide +kernel
theorem dX12_carriesFrom_44 : decode cX12_carriesFrom 44 = .ok (.getfield 23, 3) := by decide +kernel
theorem dX12_carriesFrom_47 : decode cX12_carriesFrom 47 = .ok (.iconst 0, 1) := by decide +kernel
theorem dX12_carriesFrom_48 : decode cX12_carriesFrom 48 = .ok (.iaload, 1) := by decide +kernel
theorem dX12_carriesFrom_49 : decode cX12_carriesFrom 49 = .ok (.if_icmp .ne 38, 3) := by decide +kernel
theorem dX12_carriesFrom_52 : decode cX12_carriesFrom 52 = .ok (.aload_n 0, 1) := by decide +kernel
theorem dX12_carriesFrom_53 : decode cX12_carriesFrom 53 = .ok (.iload_n 3, 1) := by decide +kernel
theorem dX12_carriesFrom_54 : decode cX12_carriesFrom 54 = .ok (.putfield 352, 3) := by decide +kernel
theorem dX12_carriesFrom_57 : decode cX12_carriesFrom 57 = .ok (.iconst 0, 1) := by decide +kernel
theorem dX12_carriesFrom_58 : decode cX12_carriesFrom 58 = .ok (.istore 5, 2) := by decide +kernel
theorem dX12_carriesFrom_60 : decode cX12_carriesFrom 60 = .ok (.iload 5, 2) := by decide +kernel
theorem dX12_carriesFrom_62 : decode cX12_carriesFrom 62 = .ok (.iload_n 1, 1) := by decide +kernel
theorem dX12_carriesFrom_63 : decode cX12_carriesFrom 63 = .ok (.if_icmp .ge 23, 3) := by decide +kernel
theorem dX12_carriesFrom_66 : decode cX12_carriesFrom 66 = .ok (.aload_n 0, 1) := by decide +kernel
theorem dX12_carriesFrom_67 : decode cX12_carriesFrom 67 = .ok (.getfield 82, 3) := by decide +kernel
theorem dX12_carriesFrom_70 : decode cX12_carriesFrom 70 = .ok (.iload 5, 2) := by decide +kernel
theorem dX12_carriesFrom_72 : decode cX12_carriesFrom 72 = .ok (.aload_n 0, 1) := by decide +kernel
theorem dX12_carriesFrom_73 : decode cX12_carriesFrom 73 = .ok (.getfield 79, 3) := by decide +kernel
theorem dX12_carriesFrom_76 : decode cX12_carriesFrom 76 = .ok (.iload 5, 2) := by decide +kernel
theorem dX12_carriesFrom_78 : decode cX12_carriesFrom 78 = .ok (.iaload, 1) := by decide +kernel
theorem dX12_carriesFrom_79 : decode cX12_carriesFrom 79 = .ok (.iastore, 1) := by decide +kernel
theorem dX12_carriesFrom_80 : decode cX12_carriesFrom 80 = .ok (.iinc 5 1, 3) := by decide +kernel
theorem dX12_carriesFrom_83 : decode cX12_carriesFrom 83 = .ok (.goto (-23), 3) := by decide +kernel
theorem dX12_carriesFrom_86 : decode cX12_carriesFrom 86 = .ok (.return_, 1) := by decide +kernel
theorem dX12_carriesFrom_87 : decode cX12_carriesFrom 87 = .ok (.iconst 0, 1) := by decide +kernel
theorem dX12_carriesFrom_88 : decode cX12_carriesFrom 88 = .ok (.istore 5, 2) := by decide +kernel
theorem dX12_carriesFrom_90 : decode cX12_carriesFrom 90 = .ok (.iload 5, 2) := by decide +kernel
theorem dX12_carriesFrom_92 : decode cX12_carriesFrom 92 = .ok (.aload_n 0, 1) := by decide +kernel
theorem dX12_carriesFrom_93 : decode cX12_carriesFrom 93 = .ok (.getfield 61, 3) := by decide +kernel
theorem dX12_carriesFrom_96 : decode cX12_carriesFrom 96 = .ok (.bipush 24, 2) := by decide +kernel
theorem dX12_carriesFrom_98 : decode cX12_carriesFrom 98 = .ok (.iaload, 1) := by decide +kernel
theorem dX12_carriesFrom_99 : decode cX12_carriesFrom 99 = .ok (.if_icmp .ge 74, 3) := by decide +kernel
theorem dX12_carriesFrom_102 : decode cX12_carriesFrom 102 = .ok (.iload 5, 2) := by decide +kernel
theorem dX12_carriesFrom_104 : decode cX12_carriesFrom 104 = .ok (.bipush 8, 2) := by decide +kernel
theorem dX12_carriesFrom_106 : decode cX12_carriesFrom 106 = .ok (.if_icmp .ge 67, 3) := by decide +kernel
theorem dX12_carriesFrom_109 : decode cX12_carriesFrom 109 = .ok (.iload_n 2, 1) := by decide +kernel
theorem dX12_carriesFrom_110 : decode cX12_carriesFrom 110 = .ok (.iload 5, 2) := by decide +kernel
theorem dX12_carriesFrom_112 : decode cX12_carriesFrom 112 = .ok (.invokestatic 246, 3) := by decide +kernel
theorem dX12_carriesFrom_115 : decode cX12_carriesFrom 115 = .ok (.ifCond .ne 52, 3) := by decide +kernel
theorem dX12_carriesFrom_118 : decode cX12_carriesFrom 118 = .ok (.aload_n 0, 1) := by decide +kernel
theorem dX12_carriesFrom_119 : decode cX12_carriesFrom 119 = .ok (.aload_n 0, 1) := by decide +kernel
theorem dX12_carriesFrom_120 : decode cX12_carriesFrom 120 = .ok (.iload_n 1, 1) := by decide +kernel
theorem dX12_carriesFrom_121 : decode cX12_carriesFrom 121 = .ok (.invokevirtual 253, 3) := by decide +kernel
theorem dX12_carriesFrom_124 : decode cX12_carriesFrom 124 = .ok (.aload_n 0, 1) := by decide +kernel
theorem dX12_carriesFrom_125 : decode cX12_carriesFrom 125 = .ok (.getfield 61, 3) := by decide +kernel
theorem dX12_carriesFrom_128 : decode cX12_carriesFrom 128 = .ok (.iload 5, 2) := by decide +kernel
theorem dX12_carriesFrom_130 : decode cX12_carriesFrom 130 = .ok (.iconst 3, 1) := by decide +kernel
theorem dX12_carriesFrom_131 : decode cX12_carriesFrom 131 = .ok (.invokestatic 263, 3) := by decide +kernel
theorem dX12_carriesFrom_134 : decode cX12_carriesFrom 134 = .ok (.invokevirtual 311, 3) := by decide +kernel
theorem dX12_carriesFrom_137 : decode cX12_carriesFrom 137 = .ok (.ifCond .ne 6, 3) := by decide +kernel
theorem dX12_carriesFrom_140 : decode cX12_carriesFrom 140 = .ok (.goto 27, 3) := by decide +kernel
theorem dX12_carriesFrom_143 : decode cX12_carriesFrom 143 = .ok (.aload_n 0, 1) := by decide +kernel
theorem dX12_carriesFrom_144 : decode cX12_carriesFrom 144 = .ok (.getfield 79, 3) := by decide +kernel
theorem dX12_carriesFrom_147 : decode cX12_carriesFrom 147 = .ok (.iload_n 1, 1) := by decide +kernel
theorem dX12_carriesFrom_148 : decode cX12_carriesFrom 148 = .ok (.iload 5, 2) := by decide +kernel
theorem dX12_carriesFrom_150 : decode cX12_carriesFrom 150 = .ok (.iastore, 1) := by decide +kernel
theorem dX12_carriesFrom_151 : decode cX12_carriesFrom 151 = .ok (.aload_n 0, 1) := by decide +kernel
theorem dX12_carriesFrom_152 : decode cX12_carriesFrom 152 = .ok (.iload_n 1, 1) := by decide +kernel
theorem dX12_carriesFrom_153 : decode cX12_carriesFrom 153 = .ok (.iconst 1, 1) := by decide +kernel
theorem dX12_carriesFrom_154 : decode cX12_carriesFrom 154 = .ok (.iadd, 1) := by decide +kernel
theorem dX12_carriesFrom_155 : decode cX12_carriesFrom 155 = .ok (.iload_n 2, 1) := by decide +kernel
theorem dX12_carriesFrom_156 : decode cX12_carriesFrom 156 = .ok (.iconst 1, 1) := by decide +kernel
theorem dX12_carriesFrom_157 : decode cX12_carriesFrom 157 = .ok (.iload 5, 2) := by decide +kernel
theorem dX12_carriesFrom_159 : decode cX12_carriesFrom 159 = .ok (.ishl, 1) := by decide +kernel
theorem dX12_carriesFrom_160 : decode cX12_carriesFrom 160 = .ok (.ior, 1) := by decide +kernel
theorem dX12_carriesFrom_161 : decode cX12_carriesFrom 161 = .ok (.iload_n 3, 1) := by decide +kernel
theorem dX12_carriesFrom_162 : decode cX12_carriesFrom 162 = .ok (.iconst 1, 1) := by decide +kernel
theorem dX12_carriesFrom_163 : decode cX12_carriesFrom 163 = .ok (.iadd, 1) := by decide +kernel
theorem dX12_carriesFrom_164 : decode cX12_carriesFrom 164 = .ok (.invokevirtual 355, 3) := by decide +kernel
theorem dX12_carriesFrom_167 : decode cX12_carriesFrom 167 = .ok (.iinc 5 1, 3) := by decide +kernel
theorem dX12_carriesFrom_170 : decode cX12_carriesFrom 170 = .ok (.goto (-80), 3) := by decide +kernel
theorem dX12_carriesFrom_173 : decode cX12_carriesFrom 173 = .ok (.aload_n 0, 1) := by decide +kernel
theorem dX12_carriesFrom_174 : decode cX12_carriesFrom 174 = .ok (.getfield 79, 3) := by decide +kernel
theorem dX12_carriesFrom_177 : decode cX12_carriesFrom 177 = .ok (.iload_n 1, 1) := by decide +kernel
theorem dX12_carriesFrom_178 : decode cX12_carriesFrom 178 = .ok (.iconst (-1), 1) := by decide +kernel
theorem dX12_carriesFrom_179 : decode cX12_carriesFrom 179 = .ok (.iastore, 1) := by decide +kernel
theorem dX12_carriesFrom_180 : decode cX12_carriesFrom 180 = .ok (.aload_n 0, 1) := by decide +kernel
theorem dX12_carriesFrom_181 : decode cX12_carriesFrom 181 = .ok (.iload_n 1, 1) := by decide +kernel
theorem dX12_carriesFrom_182 : decode cX12_carriesFrom 182 = .ok (.iconst 1, 1) := by decide +kernel
theorem dX12_carriesFrom_183 : decode cX12_carriesFrom 183 = .ok (.iadd, 1) := by decide +kernel
theorem dX12_carriesFrom_184 : decode cX12_carriesFrom 184 = .ok (.iload_n 2, 1) := by decide +kernel
theorem dX12_carriesFrom_185 : decode cX12_carriesFrom 185 = .ok (.iload_n 3, 1) := by decide +kernel
theorem dX12_carriesFrom_186 : decode cX12_carriesFrom 186 = .ok (.invokevirtual 355, 3) := by decide +kernel
theorem dX12_carriesFrom_189 : decode cX12_carriesFrom 189 = .ok (.return_, 1) := by decide +kernel
theorem dX12_laysPapers_0 : decode cX12_laysPapers 0 = .ok (.aload_n 0, 1) := by decide +kernel
theorem dX12_laysPapers_1 : decode cX12_laysPapers 1 = .ok (.iconst (-1), 1) := by decide +kernel
theorem dX12_laysPapers_2 : decode cX12_laysPapers 2 = .ok (.putfield 352, 3) := by decide +kernel
theorem dX12_laysPapers_5 : decode cX12_laysPapers 5 = .ok (.aload_n 0, 1) := by decide +kernel
theorem dX12_laysPapers_6 : decode cX12_laysPapers 6 = .ok (.iconst 0, 1) := by decide +kernel
theorem dX12_laysPapers_7 : decode cX12_laysPapers 7 = .ok (.iconst 0, 1) := by decide +kernel
theorem dX12_laysPapers_8 : decode cX12_laysPapers 8 = .ok (.iconst 0, 1) := by decide +kernel
theorem dX12_laysPapers_9 : decode cX12_laysPapers 9 = .ok (.invokevirtual 355, 3) := by decide +kernel
theorem dX12_laysPapers_12 : decode cX12_laysPapers 12 = .ok (.return_, 1) := by decide +kernel
theorem dX12_papers_0 : decode cX12_papers 0 = .ok (.aload_n 0, 1) := by decide +kernel
theorem dX12_papers_1 : decode cX12_papers 1 = .ok (.iconst 0, 1) := by decide +kernel
theorem dX12_papers_2 : decode cX12_papers 2 = .ok (.putfield 94, 3) := by decide +kernel
theorem dX12_papers_5 : decode cX12_papers 5 = .ok (.aload_n 0, 1) := by decide +kernel
theorem dX12_papers_6 : decode cX12_papers 6 = .ok (.invokevirtual 359, 3) := by decide +kernel
theorem dX12_papers_9 : decode cX12_papers 9 = .ok (.aload_n 0, 1) := by decide +kernel
theorem dX12_papers_10 : decode cX12_papers 10 = .ok (.getfield 352, 3) := by decide +kernel
theorem dX12_papers_13 : decode cX12_papers 13 = .ok (.ireturn, 1) := by decide +kernel
theorem dX12_paper_0 : decode cX12_paper 0 = .ok (.aload_n 0, 1) := by decide +kernel
theorem dX12_paper_1 : decode cX12_paper 1 = .ok (.iconst 0, 1) := by decide +kernel
theorem dX12_paper_2 : decode cX12_paper 2 = .ok (.putfield 94, 3) := by decide +kernel
theorem dX12_paper_5 : decode cX12_paper 5 = .ok (.aload_n 0, 1) := by decide +kernel
theorem dX12_paper_6 : decode cX12_paper 6 = .ok (.aload_n 0, 1) := by decide +kernel
theorem dX12_paper_7 : decode cX12_paper 7 = .ok (.iload_n 1, 1) := by decide +kernel
theorem dX12_paper_8 : decode cX12_paper 8 = .ok (.invokevirtual 296, 3) := by decide +kernel
theorem dX12_paper_11 : decode cX12_paper 11 = .ok (.ifCond .ne 7, 3) := by decide +kernel
theorem dX12_paper_14 : decode cX12_paper 14 = .ok (.iconst 1, 1) := by decide +kernel
theorem dX12_paper_15 : decode cX12_paper 15 = .ok (.goto 4, 3) := by decide +kernel
theorem dX12_paper_18 : decode cX12_paper 18 = .ok (.iconst 0, 1) := by decide +kernel
theorem dX12_paper_19 : decode cX12_paper 19 = .ok (.iconst 1, 1) := by decide +kernel
theorem dX12_paper_20 : decode cX12_paper 20 = .ok (.iconst 0, 1) := by decide +kernel
theorem dX12_paper_21 : decode cX12_paper 21 = .ok (.invokevirtual 167, 3) := by decide +kernel
theorem dX12_paper_24 : decode cX12_paper 24 = .ok (.ifCond .eq 5, 3) := by decide +kernel
theorem dX12_paper_27 : decode cX12_paper 27 = .ok (.iconst 0, 1) := by decide +kernel
theorem dX12_paper_28 : decode cX12_paper 28 = .ok (.ireturn, 1) := by decide +kernel
theorem dX12_paper_29 : decode cX12_paper 29 = .ok (.aload_n 0, 1) := by decide +kernel
theorem dX12_paper_30 : decode cX12_paper 30 = .ok (.invokevirtual 359, 3) := by decide +kernel
theorem dX12_paper_33 : decode cX12_paper 33 = .ok (.aload_n 0, 1) := by decide +kernel
theorem dX12_paper_34 : decode cX12_paper 34 = .ok (.getfield 82, 3) := by decide +kernel
theorem dX12_paper_37 : decode cX12_paper 37 = .ok (.iload_n 1, 1) := by decide +kernel
theorem dX12_paper_38 : decode cX12_paper 38 = .ok (.iaload, 1) := by decide +kernel
theorem dX12_paper_39 : decode cX12_paper 39 = .ok (.ireturn, 1) := by decide +kernel
theorem dX12_hasFirst_0 : decode cX12_hasFirst 0 = .ok (.iload_n 0, 1) := by decide +kernel
theorem dX12_hasFirst_1 : decode cX12_hasFirst 1 = .ok (.iload_n 1, 1) := by decide +kernel
theorem dX12_hasFirst_2 : decode cX12_hasFirst 2 = .ok (.if_icmp .lt 9, 3) := by decide +kernel
theorem dX12_hasFirst_5 : decode cX12_hasFirst 5 = .ok (.iload_n 2, 1) := by decide +kernel
theorem dX12_hasFirst_6 : decode cX12_hasFirst 6 = .ok (.iload_n 1, 1) := by decide +kernel
theorem dX12_hasFirst_7 : decode cX12_hasFirst 7 = .ok (.isub, 1) := by decide +kernel
theorem dX12_hasFirst_8 : decode cX12_hasFirst 8 = .ok (.goto 4, 3) := by decide +kernel
theorem dX12_hasFirst_11 : decode cX12_hasFirst 11 = .ok (.iconst 0, 1) := by decide +kernel
theorem dX12_hasFirst_12 : decode cX12_hasFirst 12 = .ok (.ireturn, 1) := by decide +kernel
theorem dX12_hasSecond_0 : decode cX12_hasSecond 0 = .ok (.iload_n 1, 1) := by decide +kernel
theorem dX12_hasSecond_1 : decode cX12_hasSecond 1 = .ok (.iload_n 0, 1) := by decide +kernel
theorem dX12_hasSecond_2 : decode cX12_hasSecond 2 = .ok (.if_icmp .le 9, 3) := by decide +kernel
theorem dX12_hasSecond_5 : decode cX12_hasSecond 5 = .ok (.iload_n 2, 1) := by decide +kernel
theorem dX12_hasSecond_6 : decode cX12_hasSecond 6 = .ok (.iload_n 0, 1) := by decide +kernel
theorem dX12_hasSecond_7 : decode cX12_hasSecond 7 = .ok (.isub, 1) := by decide +kernel
theorem dX12_hasSecond_8 : decode cX12_hasSecond 8 = .ok (.goto 4, 3) := by decide +kernel
theorem dX12_hasSecond_11 : decode cX12_hasSecond 11 = .ok (.iconst 0, 1) := by decide +kernel
theorem dX12_hasSecond_12 : decode cX12_hasSecond 12 = .ok (.ireturn, 1) := by decide +kernel
theorem dX12_isRest_0 : decode cX12_isRest 0 = .ok (.iconst 0, 1) := by decide +kernel
theorem dX12_isRest_1 : decode cX12_isRest 1 = .ok (.istore 5, 2) := by decide +kernel
theorem dX12_isRest_3 : decode cX12_isRest 3 = .ok (.iload 5, 2) := by decide +kernel
theorem dX12_isRest_5 : decode cX12_isRest 5 = .ok (.iload_n 2, 1) := by decide +kernel
theorem dX12_isRest_6 : decode cX12_isRest 6 = .ok (.if_icmp .gt 45, 3) := by decide +kernel
theorem dX12_isRest_9 : decode cX12_isRest 9 = .ok (.iload 5, 2) := by decide +kernel
theorem dX12_isRest_11 : decode cX12_isRest 11 = .ok (.iload_n 1, 1) := by decide +kernel
theorem dX12_isRest_12 : decode cX12_isRest 12 = .ok (.iload_n 3, 1) := by decide +kernel
theorem dX12_isRest_13 : decode cX12_isRest 13 = .ok (.invokestatic 362, 3) := by decide +kernel
theorem dX12_isRest_16 : decode cX12_isRest 16 = .ok (.iload_n 0, 1) := by decide +kernel
theorem dX12_isRest_17 : decode cX12_isRest 17 = .ok (.iload_n 1, 1) := by decide +kernel
theorem dX12_isRest_18 : decode cX12_isRest 18 = .ok (.iload_n 3, 1) := by decide +kernel
theorem dX12_isRest_19 : decode cX12_isRest 19 = .ok (.invokestatic 362, 3) := by decide +kernel
theorem dX12_isRest_22 : decode cX12_isRest 22 = .ok (.if_icmp .gt 21, 3) := by decide +kernel
theorem dX12_isRest_25 : decode cX12_isRest 25 = .ok (.iload_n 0, 1) := by decide +kernel
theorem dX12_isRest_26 : decode cX12_isRest 26 = .ok (.iload 5, 2) := by decide +kernel
theorem dX12_isRest_28 : decode cX12_isRest 28 = .ok (.iload 4, 2) := by decide +kernel
theorem dX12_isRest_30 : decode cX12_isRest 30 = .ok (.invokestatic 365, 3) := by decide +kernel
theorem dX12_isRest_33 : decode cX12_isRest 33 = .ok (.iload_n 0, 1) := by decide +kernel
theorem dX12_isRest_34 : decode cX12_isRest 34 = .ok (.iload_n 1, 1) := by decide +kernel
theorem dX12_isRest_35 : decode cX12_isRest 35 = .ok (.iload 4, 2) := by decide +kernel
theorem dX12_isRest_37 : decode cX12_isRest 37 = .ok (.invokestatic 365, 3) := by decide +kernel
theorem dX12_isRest_40 : decode cX12_isRest 40 = .ok (.if_icmp .le 5, 3) := by decide +kernel
theorem dX12_isRest_43 : decode cX12_isRest 43 = .ok (.iconst 0, 1) := by decide +kernel
theorem dX12_isRest_44 : decode cX12_isRest 44 = .ok (.ireturn, 1) := by decide +kernel
theorem dX12_isRest_45 : decode cX12_isRest 45 = .ok (.iinc 5 1, 3) := by decide +kernel
theorem dX12_isRest_48 : decode cX12_isRest 48 = .ok (.goto (-45), 3) := by decide +kernel
theorem dX12_isRest_51 : decode cX12_isRest 51 = .ok (.iconst 1, 1) := by decide +kernel
theorem dX12_isRest_52 : decode cX12_isRest 52 = .ok (.ireturn, 1) := by decide +kernel
theorem dX12_bids_0 : decode cX12_bids 0 = .ok (.aload_n 0, 1) := by decide +kernel
theorem dX12_bids_1 : decode cX12_bids 1 = .ok (.iconst 0, 1) := by decide +kernel
theorem dX12_bids_2 : decode cX12_bids 2 = .ok (.putfield 94, 3) := by decide +kernel
theorem dX12_bids_5 : decode cX12_bids 5 = .ok (.aload_n 0, 1) := by decide +kernel
theorem dX12_bids_6 : decode cX12_bids 6 = .ok (.iload_n 1, 1) := by decide +kernel
theorem dX12_bids_7 : decode cX12_bids 7 = .ok (.iconst 0, 1) := by decide +kernel
theorem dX12_bids_8 : decode cX12_bids 8 = .ok (.bipush 9, 2) := by decide +kernel
theorem dX12_bids_10 : decode cX12_bids 10 = .ok (.invokestatic 128, 3) := by decide +kernel
theorem dX12_bids_13 : decode cX12_bids 13 = .ok (.ifCond .eq 33, 3) := by decide +kernel
theorem dX12_bids_16 : decode cX12_bids 16 = .ok (.iload_n 2, 1) := by decide +kernel
theorem dX12_bids_17 : decode cX12_bids 17 = .ok (.iconst 0, 1) := by decide +kernel
theorem dX12_bids_18 : decode cX12_bids 18 = .ok (.bipush 40, 2) := by decide +kernel
theorem dX12_bids_20 : decode cX12_bids 20 = .ok (.invokestatic 128, 3) := by decide +kernel
theorem dX12_bids_23 : decode cX12_bids 23 = .ok (.ifCond .eq 23, 3) := by decide +kernel
theorem dX12_bids_26 : decode cX12_bids 26 = .ok (.iload_n 3, 1) := by decide +kernel
theorem dX12_bids_27 : decode cX12_bids 27 = .ok (.iconst 0, 1) := by decide +kernel
theorem dX12_bids_28 : decode cX12_bids 28 = .ok (.bipush 40, 2) := by decide +kernel
theorem dX12_bids_30 : decode cX12_bids 30 = .ok (.invokestatic 128, 3) := by decide +kernel
theorem dX12_bids_33 : decode cX12_bids 33 = .ok (.ifCond .eq 13, 3) := by decide +kernel
theorem dX12_bids_36 : decode cX12_bids 36 = .ok (.iload 4, 2) := by decide +kernel
theorem dX12_bids_38 : decode cX12_bids 38 = .ok (.iconst 0, 1) := by decide +kernel
theorem dX12_bids_39 : decode cX12_bids 39 = .ok (.iconst 2, 1) := by decide +kernel
theorem dX12_bids_40 : decode cX12_bids 40 = .ok (.invokestatic 128, 3) := by decide +kernel
theorem dX12_bids_43 : decode cX12_bids 43 = .ok (.ifCond .ne 7, 3) := by decide +kernel
theorem dX12_bids_46 : decode cX12_bids 46 = .ok (.iconst 1, 1) := by decide +kernel
theorem dX12_bids_47 : decode cX12_bids 47 = .ok (.goto 4, 3) := by decide +kernel
theorem dX12_bids_50 : decode cX12_bids 50 = .ok (.iconst 0, 1) := by decide +kernel
theorem dX12_bids_51 : decode cX12_bids 51 = .ok (.iconst 1, 1) := by decide +kernel
theorem dX12_bids_52 : decode cX12_bids 52 = .ok (.iconst 1, 1) := by decide +kernel
theorem dX12_bids_53 : decode cX12_bids 53 = .ok (.invokevirtual 167, 3) := by decide +kernel
theorem dX12_bids_56 : decode cX12_bids 56 = .ok (.ifCond .eq 5, 3) := by decide +kernel
theorem dX12_bids_59 : decode cX12_bids 59 = .ok (.iconst 0, 1) := by decide +kernel
theorem dX12_bids_60 : decode cX12_bids 60 = .ok (.ireturn, 1) := by decide +kernel
theorem dX12_bids_61 : decode cX12_bids 61 = .ok (.iconst 0, 1) := by decide +kernel
theorem dX12_bids_62 : decode cX12_bids 62 = .ok (.istore 5, 2) := by decide +kernel
theorem dX12_bids_64 : decode cX12_bids 64 = .ok (.iconst (-1), 1) := by decide +kernel
theorem dX12_bids_65 : decode cX12_bids 65 = .ok (.istore 6, 2) := by decide +kernel
theorem dX12_bids_67 : decode cX12_bids 67 = .ok (.iconst 0, 1) := by decide +kernel
theorem dX12_bids_68 : decode cX12_bids 68 = .ok (.istore 7, 2) := by decide +kernel
theorem dX12_bids_70 : decode cX12_bids 70 = .ok (.iconst 0, 1) := by decide +kernel
theorem dX12_bids_71 : decode cX12_bids 71 = .ok (.istore 8, 2) := by decide +kernel
theorem dX12_bids_73 : decode cX12_bids 73 = .ok (.iload 8, 2) := by decide +kernel
theorem dX12_bids_75 : decode cX12_bids 75 = .ok (.iload_n 1, 1) := by decide +kernel
theorem dX12_bids_76 : decode cX12_bids 76 = .ok (.if_icmp .gt 92, 3) := by decide +kernel
theorem dX12_bids_79 : decode cX12_bids 79 = .ok (.iconst 0, 1) := by decide +kernel
theorem dX12_bids_80 : decode cX12_bids 80 = .ok (.istore 9, 2) := by decide +kernel
theorem dX12_bids_82 : decode cX12_bids 82 = .ok (.iload 9, 2) := by decide +kernel
theorem dX12_bids_84 : decode cX12_bids 84 = .ok (.iload_n 1, 1) := by decide +kernel
theorem dX12_bids_85 : decode cX12_bids 85 = .ok (.if_icmp .gt 77, 3) := by decide +kernel
theorem dX12_bids_88 : decode cX12_bids 88 = .ok (.iload 8, 2) := by decide +kernel
theorem dX12_bids_90 : decode cX12_bids 90 = .ok (.iload 9, 2) := by decide +kernel
theorem dX12_bids_92 : decode cX12_bids 92 = .ok (.iload_n 1, 1) := by decide +kernel
theorem dX12_bids_93 : decode cX12_bids 93 = .ok (.iload_n 2, 1) := by decide +kernel
theorem dX12_bids_94 : decode cX12_bids 94 = .ok (.iload_n 3, 1) := by decide +kernel
theorem dX12_bids_95 : decode cX12_bids 95 = .ok (.invokestatic 368, 3) := by decide +kernel
theorem dX12_bids_98 : decode cX12_bids 98 = .ok (.ifCond .ne 6, 3) := by decide +kernel
theorem dX12_bids_101 : decode cX12_bids 101 = .ok (.goto 55, 3) := by decide +kernel
theorem dX12_bids_104 : decode cX12_bids 104 = .ok (.iload 5, 2) := by decide +kernel
theorem dX12_bids_106 : decode cX12_bids 106 = .ok (.ifCond .ne 14, 3) := by decide +kernel
theorem dX12_bids_109 : decode cX12_bids 109 = .ok (.bipush 10, 2) := by decide +kernel
theorem dX12_bids_111 : decode cX12_bids 111 = .ok (.iload 8, 2) := by decide +kernel
theorem dX12_bids_113 : decode cX12_bids 113 = .ok (.imul, 1) := by decide +kernel
theorem dX12_bids_114 : decode cX12_bids 114 = .ok (.iload 9, 2) := by decide +kernel
theorem dX12_bids_116 : decode cX12_bids 116 = .ok (.iadd, 1) := by decide +kernel
theorem dX12_bids_117 : decode cX12_bids 117 = .ok (.goto 5, 3) := by decide +kernel
theorem dX12_bids_120 : decode cX12_bids 120 = .ok (.iload 6, 2) := by decide +kernel
theorem dX12_bids_122 : decode cX12_bids 122 = .ok (.istore 6, 2) := by decide +kernel
theorem dX12_bids_124 : decode cX12_bids 124 = .ok (.iload 5, 2) := by decide +kernel
theorem dX12_bids_126 : decode cX12_bids 126 = .ok (.ifCond .ne 23, 3) := by decide +kernel
theorem dX12_bids_129 : decode cX12_bids 129 = .ok (.iload 8, 2) := by decide +kernel
theorem dX12_bids_131 : decode cX12_bids 131 = .ok (.iload 9, 2) := by decide +kernel
theorem dX12_bids_133 : decode cX12_bids 133 = .ok (.iload_n 2, 1) := by decide +kernel
theorem dX12_bids_134 : decode cX12_bids 134 = .ok (.invokestatic 362, 3) := by decide +kernel
theorem dX12_bids_137 : decode cX12_bids 137 = .ok (.iload 8, 2) := by decide +kernel
theorem dX12_bids_139 : decode cX12_bids 139 = .ok (.iload 9, 2) := by decide +kernel
theorem dX12_bids_141 : decode cX12_bids 141 = .ok (.iload_n 3, 1) := by decide +kernel
theorem dX12_bids_142 : decode cX12_bids 142 = .ok (.invokestatic 365, 3) := by decide +kernel
theorem dX12_bids_145 : decode cX12_bids 145 = .ok (.iadd, 1) := by decide +kernel
theorem dX12_bids_146 : decode cX12_bids 146 = .ok (.goto 5, 3) := by decide +kernel
theorem dX12_bids_149 : decode cX12_bids 149 = .ok (.iload 7, 2) := by decide +kernel
theorem dX12_bids_151 : decode cX12_bids 151 = .ok (.istore 7, 2) := by decide +kernel
theorem dX12_bids_153 : decode cX12_bids 153 = .ok (.iinc 5 1, 3) := by decide +kernel
theorem dX12_bids_156 : decode cX12_bids 156 = .ok (.iinc 9 1, 3) := by decide +kernel
theorem dX12_bids_159 : decode cX12_bids 159 = .ok (.goto (-77), 3) := by decide +kernel
theorem dX12_bids_162 : decode cX12_bids 162 = .ok (.iinc 8 1, 3) := by decide +kernel
theorem dX12_bids_165 : decode cX12_bids 165 = .ok (.goto (-92), 3) := by decide +kernel
theorem dX12_bids_168 : decode cX12_bids 168 = .ok (.iload 4, 2) := by decide +kernel
theorem dX12_bids_170 : decode cX12_bids 170 = .ok (.ifCond .ne 8, 3) := by decide +kernel
theorem dX12_bids_173 : decode cX12_bids 173 = .ok (.iload 5, 2) := by decide +kernel
theorem dX12_bids_175 : decode cX12_bids 175 = .ok (.goto 16, 3) := by decide +kernel
theorem dX12_bids_178 : decode cX12_bids 178 = .ok (.iload 4, 2) := by decide +kernel
theorem dX12_bids_180 : decode cX12_bids 180 = .ok (.iconst 1, 1) := by decide +kernel
theorem dX12_bids_181 : decode cX12_bids 181 = .ok (.if_icmp .ne 8, 3) := by decide +kernel
theorem dX12_bids_184 : decode cX12_bids 184 = .ok (.iload 6, 2) := by decide +kernel
theorem dX12_bids_186 : decode cX12_bids 186 = .ok (.goto 5, 3) := by decide +kernel
theorem dX12_bids_189 : decode cX12_bids 189 = .ok (.iload 7, 2) := by decide +kernel
theorem dX12_bids_191 : decode cX12_bids 191 = .ok (.ireturn, 1) := by decide +kernel
theorem dX12_givenBy_0 : decode cX12_givenBy 0 = .ok (.iconst 0, 1) := by decide +kernel
theorem dX12_givenBy_1 : decode cX12_givenBy 1 = .ok (.istore_n 3, 1) := by decide +kernel
theorem dX12_givenBy_2 : decode cX12_givenBy 2 = .ok (.iconst 0, 1) := by decide +kernel
theorem dX12_givenBy_3 : decode cX12_givenBy 3 = .ok (.istore 4, 2) := by decide +kernel
theorem dX12_givenBy_5 : decode cX12_givenBy 5 = .ok (.iload 4, 2) := by decide +kernel
theorem dX12_givenBy_7 : decode cX12_givenBy 7 = .ok (.aload_n 0, 1) := by decide +kernel
theorem dX12_givenBy_8 : decode cX12_givenBy 8 = .ok (.getfield 23, 3) := by decide +kernel
theorem dX12_givenBy_11 : decode cX12_givenBy 11 = .ok (.iconst 0, 1) := by decide +kernel
theorem dX12_givenBy_12 : decode cX12_givenBy 12 = .ok (.iaload, 1) := by decide +kernel
theorem dX12_givenBy_13 : decode cX12_givenBy 13 = .ok (.if_icmp .ge 38, 3) := by decide +kernel
theorem dX12_givenBy_16 : decode cX12_givenBy 16 = .ok (.iload_n 3, 1) := by decide +kernel
theorem dX12_givenBy_17 : decode cX12_givenBy 17 = .ok (.iload_n 1, 1) := by decide +kernel
theorem dX12_givenBy_18 : decode cX12_givenBy 18 = .ok (.iload 4, 2) := by decide +kernel
theorem dX12_givenBy_20 : decode cX12_givenBy 20 = .ok (.invokestatic 246, 3) := by decide +kernel
theorem dX12_givenBy_23 : decode cX12_givenBy 23 = .ok (.ifCond .eq 19, 3) := by decide +kernel
theorem dX12_givenBy_26 : decode cX12_givenBy 26 = .ok (.iload_n 2, 1) := by decide +kernel
theorem dX12_givenBy_27 : decode cX12_givenBy 27 = .ok (.aload_n 0, 1) := by decide +kernel
theorem dX12_givenBy_28 : decode cX12_givenBy 28 = .ok (.getfield 37, 3) := by decide +kernel
theorem dX12_givenBy_31 : decode cX12_givenBy 31 = .ok (.iload 4, 2) := by decide +kernel
theorem dX12_givenBy_33 : decode cX12_givenBy 33 = .ok (.aaload, 1) := by decide +kernel
theorem dX12_givenBy_34 : decode cX12_givenBy 34 = .ok (.iconst 2, 1) := by decide +kernel
theorem dX12_givenBy_35 : decode cX12_givenBy 35 = .ok (.iaload, 1) := by decide +kernel
theorem dX12_givenBy_36 : decode cX12_givenBy 36 = .ok (.invokestatic 227, 3) := by decide +kernel
theorem dX12_givenBy_39 : decode cX12_givenBy 39 = .ok (.goto 4, 3) := by decide +kernel
theorem dX12_givenBy_42 : decode cX12_givenBy 42 = .ok (.iconst 0, 1) := by decide +kernel
theorem dX12_givenBy_43 : decode cX12_givenBy 43 = .ok (.iadd, 1) := by decide +kernel
theorem dX12_givenBy_44 : decode cX12_givenBy 44 = .ok (.istore_n 3, 1) := by decide +kernel
theorem dX12_givenBy_45 : decode cX12_givenBy 45 = .ok (.iinc 4 1, 3) := by decide +kernel
theorem dX12_givenBy_48 : decode cX12_givenBy 48 = .ok (.goto (-43), 3) := by decide +kernel
theorem dX12_givenBy_51 : decode cX12_givenBy 51 = .ok (.iload_n 3, 1) := by decide +kernel
theorem dX12_givenBy_52 : decode cX12_givenBy 52 = .ok (.ireturn, 1) := by decide +kernel
theorem dX12_share_0 : decode cX12_share 0 = .ok (.aload_n 0, 1) := by decide +kernel
theorem dX12_share_1 : decode cX12_share 1 = .ok (.iconst 0, 1) := by decide +kernel
theorem dX12_share_2 : decode cX12_share 2 = .ok (.putfield 94, 3) := by decide +kernel
theorem dX12_share_5 : decode cX12_share 5 = .ok (.aload_n 0, 1) := by decide +kernel
theorem dX12_share_6 : decode cX12_share 6 = .ok (.aload_n 0, 1) := by decide +kernel
theorem dX12_share_7 : decode cX12_share 7 = .ok (.iload_n 1, 1) := by decide +kernel
theorem dX12_share_8 : decode cX12_share 8 = .ok (.invokevirtual 296, 3) := by decide +kernel
theorem dX12_share_11 : decode cX12_share 11 = .ok (.ifCond .ne 7, 3) := by decide +kernel
theorem dX12_share_14 : decode cX12_share 14 = .ok (.iconst 1, 1) := by decide +kernel
theorem dX12_share_15 : decode cX12_share 15 = .ok (.goto 4, 3) := by decide +kernel
theorem dX12_share_18 : decode cX12_share 18 = .ok (.iconst 0, 1) := by decide +kernel
theorem dX12_share_19 : decode cX12_share 19 = .ok (.iconst 1, 1) := by decide +kernel
theorem dX12_share_20 : decode cX12_share 20 = .ok (.iconst 0, 1) := by decide +kernel
theorem dX12_share_21 : decode cX12_share 21 = .ok (.invokevirtual 167, 3) := by decide +kernel
theorem dX12_share_24 : decode cX12_share 24 = .ok (.ifCond .ne 36, 3) := by decide +kernel
theorem dX12_share_27 : decode cX12_share 27 = .ok (.aload_n 0, 1) := by decide +kernel
theorem dX12_share_28 : decode cX12_share 28 = .ok (.aload_n 0, 1) := by decide +kernel
theorem dX12_share_29 : decode cX12_share 29 = .ok (.iload_n 2, 1) := by decide +kernel
theorem dX12_share_30 : decode cX12_share 30 = .ok (.invokevirtual 321, 3) := by decide +kernel
theorem dX12_share_33 : decode cX12_share 33 = .ok (.ifCond .eq 14, 3) := by decide +kernel
theorem dX12_share_36 : decode cX12_share 36 = .ok (.iload_n 3, 1) := by decide +kernel
theorem dX12_share_37 : decode cX12_share 37 = .ok (.iconst 0, 1) := by decide +kernel
theorem dX12_share_38 : decode cX12_share 38 = .ok (.sipush 400, 3) := by decide +kernel
theorem dX12_share_41 : decode cX12_share 41 = .ok (.invokestatic 128, 3) := by decide +kernel
theorem dX12_share_44 : decode cX12_share 44 = .ok (.ifCond .ne 7, 3) := by decide +kernel
theorem dX12_share_47 : decode cX12_share 47 = .ok (.iconst 1, 1) := by decide +kernel
theorem dX12_share_48 : decode cX12_share 48 = .ok (.goto 4, 3) := by decide +kernel
theorem dX12_share_51 : decode cX12_share 51 = .ok (.iconst 0, 1) := by decide +kernel
theorem dX12_share_52 : decode cX12_share 52 = .ok (.iconst 2, 1) := by decide +kernel
theorem dX12_share_53 : decode cX12_share 53 = .ok (.iconst 1, 1) := by decide +kernel
theorem dX12_share_54 : decode cX12_share 54 = .ok (.invokevirtual 167, 3) := by decide +kernel
theorem dX12_share_57 : decode cX12_share 57 = .ok (.ifCond .eq 5, 3) := by decide +kernel
theorem dX12_share_60 : decode cX12_share 60 = .ok (.iconst 0, 1) := by decide +kernel
theorem dX12_share_61 : decode cX12_share 61 = .ok (.ireturn, 1) := by decide +kernel
theorem dX12_share_62 : decode cX12_share 62 = .ok (.iconst 0, 1) := by decide +kernel
theorem dX12_share_63 : decode cX12_share 63 = .ok (.istore 4, 2) := by decide +kernel
theorem dX12_share_65 : decode cX12_share 65 = .ok (.iload 4, 2) := by decide +kernel
theorem dX12_share_67 : decode cX12_share 67 = .ok (.bipush 40, 2) := by decide +kernel
theorem dX12_share_69 : decode cX12_share 69 = .ok (.if_icmp .ge 22, 3) := by decide +kernel
theorem dX12_share_72 : decode cX12_share 72 = .ok (.aload_n 0, 1) := by decide +kernel
theorem dX12_share_73 : decode cX12_share 73 = .ok (.iload_n 2, 1) := by decide +kernel
theorem dX12_share_74 : decode cX12_share 74 = .ok (.iload 4, 2) := by decide +kernel
theorem dX12_share_76 : decode cX12_share 76 = .ok (.iconst 1, 1) := by decide +kernel
theorem dX12_share_77 : decode cX12_share 77 = .ok (.iadd, 1) := by decide +kernel
theorem dX12_share_78 : decode cX12_share 78 = .ok (.invokevirtual 330, 3) := by decide +kernel
theorem dX12_share_81 : decode cX12_share 81 = .ok (.iload_n 3, 1) := by decide +kernel
theorem dX12_share_82 : decode cX12_share 82 = .ok (.if_icmp .gt 9, 3) := by decide +kernel
theorem dX12_share_85 : decode cX12_share 85 = .ok (.iinc 4 1, 3) := by decide +kernel
theorem dX12_share_88 : decode cX12_share 88 = .ok (.goto (-23), 3) := by decide +kernel
theorem dX12_share_91 : decode cX12_share 91 = .ok (.iload_n 2, 1) := by decide +kernel
theorem dX12_share_92 : decode cX12_share 92 = .ok (.iload_n 1, 1) := by decide +kernel
theorem dX12_share_93 : decode cX12_share 93 = .ok (.invokestatic 246, 3) := by decide +kernel
theorem dX12_share_96 : decode cX12_share 96 = .ok (.ifCond .eq 19, 3) := by decide +kernel
theorem dX12_share_99 : decode cX12_share 99 = .ok (.iload 4, 2) := by decide +kernel
theorem dX12_share_101 : decode cX12_share 101 = .ok (.aload_n 0, 1) := by decide +kernel
theorem dX12_share_102 : decode cX12_share 102 = .ok (.getfield 37, 3) := by decide +kernel
theorem dX12_share_105 : decode cX12_share 105 = .ok (.iload_n 1, 1) := by decide +kernel
theorem dX12_share_106 : decode cX12_share 106 = .ok (.aaload, 1) := by decide +kernel
theorem dX12_share_107 : decode cX12_share 107 = .ok (.iconst 2, 1) := by decide +kernel
theorem dX12_share_108 : decode cX12_share 108 = .ok (.iaload, 1) := by decide +kernel
theorem dX12_share_109 : decode cX12_share 109 = .ok (.invokestatic 227, 3) := by decide +kernel
theorem dX12_share_112 : decode cX12_share 112 = .ok (.goto 4, 3) := by decide +kernel
theorem dX12_share_115 : decode cX12_share 115 = .ok (.iconst 0, 1) := by decide +kernel
theorem dX12_share_116 : decode cX12_share 116 = .ok (.ireturn, 1) := by decide +kernel
theorem dX12_busiest_0 : decode cX12_busiest 0 = .ok (.aload_n 0, 1) := by decide +kernel
theorem dX12_busiest_1 : decode cX12_busiest 1 = .ok (.iconst 0, 1) := by decide +kernel
theorem dX12_busiest_2 : decode cX12_busiest 2 = .ok (.putfield 94, 3) := by decide +kernel
theorem dX12_busiest_5 : decode cX12_busiest 5 = .ok (.aload_n 0, 1) := by decide +kernel
theorem dX12_busiest_6 : decode cX12_busiest 6 = .ok (.iload_n 1, 1) := by decide +kernel
theorem dX12_busiest_7 : decode cX12_busiest 7 = .ok (.iconst 0, 1) := by decide +kernel
theorem dX12_busiest_8 : decode cX12_busiest 8 = .ok (.iconst 1, 1) := by decide +kernel
theorem dX12_busiest_9 : decode cX12_busiest 9 = .ok (.invokestatic 128, 3) := by decide +kernel
theorem dX12_busiest_12 : decode cX12_busiest 12 = .ok (.ifCond .ne 7, 3) := by decide +kernel
theorem dX12_busiest_15 : decode cX12_busiest 15 = .ok (.iconst 1, 1) := by decide +kernel
theorem dX12_busiest_16 : decode cX12_busiest 16 = .ok (.goto 4, 3) := by decide +kernel
theorem dX12_busiest_19 : decode cX12_busiest 19 = .ok (.iconst 0, 1) := by decide +kernel
theorem dX12_busiest_20 : decode cX12_busiest 20 = .ok (.iconst 1, 1) := by decide +kernel
theorem dX12_busiest_21 : decode cX12_busiest 21 = .ok (.iconst 1, 1) := by decide +kernel
theorem dX12_busiest_22 : decode cX12_busiest 22 = .ok (.invokevirtual 167, 3) := by decide +kernel
theorem dX12_busiest_25 : decode cX12_busiest 25 = .ok (.ifCond .eq 5, 3) := by decide +kernel
theorem dX12_busiest_28 : decode cX12_busiest 28 = .ok (.iconst 0, 1) := by decide +kernel
theorem dX12_busiest_29 : decode cX12_busiest 29 = .ok (.ireturn, 1) := by decide +kernel
theorem dX12_busiest_30 : decode cX12_busiest 30 = .ok (.iconst (-1), 1) := by decide +kernel
theorem dX12_busiest_31 : decode cX12_busiest 31 = .ok (.istore_n 2, 1) := by decide +kernel
theorem dX12_busiest_32 : decode cX12_busiest 32 = .ok (.iconst 0, 1) := by decide +kernel
theorem dX12_busiest_33 : decode cX12_busiest 33 = .ok (.istore_n 3, 1) := by decide +kernel
theorem dX12_busiest_34 : decode cX12_busiest 34 = .ok (.iconst 0, 1) := by decide +kernel
theorem dX12_busiest_35 : decode cX12_busiest 35 = .ok (.istore 4, 2) := by decide +kernel
theorem dX12_busiest_37 : decode cX12_busiest 37 = .ok (.iload 4, 2) := by decide +kernel
theorem dX12_busiest_39 : decode cX12_busiest 39 = .ok (.aload_n 0, 1) := by decide +kernel
theorem dX12_busiest_40 : decode cX12_busiest 40 = .ok (.getfield 23, 3) := by decide +kernel
theorem dX12_busiest_43 : decode cX12_busiest 43 = .ok (.iconst 0, 1) := by decide +kernel
theorem dX12_busiest_44 : decode cX12_busiest 44 = .ok (.iaload, 1) := by decide +kernel
theorem dX12_busiest_45 : decode cX12_busiest 45 = .ok (.if_icmp .ge 73, 3) := by decide +kernel
theorem dX12_busiest_48 : decode cX12_busiest 48 = .ok (.iconst 0, 1) := by decide +kernel
theorem dX12_busiest_49 : decode cX12_busiest 49 = .ok (.istore 5, 2) := by decide +kernel
theorem dX12_busiest_51 : decode cX12_busiest 51 = .ok (.iconst 0, 1) := by decide +kernel
theorem dX12_busiest_52 : decode cX12_busiest 52 = .ok (.istore 6, 2) := by decide +kernel
theorem dX12_busiest_54 : decode cX12_busiest 54 = .ok (.iload 6, 2) := by decide +kernel
theorem dX12_busiest_56 : decode cX12_busiest 56 = .ok (.aload_n 0, 1) := by decide +kernel
theorem dX12_busiest_57 : decode cX12_busiest 57 = .ok (.getfield 61, 3) := by decide +kernel
theorem dX12_busiest_60 : decode cX12_busiest 60 = .ok (.bipush 24, 2) := by decide +kernel
theorem dX12_busiest_62 : decode cX12_busiest 62 = .ok (.iaload, 1) := by decide +kernel
theorem dX12_busiest_63 : decode cX12_busiest 63 = .ok (.if_icmp .ge 34, 3) := by decide +kernel
theorem dX12_busiest_66 : decode cX12_busiest 66 = .ok (.iload 5, 2) := by decide +kernel
theorem dX12_busiest_68 : decode cX12_busiest 68 = .ok (.aload_n 0, 1) := by decide +kernel
theorem dX12_busiest_69 : decode cX12_busiest 69 = .ok (.getfield 61, 3) := by decide +kernel
theorem dX12_busiest_72 : decode cX12_busiest 72 = .ok (.iload 6, 2) := by decide +kernel
theorem dX12_busiest_74 : decode cX12_busiest 74 = .ok (.iconst 0, 1) := by decide +kernel
theorem dX12_busiest_75 : decode cX12_busiest 75 = .ok (.invokestatic 263, 3) := by decide +kernel
theorem dX12_busiest_78 : decode cX12_busiest 78 = .ok (.iload 4, 2) := by decide +kernel
theorem dX12_busiest_80 : decode cX12_busiest 80 = .ok (.if_icmp .ne 7, 3) := by decide +kernel
theorem dX12_busiest_83 : decode cX12_busiest 83 = .ok (.iconst 1, 1) := by decide +kernel
theorem dX12_busiest_84 : decode cX12_busiest 84 = .ok (.goto 4, 3) := by decide +kernel
theorem dX12_busiest_87 : decode cX12_busiest 87 = .ok (.iconst 0, 1) := by decide +kernel
theorem dX12_busiest_88 : decode cX12_busiest 88 = .ok (.iadd, 1) := by decide +kernel
theorem dX12_busiest_89 : decode cX12_busiest 89 = .ok (.istore 5, 2) := by decide +kernel
theorem dX12_busiest_91 : decode cX12_busiest 91 = .ok (.iinc 6 1, 3) := by decide +kernel
theorem dX12_busiest_94 : decode cX12_busiest 94 = .ok (.goto (-40), 3) := by decide +kernel
theorem dX12_busiest_97 : decode cX12_busiest 97 = .ok (.iload 5, 2) := by decide +kernel
theorem dX12_busiest_99 : decode cX12_busiest 99 = .ok (.iload_n 3, 1) := by decide +kernel
theorem dX12_busiest_100 : decode cX12_busiest 100 = .ok (.if_icmp .gt 6, 3) := by decide +kernel
theorem dX12_busiest_103 : decode cX12_busiest 103 = .ok (.goto 9, 3) := by decide +kernel
theorem dX12_busiest_106 : decode cX12_busiest 106 = .ok (.iload 4, 2) := by decide +kernel
theorem dX12_busiest_108 : decode cX12_busiest 108 = .ok (.istore_n 2, 1) := by decide +kernel
theorem dX12_busiest_109 : decode cX12_busiest 109 = .ok (.iload 5, 2) := by decide +kernel
theorem dX12_busiest_111 : decode cX12_busiest 111 = .ok (.istore_n 3, 1) := by decide +kernel
theorem dX12_busiest_112 : decode cX12_busiest 112 = .ok (.iinc 4 1, 3) := by decide +kernel
theorem dX12_busiest_115 : decode cX12_busiest 115 = .ok (.goto (-78), 3) := by decide +kernel
theorem dX12_busiest_118 : decode cX12_busiest 118 = .ok (.iload_n 1, 1) := by decide +kernel
theorem dX12_busiest_119 : decode cX12_busiest 119 = .ok (.ifCond .eq 8, 3) := by decide +kernel
theorem dX12_busiest_122 : decode cX12_busiest 122 = .ok (.iload_n 2, 1) := by decide +kernel
theorem dX12_busiest_123 : decode cX12_busiest 123 = .ok (.iconst (-1), 1) := by decide +kernel
theorem dX12_busiest_124 : decode cX12_busiest 124 = .ok (.if_icmp .ne 7, 3) := by decide +kernel
theorem dX12_busiest_127 : decode cX12_busiest 127 = .ok (.iload_n 2, 1) := by decide +kernel
theorem dX12_busiest_128 : decode cX12_busiest 128 = .ok (.goto 4, 3) := by decide +kernel
theorem dX12_busiest_131 : decode cX12_busiest 131 = .ok (.iload_n 3, 1) := by decide +kernel
theorem dX12_busiest_132 : decode cX12_busiest 132 = .ok (.ireturn, 1) := by decide +kernel
theorem dX12_looks_0 : decode cX12_looks 0 = .ok (.aload_n 0, 1) := by decide +kernel
theorem dX12_looks_1 : decode cX12_looks 1 = .ok (.iconst 0, 1) := by decide +kernel
theorem dX12_looks_2 : decode cX12_looks 2 = .ok (.putfield 94, 3) := by decide +kernel
theorem dX12_looks_5 : decode cX12_looks 5 = .ok (.aload_n 0, 1) := by decide +kernel
theorem dX12_looks_6 : decode cX12_looks 6 = .ok (.aload_n 0, 1) := by decide +kernel
theorem dX12_looks_7 : decode cX12_looks 7 = .ok (.iload_n 1, 1) := by decide +kernel
theorem dX12_looks_8 : decode cX12_looks 8 = .ok (.invokevirtual 296, 3) := by decide +kernel
theorem dX12_looks_11 : decode cX12_looks 11 = .ok (.ifCond .ne 7, 3) := by decide +kernel
theorem dX12_looks_14 : decode cX12_looks 14 = .ok (.iconst 1, 1) := by decide +kernel
theorem dX12_looks_15 : decode cX12_looks 15 = .ok (.goto 4, 3) := by decide +kernel
theorem dX12_looks_18 : decode cX12_looks 18 = .ok (.iconst 0, 1) := by decide +kernel
theorem dX12_looks_19 : decode cX12_looks 19 = .ok (.iconst 1, 1) := by decide +kernel
theorem dX12_looks_20 : decode cX12_looks 20 = .ok (.iconst 0, 1) := by decide +kernel
theorem dX12_looks_21 : decode cX12_looks 21 = .ok (.invokevirtual 167, 3) := by decide +kernel
theorem dX12_looks_24 : decode cX12_looks 24 = .ok (.ifCond .ne 26, 3) := by decide +kernel
theorem dX12_looks_27 : decode cX12_looks 27 = .ok (.aload_n 0, 1) := by decide +kernel
theorem dX12_looks_28 : decode cX12_looks 28 = .ok (.iload_n 2, 1) := by decide +kernel
theorem dX12_looks_29 : decode cX12_looks 29 = .ok (.iconst 0, 1) := by decide +kernel
theorem dX12_looks_30 : decode cX12_looks 30 = .ok (.iconst 2, 1) := by decide +kernel
theorem dX12_looks_31 : decode cX12_looks 31 = .ok (.invokestatic 128, 3) := by decide +kernel
theorem dX12_looks_34 : decode cX12_looks 34 = .ok (.ifCond .ne 7, 3) := by decide +kernel
theorem dX12_looks_37 : decode cX12_looks 37 = .ok (.iconst 1, 1) := by decide +kernel
theorem dX12_looks_38 : decode cX12_looks 38 = .ok (.goto 4, 3) := by decide +kernel
theorem dX12_looks_41 : decode cX12_looks 41 = .ok (.iconst 0, 1) := by decide +kernel
theorem dX12_looks_42 : decode cX12_looks 42 = .ok (.iconst 2, 1) := by decide +kernel
theorem dX12_looks_43 : decode cX12_looks 43 = .ok (.iconst 1, 1) := by decide +kernel
theorem dX12_looks_44 : decode cX12_looks 44 = .ok (.invokevirtual 167, 3) := by decide +kernel
theorem dX12_looks_47 : decode cX12_looks 47 = .ok (.ifCond .eq 5, 3) := by decide +kernel
theorem dX12_looks_50 : decode cX12_looks 50 = .ok (.iconst 0, 1) := by decide +kernel
theorem dX12_looks_51 : decode cX12_looks 51 = .ok (.ireturn, 1) := by decide +kernel
theorem dX12_looks_52 : decode cX12_looks 52 = .ok (.iconst 0, 1) := by decide +kernel
theorem dX12_looks_53 : decode cX12_looks 53 = .ok (.istore_n 3, 1) := by decide +kernel
theorem dX12_looks_54 : decode cX12_looks 54 = .ok (.iconst 0, 1) := by decide +kernel
theorem dX12_looks_55 : decode cX12_looks 55 = .ok (.istore 4, 2) := by decide +kernel
theorem dX12_looks_57 : decode cX12_looks 57 = .ok (.iload 4, 2) := by decide +kernel
theorem dX12_looks_59 : decode cX12_looks 59 = .ok (.aload_n 0, 1) := by decide +kernel
theorem dX12_looks_60 : decode cX12_looks 60 = .ok (.getfield 61, 3) := by decide +kernel
theorem dX12_looks_63 : decode cX12_looks 63 = .ok (.bipush 24, 2) := by decide +kernel
theorem dX12_looks_65 : decode cX12_looks 65 = .ok (.iaload, 1) := by decide +kernel
theorem dX12_looks_66 : decode cX12_looks 66 = .ok (.if_icmp .ge 67, 3) := by decide +kernel
theorem dX12_looks_69 : decode cX12_looks 69 = .ok (.aload_n 0, 1) := by decide +kernel
theorem dX12_looks_70 : decode cX12_looks 70 = .ok (.aload_n 0, 1) := by decide +kernel
theorem dX12_looks_71 : decode cX12_looks 71 = .ok (.getfield 61, 3) := by decide +kernel
theorem dX12_looks_74 : decode cX12_looks 74 = .ok (.iload 4, 2) := by decide +kernel
theorem dX12_looks_76 : decode cX12_looks 76 = .ok (.iconst 3, 1) := by decide +kernel
theorem dX12_looks_77 : decode cX12_looks 77 = .ok (.invokestatic 263, 3) := by decide +kernel
theorem dX12_looks_80 : decode cX12_looks 80 = .ok (.invokevirtual 302, 3) := by decide +kernel
theorem dX12_looks_83 : decode cX12_looks 83 = .ok (.iload_n 1, 1) := by decide +kernel
theorem dX12_looks_84 : decode cX12_looks 84 = .ok (.if_icmp .ne 7, 3) := by decide +kernel
theorem dX12_looks_87 : decode cX12_looks 87 = .ok (.iconst 1, 1) := by decide +kernel
theorem dX12_looks_88 : decode cX12_looks 88 = .ok (.goto 4, 3) := by decide +kernel
theorem dX12_looks_91 : decode cX12_looks 91 = .ok (.iconst 0, 1) := by decide +kernel
theorem dX12_looks_92 : decode cX12_looks 92 = .ok (.istore 5, 2) := by decide +kernel
theorem dX12_looks_94 : decode cX12_looks 94 = .ok (.iload_n 3, 1) := by decide +kernel
theorem dX12_looks_95 : decode cX12_looks 95 = .ok (.iload 5, 2) := by decide +kernel
theorem dX12_looks_97 : decode cX12_looks 97 = .ok (.ifCond .eq 27, 3) := by decide +kernel
theorem dX12_looks_100 : decode cX12_looks 100 = .ok (.iload_n 2, 1) := by decide +kernel
theorem dX12_looks_101 : decode cX12_looks 101 = .ok (.ifCond .eq 19, 3) := by decide +kernel
theorem dX12_looks_104 : decode cX12_looks 104 = .ok (.aload_n 0, 1) := by decide +kernel
theorem dX12_looks_105 : decode cX12_looks 105 = .ok (.getfield 61, 3) := by decide +kernel
theorem dX12_looks_108 : decode cX12_looks 108 = .ok (.iload 4, 2) := by decide +kernel
theorem dX12_looks_110 : decode cX12_looks 110 = .ok (.iconst 2, 1) := by decide +kernel
theorem dX12_looks_111 : decode cX12_looks 111 = .ok (.iload_n 2, 1) := by decide +kernel
theorem dX12_looks_112 : decode cX12_looks 112 = .ok (.isub, 1) := by decide +kernel
theorem dX12_looks_113 : decode cX12_looks 113 = .ok (.invokestatic 263, 3) := by decide +kernel
theorem dX12_looks_116 : decode cX12_looks 116 = .ok (.iload_n 1, 1) := by decide +kernel
theorem dX12_looks_117 : decode cX12_looks 117 = .ok (.if_icmp .eq 7, 3) := by decide +kernel
theorem dX12_looks_120 : decode cX12_looks 120 = .ok (.iconst 1, 1) := by decide +kernel
theorem dX12_looks_121 : decode cX12_looks 121 = .ok (.goto 4, 3) := by decide +kernel
theorem dX12_looks_124 : decode cX12_looks 124 = .ok (.iconst 0, 1) := by decide +kernel
theorem dX12_looks_125 : decode cX12_looks 125 = .ok (.iadd, 1) := by decide +kernel
theorem dX12_looks_126 : decode cX12_looks 126 = .ok (.istore_n 3, 1) := by decide +kernel
theorem dX12_looks_127 : decode cX12_looks 127 = .ok (.iinc 4 1, 3) := by decide +kernel
theorem dX12_looks_130 : decode cX12_looks 130 = .ok (.goto (-73), 3) := by decide +kernel
theorem dX12_looks_133 : decode cX12_looks 133 = .ok (.iload_n 3, 1) := by decide +kernel
theorem dX12_looks_134 : decode cX12_looks 134 = .ok (.ireturn, 1) := by decide +kernel
theorem dX12_lost_0 : decode cX12_lost 0 = .ok (.aload_n 0, 1) := by decide +kernel
theorem dX12_lost_1 : decode cX12_lost 1 = .ok (.iconst 0, 1) := by decide +kernel
theorem dX12_lost_2 : decode cX12_lost 2 = .ok (.putfield 94, 3) := by decide +kernel
theorem dX12_lost_5 : decode cX12_lost 5 = .ok (.aload_n 0, 1) := by decide +kernel
theorem dX12_lost_6 : decode cX12_lost 6 = .ok (.iload_n 1, 1) := by decide +kernel
theorem dX12_lost_7 : decode cX12_lost 7 = .ok (.invokestatic 305, 3) := by decide +kernel
theorem dX12_lost_10 : decode cX12_lost 10 = .ok (.ifCond .ne 7, 3) := by decide +kernel
theorem dX12_lost_13 : decode cX12_lost 13 = .ok (.iconst 1, 1) := by decide +kernel
theorem dX12_lost_14 : decode cX12_lost 14 = .ok (.goto 4, 3) := by decide +kernel
theorem dX12_lost_17 : decode cX12_lost 17 = .ok (.iconst 0, 1) := by decide +kernel
theorem dX12_lost_18 : decode cX12_lost 18 = .ok (.iconst 1, 1) := by decide +kernel
theorem dX12_lost_19 : decode cX12_lost 19 = .ok (.iconst 0, 1) := by decide +kernel
theorem dX12_lost_20 : decode cX12_lost 20 = .ok (.invokevirtual 167, 3) := by decide +kernel
theorem dX12_lost_23 : decode cX12_lost 23 = .ok (.ifCond .eq 5, 3) := by decide +kernel
theorem dX12_lost_26 : decode cX12_lost 26 = .ok (.iconst 0, 1) := by decide +kernel
theorem dX12_lost_27 : decode cX12_lost 27 = .ok (.ireturn, 1) := by decide +kernel
theorem dX12_lost_28 : decode cX12_lost 28 = .ok (.aload_n 0, 1) := by decide +kernel
theorem dX12_lost_29 : decode cX12_lost 29 = .ok (.getfield 61, 3) := by decide +kernel
theorem dX12_lost_32 : decode cX12_lost 32 = .ok (.aload_n 0, 1) := by decide +kernel
theorem dX12_lost_33 : decode cX12_lost 33 = .ok (.getfield 64, 3) := by decide +kernel
theorem dX12_lost_36 : decode cX12_lost 36 = .ok (.invokestatic 292, 3) := by decide +kernel
theorem dX12_lost_39 : decode cX12_lost 39 = .ok (.aload_n 0, 1) := by decide +kernel
theorem dX12_lost_40 : decode cX12_lost 40 = .ok (.getfield 64, 3) := by decide +kernel
theorem dX12_lost_43 : decode cX12_lost 43 = .ok (.iload_n 1, 1) := by decide +kernel
theorem dX12_lost_44 : decode cX12_lost 44 = .ok (.invokestatic 271, 3) := by decide +kernel
theorem dX12_lost_47 : decode cX12_lost 47 = .ok (.pop, 1) := by decide +kernel
theorem dX12_lost_48 : decode cX12_lost 48 = .ok (.aload_n 0, 1) := by decide +kernel
theorem dX12_lost_49 : decode cX12_lost 49 = .ok (.aload_n 0, 1) := by decide +kernel
theorem dX12_lost_50 : decode cX12_lost 50 = .ok (.getfield 61, 3) := by decide +kernel
theorem dX12_lost_53 : decode cX12_lost 53 = .ok (.invokevirtual 314, 3) := by decide +kernel
theorem dX12_lost_56 : decode cX12_lost 56 = .ok (.aload_n 0, 1) := by decide +kernel
theorem dX12_lost_57 : decode cX12_lost 57 = .ok (.aload_n 0, 1) := by decide +kernel
theorem dX12_lost_58 : decode cX12_lost 58 = .ok (.getfield 64, 3) := by decide +kernel
theorem dX12_lost_61 : decode cX12_lost 61 = .ok (.invokevirtual 314, 3) := by decide +kernel
theorem dX12_lost_64 : decode cX12_lost 64 = .ok (.iconst (-1), 1) := by decide +kernel
theorem dX12_lost_65 : decode cX12_lost 65 = .ok (.ixor, 1) := by decide +kernel
theorem dX12_lost_66 : decode cX12_lost 66 = .ok (.iand, 1) := by decide +kernel
theorem dX12_lost_67 : decode cX12_lost 67 = .ok (.ireturn, 1) := by decide +kernel
theorem dX12_faces_0 : decode cX12_faces 0 = .ok (.aload_n 0, 1) := by decide +kernel
theorem dX12_faces_1 : decode cX12_faces 1 = .ok (.iconst 0, 1) := by decide +kernel
theorem dX12_faces_2 : decode cX12_faces 2 = .ok (.putfield 94, 3) := by decide +kernel
theorem dX12_faces_5 : decode cX12_faces 5 = .ok (.aload_n 0, 1) := by decide +kernel
theorem dX12_faces_6 : decode cX12_faces 6 = .ok (.aload_n 0, 1) := by decide +kernel
theorem dX12_faces_7 : decode cX12_faces 7 = .ok (.iload_n 1, 1) := by decide +kernel
theorem dX12_faces_8 : decode cX12_faces 8 = .ok (.invokevirtual 296, 3) := by decide +kernel
theorem dX12_faces_11 : decode cX12_faces 11 = .ok (.ifCond .ne 7, 3) := by decide +kernel
theorem dX12_faces_14 : decode cX12_faces 14 = .ok (.iconst 1, 1) := by decide +kernel
theorem dX12_faces_15 : decode cX12_faces 15 = .ok (.goto 4, 3) := by decide +kernel
theorem dX12_faces_18 : decode cX12_faces 18 = .ok (.iconst 0, 1) := by decide +kernel
theorem dX12_faces_19 : decode cX12_faces 19 = .ok (.iconst 1, 1) := by decide +kernel
theorem dX12_faces_20 : decode cX12_faces 20 = .ok (.iconst 0, 1) := by decide +kernel
theorem dX12_faces_21 : decode cX12_faces 21 = .ok (.invokevirtual 167, 3) := by decide +kernel
theorem dX12_faces_24 : decode cX12_faces 24 = .ok (.ifCond .ne 26, 3) := by decide +kernel
theorem dX12_faces_27 : decode cX12_faces 27 = .ok (.aload_n 0, 1) := by decide +kernel
theorem dX12_faces_28 : decode cX12_faces 28 = .ok (.iload_n 2, 1) := by decide +kernel
theorem dX12_faces_29 : decode cX12_faces 29 = .ok (.iconst 0, 1) := by decide +kernel
theorem dX12_faces_30 : decode cX12_faces 30 = .ok (.iconst 2, 1) := by decide +kernel
theorem dX12_faces_31 : decode cX12_faces 31 = .ok (.invokestatic 128, 3) := by decide +kernel
theorem dX12_faces_34 : decode cX12_faces 34 = .ok (.ifCond .ne 7, 3) := by decide +kernel
theorem dX12_faces_37 : decode cX12_faces 37 = .ok (.iconst 1, 1) := by decide +kernel
theorem dX12_faces_38 : decode cX12_faces 38 = .ok (.goto 4, 3) := by decide +kernel
theorem dX12_faces_41 : decode cX12_faces 41 = .ok (.iconst 0, 1) := by decide +kernel
theorem dX12_faces_42 : decode cX12_faces 42 = .ok (.iconst 2, 1) := by decide +kernel
theorem dX12_faces_43 : decode cX12_faces 43 = .ok (.iconst 1, 1) := by decide +kernel
theorem dX12_faces_44 : decode cX12_faces 44 = .ok (.invokevirtual 167, 3) := by decide +kernel
theorem dX12_faces_47 : decode cX12_faces 47 = .ok (.ifCond .eq 5, 3) := by decide +kernel
theorem dX12_faces_50 : decode cX12_faces 50 = .ok (.iconst 0, 1) := by decide +kernel
theorem dX12_faces_51 : decode cX12_faces 51 = .ok (.ireturn, 1) := by decide +kernel
theorem dX12_faces_52 : decode cX12_faces 52 = .ok (.iconst 0, 1) := by decide +kernel
theorem dX12_faces_53 : decode cX12_faces 53 = .ok (.istore_n 3, 1) := by decide +kernel
theorem dX12_faces_54 : decode cX12_faces 54 = .ok (.iconst (-1), 1) := by decide +kernel
theorem dX12_faces_55 : decode cX12_faces 55 = .ok (.istore 4, 2) := by decide +kernel
theorem dX12_faces_57 : decode cX12_faces 57 = .ok (.iconst (-1), 1) := by decide +kernel
theorem dX12_faces_58 : decode cX12_faces 58 = .ok (.istore 5, 2) := by decide +kernel
theorem dX12_faces_60 : decode cX12_faces 60 = .ok (.iconst 0, 1) := by decide +kernel
theorem dX12_faces_61 : decode cX12_faces 61 = .ok (.istore 6, 2) := by decide +kernel
theorem dX12_faces_63 : decode cX12_faces 63 = .ok (.iload 6, 2) := by decide +kernel
theorem dX12_faces_65 : decode cX12_faces 65 = .ok (.bipush 64, 2) := by decide +kernel
theorem dX12_faces_67 : decode cX12_faces 67 = .ok (.if_icmp .ge 17, 3) := by decide +kernel
theorem dX12_faces_70 : decode cX12_faces 70 = .ok (.aload_n 0, 1) := by decide +kernel
theorem dX12_faces_71 : decode cX12_faces 71 = .ok (.getfield 85, 3) := by decide +kernel
theorem dX12_faces_74 : decode cX12_faces 74 = .ok (.iload 6, 2) := by decide +kernel
theorem dX12_faces_76 : decode cX12_faces 76 = .ok (.iconst 0, 1) := by decide +kernel
theorem dX12_faces_77 : decode cX12_faces 77 = .ok (.iastore, 1) := by decide +kernel
theorem dX12_faces_78 : decode cX12_faces 78 = .ok (.iinc 6 1, 3) := by decide +kernel
theorem dX12_faces_81 : decode cX12_faces 81 = .ok (.goto (-18), 3) := by decide +kernel
theorem dX12_faces_84 : decode cX12_faces 84 = .ok (.iconst 0, 1) := by decide +kernel
theorem dX12_faces_85 : decode cX12_faces 85 = .ok (.istore 6, 2) := by decide +kernel
theorem dX12_faces_87 : decode cX12_faces 87 = .ok (.iload 6, 2) := by decide +kernel
theorem dX12_faces_89 : decode cX12_faces 89 = .ok (.aload_n 0, 1) := by decide +kernel
theorem dX12_faces_90 : decode cX12_faces 90 = .ok (.getfield 61, 3) := by decide +kernel
theorem dX12_faces_93 : decode cX12_faces 93 = .ok (.bipush 24, 2) := by decide +kernel
theorem dX12_faces_95 : decode cX12_faces 95 = .ok (.iaload, 1) := by decide +kernel
theorem dX12_faces_96 : decode cX12_faces 96 = .ok (.if_icmp .ge 39, 3) := by decide +kernel
theorem dX12_faces_99 : decode cX12_faces 99 = .ok (.aload_n 0, 1) := by decide +kernel
theorem dX12_faces_100 : decode cX12_faces 100 = .ok (.getfield 61, 3) := by decide +kernel
theorem dX12_faces_103 : decode cX12_faces 103 = .ok (.iload 6, 2) := by decide +kernel
theorem dX12_faces_105 : decode cX12_faces 105 = .ok (.iconst 0, 1) := by decide +kernel
theorem dX12_faces_106 : decode cX12_faces 106 = .ok (.invokestatic 263, 3) := by decide +kernel
theorem dX12_faces_109 : decode cX12_faces 109 = .ok (.iload_n 1, 1) := by decide +kernel
theorem dX12_faces_110 : decode cX12_faces 110 = .ok (.if_icmp .ne 19, 3) := by decide +kernel
theorem dX12_faces_113 : decode cX12_faces 113 = .ok (.aload_n 0, 1) := by decide +kernel
theorem dX12_faces_114 : decode cX12_faces 114 = .ok (.getfield 85, 3) := by decide +kernel
theorem dX12_faces_117 : decode cX12_faces 117 = .ok (.aload_n 0, 1) := by decide +kernel
theorem dX12_faces_118 : decode cX12_faces 118 = .ok (.getfield 61, 3) := by decide +kernel
theorem dX12_faces_121 : decode cX12_faces 121 = .ok (.iload 6, 2) := by decide +kernel
theorem dX12_faces_123 : decode cX12_faces 123 = .ok (.iconst 3, 1) := by decide +kernel
theorem dX12_faces_124 : decode cX12_faces 124 = .ok (.invokestatic 263, 3) := by decide +kernel
theorem dX12_faces_127 : decode cX12_faces 127 = .ok (.iconst 1, 1) := by decide +kernel
theorem dX12_faces_128 : decode cX12_faces 128 = .ok (.iastore, 1) := by decide +kernel
theorem dX12_faces_129 : decode cX12_faces 129 = .ok (.iinc 6 1, 3) := by decide +kernel
theorem dX12_faces_132 : decode cX12_faces 132 = .ok (.goto (-45), 3) := by decide +kernel
theorem dX12_faces_135 : decode cX12_faces 135 = .ok (.iconst 0, 1) := by decide +kernel
theorem dX12_faces_136 : decode cX12_faces 136 = .ok (.istore 6, 2) := by decide +kernel
theorem dX12_faces_138 : decode cX12_faces 138 = .ok (.iload 6, 2) := by decide +kernel
theorem dX12_faces_140 : decode cX12_faces 140 = .ok (.bipush 64, 2) := by decide +kernel
theorem dX12_faces_142 : decode cX12_faces 142 = .ok (.if_icmp .ge 42, 3) := by decide +kernel
theorem dX12_faces_145 : decode cX12_faces 145 = .ok (.aload_n 0, 1) := by decide +kernel
theorem dX12_faces_146 : decode cX12_faces 146 = .ok (.getfield 85, 3) := by decide +kernel
theorem dX12_faces_149 : decode cX12_faces 149 = .ok (.iload 6, 2) := by decide +kernel
theorem dX12_faces_151 : decode cX12_faces 151 = .ok (.iaload, 1) := by decide +kernel
theorem dX12_faces_152 : decode cX12_faces 152 = .ok (.ifCond .ne 6, 3) := by decide +kernel
theorem dX12_faces_155 : decode cX12_faces 155 = .ok (.goto 23, 3) := by decide +kernel
theorem dX12_faces_158 : decode cX12_faces 158 = .ok (.iload_n 3, 1) := by decide +kernel
theorem dX12_faces_159 : decode cX12_faces 159 = .ok (.ifCond .ne 8, 3) := by decide +kernel
theorem dX12_faces_162 : decode cX12_faces 162 = .ok (.iload 6, 2) := by decide +kernel
theorem dX12_faces_164 : decode cX12_faces 164 = .ok (.goto 5, 3) := by decide +kernel
theorem dX12_faces_167 : decode cX12_faces 167 = .ok (.iload 4, 2) := by decide +kernel
theorem dX12_faces_169 : decode cX12_faces 169 = .ok (.istore 4, 2) := by decide +kernel
theorem dX12_faces_171 : decode cX12_faces 171 = .ok (.iload 6, 2) := by decide +kernel
theorem dX12_faces_173 : decode cX12_faces 173 = .ok (.istore 5, 2) := by decide +kernel
theorem dX12_faces_175 : decode cX12_faces 175 = .ok (.iinc 3 1, 3) := by decide +kernel
theorem dX12_faces_178 : decode cX12_faces 178 = .ok (.iinc 6 1, 3) := by decide +kernel
theorem dX12_faces_181 : decode cX12_faces 181 = .ok (.goto (-43), 3) := by decide +kernel
theorem dX12_faces_184 : decode cX12_faces 184 = .ok (.iload_n 2, 1) := by decide +kernel
theorem dX12_faces_185 : decode cX12_faces 185 = .ok (.ifCond .ne 7, 3) := by decide +kernel
theorem dX12_faces_188 : decode cX12_faces 188 = .ok (.iload_n 3, 1) := by decide +kernel
theorem dX12_faces_189 : decode cX12_faces 189 = .ok (.goto 15, 3) := by decide +kernel
theorem dX12_faces_192 : decode cX12_faces 192 = .ok (.iload_n 2, 1) := by decide +kernel
theorem dX12_faces_193 : decode cX12_faces 193 = .ok (.iconst 1, 1) := by decide +kernel
theorem dX12_faces_194 : decode cX12_faces 194 = .ok (.if_icmp .ne 8, 3) := by decide +kernel
theorem dX12_faces_197 : decode cX12_faces 197 = .ok (.iload 4, 2) := by decide +kernel
theorem dX12_faces_199 : decode cX12_faces 199 = .ok (.goto 5, 3) := by decide +kernel
theorem dX12_faces_202 : decode cX12_faces 202 = .ok (.iload 5, 2) := by decide +kernel
theorem dX12_faces_204 : decode cX12_faces 204 = .ok (.ireturn, 1) := by decide +kernel
theorem dX12_common_0 : decode cX12_common 0 = .ok (.aload_n 0, 1) := by decide +kernel
theorem dX12_common_1 : decode cX12_common 1 = .ok (.iconst 0, 1) := by decide +kernel
theorem dX12_common_2 : decode cX12_common 2 = .ok (.putfield 94, 3) := by decide +kernel
theorem dX12_common_5 : decode cX12_common 5 = .ok (.aload_n 0, 1) := by decide +kernel
theorem dX12_common_6 : decode cX12_common 6 = .ok (.iload_n 1, 1) := by decide +kernel
theorem dX12_common_7 : decode cX12_common 7 = .ok (.invokestatic 308, 3) := by decide +kernel
theorem dX12_common_10 : decode cX12_common 10 = .ok (.ifCond .ne 7, 3) := by decide +kernel
theorem dX12_common_13 : decode cX12_common 13 = .ok (.iconst 1, 1) := by decide +kernel
theorem dX12_common_14 : decode cX12_common 14 = .ok (.goto 4, 3) := by decide +kernel
theorem dX12_common_17 : decode cX12_common 17 = .ok (.iconst 0, 1) := by decide +kernel
theorem dX12_common_18 : decode cX12_common 18 = .ok (.iconst 1, 1) := by decide +kernel
theorem dX12_common_19 : decode cX12_common 19 = .ok (.iconst 1, 1) := by decide +kernel
theorem dX12_common_20 : decode cX12_common 20 = .ok (.invokevirtual 167, 3) := by decide +kernel
theorem dX12_common_23 : decode cX12_common 23 = .ok (.ifCond .eq 5, 3) := by decide +kernel
theorem dX12_common_26 : decode cX12_common 26 = .ok (.iconst 0, 1) := by decide +kernel
theorem dX12_common_27 : decode cX12_common 27 = .ok (.ireturn, 1) := by decide +kernel
theorem dX12_common_28 : decode cX12_common 28 = .ok (.iconst 0, 1) := by decide +kernel
theorem dX12_common_29 : decode cX12_common 29 = .ok (.istore_n 2, 1) := by decide +kernel
theorem dX12_common_30 : decode cX12_common 30 = .ok (.iconst 0, 1) := by decide +kernel
theorem dX12_common_31 : decode cX12_common 31 = .ok (.istore_n 3, 1) := by decide +kernel
theorem dX12_common_32 : decode cX12_common 32 = .ok (.iload_n 3, 1) := by decide +kernel
theorem dX12_common_33 : decode cX12_common 33 = .ok (.aload_n 0, 1) := by decide +kernel
theorem dX12_common_34 : decode cX12_common 34 = .ok (.getfield 23, 3) := by decide +kernel
theorem dX12_common_37 : decode cX12_common 37 = .ok (.iconst 0, 1) := by decide +kernel
theorem dX12_common_38 : decode cX12_common 38 = .ok (.iaload, 1) := by decide +kernel
theorem dX12_common_39 : decode cX12_common 39 = .ok (.if_icmp .ge 30, 3) := by decide +kernel
theorem dX12_common_42 : decode cX12_common 42 = .ok (.iload_n 2, 1) := by decide +kernel
theorem dX12_common_43 : decode cX12_common 43 = .ok (.aload_n 0, 1) := by decide +kernel
theorem dX12_common_44 : decode cX12_common 44 = .ok (.iload_n 3, 1) := by decide +kernel
theorem dX12_common_45 : decode cX12_common 45 = .ok (.invokevirtual 253, 3) := by decide +kernel
theorem dX12_common_48 : decode cX12_common 48 = .ok (.iload_n 1, 1) := by decide +kernel
theorem dX12_common_49 : decode cX12_common 49 = .ok (.iand, 1) := by decide +kernel
theorem dX12_common_50 : decode cX12_common 50 = .ok (.iload_n 1, 1) := by decide +kernel
theorem dX12_common_51 : decode cX12_common 51 = .ok (.if_icmp .ne 9, 3) := by decide +kernel
theorem dX12_common_54 : decode cX12_common 54 = .ok (.iconst 1, 1) := by decide +kernel
theorem dX12_common_55 : decode cX12_common 55 = .ok (.iload_n 3, 1) := by decide +kernel
theorem dX12_common_56 : decode cX12_common 56 = .ok (.ishl, 1) := by decide +kernel
theorem dX12_common_57 : decode cX12_common 57 = .ok (.goto 4, 3) := by decide +kernel
theorem dX12_common_60 : decode cX12_common 60 = .ok (.iconst 0, 1) := by decide +kernel
theorem dX12_common_61 : decode cX12_common 61 = .ok (.ior, 1) := by decide +kernel
theorem dX12_common_62 : decode cX12_common 62 = .ok (.istore_n 2, 1) := by decide +kernel
theorem dX12_common_63 : decode cX12_common 63 = .ok (.iinc 3 1, 3) := by decide +kernel
theorem dX12_common_66 : decode cX12_common 66 = .ok (.goto (-34), 3) := by decide +kernel
theorem dX12_common_69 : decode cX12_common 69 = .ok (.iload_n 2, 1) := by decide +kernel
theorem dX12_common_70 : decode cX12_common 70 = .ok (.ireturn, 1) := by decide +kernel
theorem dX12_unseen_0 : decode cX12_unseen 0 = .ok (.aload_n 0, 1) := by decide +kernel
theorem dX12_unseen_1 : decode cX12_unseen 1 = .ok (.iconst 0, 1) := by decide +kernel
theorem dX12_unseen_2 : decode cX12_unseen 2 = .ok (.putfield 94, 3) := by decide +kernel
theorem dX12_unseen_5 : decode cX12_unseen 5 = .ok (.iconst 0, 1) := by decide +kernel
theorem dX12_unseen_6 : decode cX12_unseen 6 = .ok (.istore_n 1, 1) := by decide +kernel
theorem dX12_unseen_7 : decode cX12_unseen 7 = .ok (.iconst 0, 1) := by decide +kernel
theorem dX12_unseen_8 : decode cX12_unseen 8 = .ok (.istore_n 2, 1) := by decide +kernel
theorem dX12_unseen_9 : decode cX12_unseen 9 = .ok (.iload_n 2, 1) := by decide +kernel
theorem dX12_unseen_10 : decode cX12_unseen 10 = .ok (.aload_n 0, 1) := by decide +kernel
theorem dX12_unseen_11 : decode cX12_unseen 11 = .ok (.getfield 23, 3) := by decide +kernel
theorem dX12_unseen_14 : decode cX12_unseen 14 = .ok (.iconst 0, 1) := by decide +kernel
theorem dX12_unseen_15 : decode cX12_unseen 15 = .ok (.iaload, 1) := by decide +kernel
theorem dX12_unseen_16 : decode cX12_unseen 16 = .ok (.if_icmp .ge 41, 3) := by decide +kernel
theorem dX12_unseen_19 : decode cX12_unseen 19 = .ok (.iload_n 1, 1) := by decide +kernel
theorem dX12_unseen_20 : decode cX12_unseen 20 = .ok (.aload_n 0, 1) := by decide +kernel
theorem dX12_unseen_21 : decode cX12_unseen 21 = .ok (.getfield 61, 3) := by decide +kernel
theorem dX12_unseen_24 : decode cX12_unseen 24 = .ok (.bipush 8, 2) := by decide +kernel
theorem dX12_unseen_26 : decode cX12_unseen 26 = .ok (.iload_n 2, 1) := by decide +kernel
theorem dX12_unseen_27 : decode cX12_unseen 27 = .ok (.iadd, 1) := by decide +kernel
theorem dX12_unseen_28 : decode cX12_unseen 28 = .ok (.iaload, 1) := by decide +kernel
theorem dX12_unseen_29 : decode cX12_unseen 29 = .ok (.aload_n 0, 1) := by decide +kernel
theorem dX12_unseen_30 : decode cX12_unseen 30 = .ok (.getfield 61, 3) := by decide +kernel
theorem dX12_unseen_33 : decode cX12_unseen 33 = .ok (.bipush 16, 2) := by decide +kernel
theorem dX12_unseen_35 : decode cX12_unseen 35 = .ok (.iload_n 2, 1) := by decide +kernel
theorem dX12_unseen_36 : decode cX12_unseen 36 = .ok (.iadd, 1) := by decide +kernel
theorem dX12_unseen_37 : decode cX12_unseen 37 = .ok (.iaload, 1) := by decide +kernel
theorem dX12_unseen_38 : decode cX12_unseen 38 = .ok (.iadd, 1) := by decide +kernel
theorem dX12_unseen_39 : decode cX12_unseen 39 = .ok (.ifCond .ne 9, 3) := by decide +kernel
theorem dX12_unseen_42 : decode cX12_unseen 42 = .ok (.iconst 1, 1) := by decide +kernel
theorem dX12_unseen_43 : decode cX12_unseen 43 = .ok (.iload_n 2, 1) := by decide +kernel
theorem dX12_unseen_44 : decode cX12_unseen 44 = .ok (.ishl, 1) := by decide +kernel
theorem dX12_unseen_45 : decode cX12_unseen 45 = .ok (.goto 4, 3) := by decide +kernel
theorem dX12_unseen_48 : decode cX12_unseen 48 = .ok (.iconst 0, 1) := by decide +kernel
theorem dX12_unseen_49 : decode cX12_unseen 49 = .ok (.ior, 1) := by decide +kernel
theorem dX12_unseen_50 : decode cX12_unseen 50 = .ok (.istore_n 1, 1) := by decide +kernel
theorem dX12_unseen_51 : decode cX12_unseen 51 = .ok (.iinc 2 1, 3) := by decide +kernel
theorem dX12_unseen_54 : decode cX12_unseen 54 = .ok (.goto (-45), 3) := by decide +kernel
theorem dX12_unseen_57 : decode cX12_unseen 57 = .ok (.iload_n 1, 1) := by decide +kernel
theorem dX12_unseen_58 : decode cX12_unseen 58 = .ok (.ireturn, 1) := by decide +kernel
theorem dX12_where_0 : decode cX12_where 0 = .ok (.aload_n 0, 1) := by decide +kernel
theorem dX12_where_1 : decode cX12_where 1 = .ok (.iconst 0, 1) := by decide +kernel
theorem dX12_where_2 : decode cX12_where 2 = .ok (.putfield 94, 3) := by decide +kernel
theorem dX12_where_5 : decode cX12_where 5 = .ok (.aload_n 0, 1) := by decide +kernel
theorem dX12_where_6 : decode cX12_where 6 = .ok (.aload_n 0, 1) := by decide +kernel
theorem dX12_where_7 : decode cX12_where 7 = .ok (.iload_n 1, 1) := by decide +kernel
theorem dX12_where_8 : decode cX12_where 8 = .ok (.invokevirtual 296, 3) := by decide +kernel
theorem dX12_where_11 : decode cX12_where 11 = .ok (.ifCond .ne 7, 3) := by decide +kernel
theorem dX12_where_14 : decode cX12_where 14 = .ok (.iconst 1, 1) := by decide +kernel
theorem dX12_where_15 : decode cX12_where 15 = .ok (.goto 4, 3) := by decide +kernel
theorem dX12_where_18 : decode cX12_where 18 = .ok (.iconst 0, 1) := by decide +kernel
theorem dX12_where_19 : decode cX12_where 19 = .ok (.iconst 1, 1) := by decide +kernel
theorem dX12_where_20 : decode cX12_where 20 = .ok (.iconst 0, 1) := by decide +kernel
theorem dX12_where_21 : decode cX12_where 21 = .ok (.invokevirtual 167, 3) := by decide +kernel
theorem dX12_where_24 : decode cX12_where 24 = .ok (.ifCond .eq 5, 3) := by decide +kernel
theorem dX12_where_27 : decode cX12_where 27 = .ok (.iconst 0, 1) := by decide +kernel
theorem dX12_where_28 : decode cX12_where 28 = .ok (.ireturn, 1) := by decide +kernel
theorem dX12_where_29 : decode cX12_where 29 = .ok (.iconst 0, 1) := by decide +kernel
theorem dX12_where_30 : decode cX12_where 30 = .ok (.istore_n 2, 1) := by decide +kernel
theorem dX12_where_31 : decode cX12_where 31 = .ok (.iconst 0, 1) := by decide +kernel
theorem dX12_where_32 : decode cX12_where 32 = .ok (.istore_n 3, 1) := by decide +kernel
theorem dX12_where_33 : decode cX12_where 33 = .ok (.iload_n 3, 1) := by decide +kernel
theorem dX12_where_34 : decode cX12_where 34 = .ok (.aload_n 0, 1) := by decide +kernel
theorem dX12_where_35 : decode cX12_where 35 = .ok (.getfield 61, 3) := by decide +kernel
theorem dX12_where_38 : decode cX12_where 38 = .ok (.bipush 24, 2) := by decide +kernel
theorem dX12_where_40 : decode cX12_where 40 = .ok (.iaload, 1) := by decide +kernel
theorem dX12_where_41 : decode cX12_where 41 = .ok (.if_icmp .ge 44, 3) := by decide +kernel
theorem dX12_where_44 : decode cX12_where 44 = .ok (.iload_n 2, 1) := by decide +kernel
theorem dX12_where_45 : decode cX12_where 45 = .ok (.aload_n 0, 1) := by decide +kernel
theorem dX12_where_46 : decode cX12_where 46 = .ok (.aload_n 0, 1) := by decide +kernel
theorem dX12_where_47 : decode cX12_where 47 = .ok (.getfield 61, 3) := by decide +kernel
theorem dX12_where_50 : decode cX12_where 50 = .ok (.iload_n 3, 1) := by decide +kernel
theorem dX12_where_51 : decode cX12_where 51 = .ok (.iconst 3, 1) := by decide +kernel
theorem dX12_where_52 : decode cX12_where 52 = .ok (.invokestatic 263, 3) := by decide +kernel
theorem dX12_where_55 : decode cX12_where 55 = .ok (.invokevirtual 302, 3) := by decide +kernel
theorem dX12_where_58 : decode cX12_where 58 = .ok (.iload_n 1, 1) := by decide +kernel
theorem dX12_where_59 : decode cX12_where 59 = .ok (.if_icmp .ne 17, 3) := by decide +kernel
theorem dX12_where_62 : decode cX12_where 62 = .ok (.iconst 1, 1) := by decide +kernel
theorem dX12_where_63 : decode cX12_where 63 = .ok (.aload_n 0, 1) := by decide +kernel
theorem dX12_where_64 : decode cX12_where 64 = .ok (.getfield 61, 3) := by decide +kernel
theorem dX12_where_67 : decode cX12_where 67 = .ok (.iload_n 3, 1) := by decide +kernel
theorem dX12_where_68 : decode cX12_where 68 = .ok (.iconst 2, 1) := by decide +kernel
theorem dX12_where_69 : decode cX12_where 69 = .ok (.invokestatic 263, 3) := by decide +kernel
theorem dX12_where_72 : decode cX12_where 72 = .ok (.ishl, 1) := by decide +kernel
theorem dX12_where_73 : decode cX12_where 73 = .ok (.goto 4, 3) := by decide +kernel
theorem dX12_where_76 : decode cX12_where 76 = .ok (.iconst 0, 1) := by decide +kernel
theorem dX12_where_77 : decode cX12_where 77 = .ok (.ior, 1) := by decide +kernel
theorem dX12_where_78 : decode cX12_where 78 = .ok (.istore_n 2, 1) := by decide +kernel
theorem dX12_where_79 : decode cX12_where 79 = .ok (.iinc 3 1, 3) := by decide +kernel
theorem dX12_where_82 : decode cX12_where 82 = .ok (.goto (-49), 3) := by decide +kernel
theorem dX12_where_85 : decode cX12_where 85 = .ok (.iload_n 2, 1) := by decide +kernel
theorem dX12_where_86 : decode cX12_where 86 = .ok (.ireturn, 1) := by decide +kernel
theorem dX12_twins_0 : decode cX12_twins 0 = .ok (.aload_n 0, 1) := by decide +kernel
theorem dX12_twins_1 : decode cX12_twins 1 = .ok (.iconst 0, 1) := by decide +kernel
theorem dX12_twins_2 : decode cX12_twins 2 = .ok (.putfield 94, 3) := by decide +kernel
theorem dX12_twins_5 : decode cX12_twins 5 = .ok (.aload_n 0, 1) := by decide +kernel
theorem dX12_twins_6 : decode cX12_twins 6 = .ok (.aload_n 0, 1) := by decide +kernel
theorem dX12_twins_7 : decode cX12_twins 7 = .ok (.iload_n 1, 1) := by decide +kernel
theorem dX12_twins_8 : decode cX12_twins 8 = .ok (.invokevirtual 296, 3) := by decide +kernel
theorem dX12_twins_11 : decode cX12_twins 11 = .ok (.ifCond .ne 7, 3) := by decide +kernel
theorem dX12_twins_14 : decode cX12_twins 14 = .ok (.iconst 1, 1) := by decide +kernel
theorem dX12_twins_15 : decode cX12_twins 15 = .ok (.goto 4, 3) := by decide +kernel
theorem dX12_twins_18 : decode cX12_twins 18 = .ok (.iconst 0, 1) := by decide +kernel
theorem dX12_twins_19 : decode cX12_twins 19 = .ok (.iconst 1, 1) := by decide +kernel
theorem dX12_twins_20 : decode cX12_twins 20 = .ok (.iconst 0, 1) := by decide +kernel
theorem dX12_twins_21 : decode cX12_twins 21 = .ok (.invokevirtual 167, 3) := by decide +kernel
theorem dX12_twins_24 : decode cX12_twins 24 = .ok (.ifCond .eq 5, 3) := by decide +kernel
theorem dX12_twins_27 : decode cX12_twins 27 = .ok (.iconst 0, 1) := by decide +kernel
theorem dX12_twins_28 : decode cX12_twins 28 = .ok (.ireturn, 1) := by decide +kernel
theorem dX12_twins_29 : decode cX12_twins 29 = .ok (.iconst 0, 1) := by decide +kernel
theorem dX12_twins_30 : decode cX12_twins 30 = .ok (.istore_n 2, 1) := by decide +kernel
theorem dX12_twins_31 : decode cX12_twins 31 = .ok (.iconst 0, 1) := by decide +kernel
theorem dX12_twins_32 : decode cX12_twins 32 = .ok (.istore_n 3, 1) := by decide +kernel
theorem dX12_twins_33 : decode cX12_twins 33 = .ok (.iload_n 3, 1) := by decide +kernel
theorem dX12_twins_34 : decode cX12_twins 34 = .ok (.aload_n 0, 1) := by decide +kernel
theorem dX12_twins_35 : decode cX12_twins 35 = .ok (.getfield 23, 3) := by decide +kernel
theorem dX12_twins_38 : decode cX12_twins 38 = .ok (.iconst 0, 1) := by decide +kernel
theorem dX12_twins_39 : decode cX12_twins 39 = .ok (.iaload, 1) := by decide +kernel
theorem dX12_twins_40 : decode cX12_twins 40 = .ok (.if_icmp .ge 36, 3) := by decide +kernel
theorem dX12_twins_43 : decode cX12_twins 43 = .ok (.iload_n 2, 1) := by decide +kernel
theorem dX12_twins_44 : decode cX12_twins 44 = .ok (.aload_n 0, 1) := by decide +kernel
theorem dX12_twins_45 : decode cX12_twins 45 = .ok (.aload_n 0, 1) := by decide +kernel
theorem dX12_twins_46 : decode cX12_twins 46 = .ok (.iload_n 1, 1) := by decide +kernel
theorem dX12_twins_47 : decode cX12_twins 47 = .ok (.invokevirtual 253, 3) := by decide +kernel
theorem dX12_twins_50 : decode cX12_twins 50 = .ok (.aload_n 0, 1) := by decide +kernel
theorem dX12_twins_51 : decode cX12_twins 51 = .ok (.iload_n 3, 1) := by decide +kernel
theorem dX12_twins_52 : decode cX12_twins 52 = .ok (.invokevirtual 253, 3) := by decide +kernel
theorem dX12_twins_55 : decode cX12_twins 55 = .ok (.invokevirtual 311, 3) := by decide +kernel
theorem dX12_twins_58 : decode cX12_twins 58 = .ok (.ifCond .eq 9, 3) := by decide +kernel
theorem dX12_twins_61 : decode cX12_twins 61 = .ok (.iconst 1, 1) := by decide +kernel
theorem dX12_twins_62 : decode cX12_twins 62 = .ok (.iload_n 3, 1) := by decide +kernel
theorem dX12_twins_63 : decode cX12_twins 63 = .ok (.ishl, 1) := by decide +kernel
theorem dX12_twins_64 : decode cX12_twins 64 = .ok (.goto 4, 3) := by decide +kernel
theorem dX12_twins_67 : decode cX12_twins 67 = .ok (.iconst 0, 1) := by decide +kernel
theorem dX12_twins_68 : decode cX12_twins 68 = .ok (.ior, 1) := by decide +kernel
theorem dX12_twins_69 : decode cX12_twins 69 = .ok (.istore_n 2, 1) := by decide +kernel
theorem dX12_twins_70 : decode cX12_twins 70 = .ok (.iinc 3 1, 3) := by decide +kernel
theorem dX12_twins_73 : decode cX12_twins 73 = .ok (.goto (-40), 3) := by decide +kernel
theorem dX12_twins_76 : decode cX12_twins 76 = .ok (.iload_n 2, 1) := by decide +kernel
theorem dX12_twins_77 : decode cX12_twins 77 = .ok (.ireturn, 1) := by decide +kernel
theorem dX12_draw_0 : decode cX12_draw 0 = .ok (.aload_n 0, 1) := by decide +kernel
theorem dX12_draw_1 : decode cX12_draw 1 = .ok (.aload_n 0, 1) := by decide +kernel
theorem dX12_draw_2 : decode cX12_draw 2 = .ok (.getfield 372, 3) := by decide +kernel
theorem dX12_draw_5 : decode cX12_draw 5 = .ok (.ldc_w 375, 3) := by decide +kernel
theorem dX12_draw_8 : decode cX12_draw 8 = .ok (.imul, 1) := by decide +kernel
theorem dX12_draw_9 : decode cX12_draw 9 = .ok (.sipush 12345, 3) := by decide +kernel
theorem dX12_draw_12 : decode cX12_draw 12 = .ok (.iadd, 1) := by decide +kernel
theorem dX12_draw_13 : decode cX12_draw 13 = .ok (.putfield 372, 3) := by decide +kernel
theorem dX12_draw_16 : decode cX12_draw 16 = .ok (.aload_n 0, 1) := by decide +kernel
theorem dX12_draw_17 : decode cX12_draw 17 = .ok (.getfield 372, 3) := by decide +kernel
theorem dX12_draw_20 : decode cX12_draw 20 = .ok (.bipush 16, 2) := by decide +kernel
theorem dX12_draw_22 : decode cX12_draw 22 = .ok (.ishr, 1) := by decide +kernel
theorem dX12_draw_23 : decode cX12_draw 23 = .ok (.sipush 32767, 3) := by decide +kernel
theorem dX12_draw_26 : decode cX12_draw 26 = .ok (.iand, 1) := by decide +kernel
theorem dX12_draw_27 : decode cX12_draw 27 = .ok (.iload_n 1, 1) := by decide +kernel
theorem dX12_draw_28 : decode cX12_draw 28 = .ok (.irem, 1) := by decide +kernel
theorem dX12_draw_29 : decode cX12_draw 29 = .ok (.ireturn, 1) := by decide +kernel
theorem dX12_yearsBy_0 : decode cX12_yearsBy 0 = .ok (.aload_n 0, 1) := by decide +kernel
theorem dX12_yearsBy_1 : decode cX12_yearsBy 1 = .ok (.getfield 61, 3) := by decide +kernel
theorem dX12_yearsBy_4 : decode cX12_yearsBy 4 = .ok (.aload_n 0, 1) := by decide +kernel
theorem dX12_yearsBy_5 : decode cX12_yearsBy 5 = .ok (.getfield 64, 3) := by decide +kernel
theorem dX12_yearsBy_8 : decode cX12_yearsBy 8 = .ok (.invokestatic 292, 3) := by decide +kernel
theorem dX12_yearsBy_11 : decode cX12_yearsBy 11 = .ok (.aload_n 0, 1) := by decide +kernel
theorem dX12_yearsBy_12 : decode cX12_yearsBy 12 = .ok (.iload_n 1, 1) := by decide +kernel
theorem dX12_yearsBy_13 : decode cX12_yearsBy 13 = .ok (.putfield 372, 3) := by decide +kernel
theorem dX12_yearsBy_16 : decode cX12_yearsBy 16 = .ok (.aload_n 0, 1) := by decide +kernel
theorem dX12_yearsBy_17 : decode cX12_yearsBy 17 = .ok (.iconst 0, 1) := by decide +kernel
theorem dX12_yearsBy_18 : decode cX12_yearsBy 18 = .ok (.putfield 376, 3) := by decide +kernel
theorem dX12_yearsBy_21 : decode cX12_yearsBy 21 = .ok (.aload_n 0, 1) := by decide +kernel
theorem dX12_yearsBy_22 : decode cX12_yearsBy 22 = .ok (.iconst 0, 1) := by decide +kernel
theorem dX12_yearsBy_23 : decode cX12_yearsBy 23 = .ok (.putfield 379, 3) := by decide +kernel
theorem dX12_yearsBy_26 : decode cX12_yearsBy 26 = .ok (.iconst 1, 1) := by decide +kernel
theorem dX12_yearsBy_27 : decode cX12_yearsBy 27 = .ok (.istore 4, 2) := by decide +kernel
theorem dX12_yearsBy_29 : decode cX12_yearsBy 29 = .ok (.iload 4, 2) := by decide +kernel
theorem dX12_yearsBy_31 : decode cX12_yearsBy 31 = .ok (.iload_n 2, 1) := by decide +kernel
theorem dX12_yearsBy_32 : decode cX12_yearsBy 32 = .ok (.if_icmp .gt 131, 3) := by decide +kernel
theorem dX12_yearsBy_35 : decode cX12_yearsBy 35 = .ok (.aload_n 0, 1) := by decide +kernel
theorem dX12_yearsBy_36 : decode cX12_yearsBy 36 = .ok (.getfield 23, 3) := by decide +kernel
theorem dX12_yearsBy_39 : decode cX12_yearsBy 39 = .ok (.iconst 0, 1) := by decide +kernel
theorem dX12_yearsBy_40 : decode cX12_yearsBy 40 = .ok (.iaload, 1) := by decide +kernel
theorem dX12_yearsBy_41 : decode cX12_yearsBy 41 = .ok (.ifCond .le 122, 3) := by decide +kernel
theorem dX12_yearsBy_44 : decode cX12_yearsBy 44 = .ok (.aload_n 0, 1) := by decide +kernel
theorem dX12_yearsBy_45 : decode cX12_yearsBy 45 = .ok (.aload_n 0, 1) := by decide +kernel
theorem dX12_yearsBy_46 : decode cX12_yearsBy 46 = .ok (.getfield 23, 3) := by decide +kernel
theorem dX12_yearsBy_49 : decode cX12_yearsBy 49 = .ok (.iconst 0, 1) := by decide +kernel
theorem dX12_yearsBy_50 : decode cX12_yearsBy 50 = .ok (.iaload, 1) := by decide +kernel
theorem dX12_yearsBy_51 : decode cX12_yearsBy 51 = .ok (.invokevirtual 382, 3) := by decide +kernel
theorem dX12_yearsBy_54 : decode cX12_yearsBy 54 = .ok (.istore 5, 2) := by decide +kernel
theorem dX12_yearsBy_56 : decode cX12_yearsBy 56 = .ok (.aload_n 0, 1) := by decide +kernel
theorem dX12_yearsBy_57 : decode cX12_yearsBy 57 = .ok (.aload_n 0, 1) := by decide +kernel
theorem dX12_yearsBy_58 : decode cX12_yearsBy 58 = .ok (.getfield 23, 3) := by decide +kernel
theorem dX12_yearsBy_61 : decode cX12_yearsBy 61 = .ok (.iconst 0, 1) := by decide +kernel
theorem dX12_yearsBy_62 : decode cX12_yearsBy 62 = .ok (.iaload, 1) := by decide +kernel
theorem dX12_yearsBy_63 : decode cX12_yearsBy 63 = .ok (.invokevirtual 382, 3) := by decide +kernel
theorem dX12_yearsBy_66 : decode cX12_yearsBy 66 = .ok (.istore 6, 2) := by decide +kernel
theorem dX12_yearsBy_68 : decode cX12_yearsBy 68 = .ok (.aload_n 0, 1) := by decide +kernel
theorem dX12_yearsBy_69 : decode cX12_yearsBy 69 = .ok (.bipush 6, 2) := by decide +kernel
theorem dX12_yearsBy_71 : decode cX12_yearsBy 71 = .ok (.invokevirtual 382, 3) := by decide +kernel
theorem dX12_yearsBy_74 : decode cX12_yearsBy 74 = .ok (.istore 7, 2) := by decide +kernel
theorem dX12_yearsBy_76 : decode cX12_yearsBy 76 = .ok (.aload_n 0, 1) := by decide +kernel
theorem dX12_yearsBy_77 : decode cX12_yearsBy 77 = .ok (.dup, 1) := by decide +kernel
theorem dX12_yearsBy_78 : decode cX12_yearsBy 78 = .ok (.getfield 376, 3) := by decide +kernel
theorem dX12_yearsBy_81 : decode cX12_yearsBy 81 = .ok (.aload_n 0, 1) := by decide +kernel
theorem dX12_yearsBy_82 : decode cX12_yearsBy 82 = .ok (.aload_n 0, 1) := by decide +kernel
theorem dX12_yearsBy_83 : decode cX12_yearsBy 83 = .ok (.getfield 64, 3) := by decide +kernel
theorem dX12_yearsBy_86 : decode cX12_yearsBy 86 = .ok (.iload 5, 2) := by decide +kernel
theorem dX12_yearsBy_88 : decode cX12_yearsBy 88 = .ok (.iload 6, 2) := by decide +kernel
theorem dX12_yearsBy_90 : decode cX12_yearsBy 90 = .ok (.iload 7, 2) := by decide +kernel
theorem dX12_yearsBy_92 : decode cX12_yearsBy 92 = .ok (.invokevirtual 267, 3) := by decide +kernel
theorem dX12_yearsBy_95 : decode cX12_yearsBy 95 = .ok (.ifCond .eq 7, 3) := by decide +kernel
theorem dX12_yearsBy_98 : decode cX12_yearsBy 98 = .ok (.iconst 0, 1) := by decide +kernel
theorem dX12_yearsBy_99 : decode cX12_yearsBy 99 = .ok (.goto 4, 3) := by decide +kernel
theorem dX12_yearsBy_102 : decode cX12_yearsBy 102 = .ok (.iconst 1, 1) := by decide +kernel
theorem dX12_yearsBy_103 : decode cX12_yearsBy 103 = .ok (.iadd, 1) := by decide +kernel
theorem dX12_yearsBy_104 : decode cX12_yearsBy 104 = .ok (.putfield 376, 3) := by decide +kernel
theorem dX12_yearsBy_107 : decode cX12_yearsBy 107 = .ok (.aload_n 0, 1) := by decide +kernel
theorem dX12_yearsBy_108 : decode cX12_yearsBy 108 = .ok (.bipush 16, 2) := by decide +kernel
theorem dX12_yearsBy_110 : decode cX12_yearsBy 110 = .ok (.invokevirtual 382, 3) := by decide +kernel
theorem dX12_yearsBy_113 : decode cX12_yearsBy 113 = .ok (.iload_n 3, 1) := by decide +kernel
theorem dX12_yearsBy_114 : decode cX12_yearsBy 114 = .ok (.if_icmp .ge 29, 3) := by decide +kernel
theorem dX12_yearsBy_117 : decode cX12_yearsBy 117 = .ok (.aload_n 0, 1) := by decide +kernel
theorem dX12_yearsBy_118 : decode cX12_yearsBy 118 = .ok (.dup, 1) := by decide +kernel
theorem dX12_yearsBy_119 : decode cX12_yearsBy 119 = .ok (.getfield 379, 3) := by decide +kernel
theorem dX12_yearsBy_122 : decode cX12_yearsBy 122 = .ok (.aload_n 0, 1) := by decide +kernel
theorem dX12_yearsBy_123 : decode cX12_yearsBy 123 = .ok (.getfield 64, 3) := by decide +kernel
theorem dX12_yearsBy_126 : decode cX12_yearsBy 126 = .ok (.iload 7, 2) := by decide +kernel
theorem dX12_yearsBy_128 : decode cX12_yearsBy 128 = .ok (.invokestatic 271, 3) := by decide +kernel
theorem dX12_yearsBy_131 : decode cX12_yearsBy 131 = .ok (.ifCond .eq 7, 3) := by decide +kernel
theorem dX12_yearsBy_134 : decode cX12_yearsBy 134 = .ok (.iconst 1, 1) := by decide +kernel
theorem dX12_yearsBy_135 : decode cX12_yearsBy 135 = .ok (.goto 4, 3) := by decide +kernel
theorem dX12_yearsBy_138 : decode cX12_yearsBy 138 = .ok (.iconst 0, 1) := by decide +kernel
theorem dX12_yearsBy_139 : decode cX12_yearsBy 139 = .ok (.iadd, 1) := by decide +kernel
theorem dX12_yearsBy_140 : decode cX12_yearsBy 140 = .ok (.putfield 379, 3) := by decide +kernel
theorem dX12_yearsBy_143 : decode cX12_yearsBy 143 = .ok (.iload 4, 2) := by decide +kernel
theorem dX12_yearsBy_145 : decode cX12_yearsBy 145 = .ok (.iconst 4, 1) := by decide +kernel
theorem dX12_yearsBy_146 : decode cX12_yearsBy 146 = .ok (.irem, 1) := by decide +kernel
theorem dX12_yearsBy_147 : decode cX12_yearsBy 147 = .ok (.ifCond .ne 10, 3) := by decide +kernel
theorem dX12_yearsBy_150 : decode cX12_yearsBy 150 = .ok (.aload_n 0, 1) := by decide +kernel
theorem dX12_yearsBy_151 : decode cX12_yearsBy 151 = .ok (.getfield 64, 3) := by decide +kernel
theorem dX12_yearsBy_154 : decode cX12_yearsBy 154 = .ok (.invokestatic 275, 3) := by decide +kernel
theorem dX12_yearsBy_157 : decode cX12_yearsBy 157 = .ok (.iinc 4 1, 3) := by decide +kernel
theorem dX12_yearsBy_160 : decode cX12_yearsBy 160 = .ok (.goto (-131), 3) := by decide +kernel
theorem dX12_yearsBy_163 : decode cX12_yearsBy 163 = .ok (.return_, 1) := by decide +kernel
theorem dX12_areYears_0 : decode cX12_areYears 0 = .ok (.iload_n 0, 1) := by decide +kernel
theorem dX12_areYears_1 : decode cX12_areYears 1 = .ok (.iconst 1, 1) := by decide +kernel
theorem dX12_areYears_2 : decode cX12_areYears 2 = .ok (.bipush 96, 2) := by decide +kernel
theorem dX12_areYears_4 : decode cX12_areYears 4 = .ok (.invokestatic 128, 3) := by decide +kernel
theorem dX12_areYears_7 : decode cX12_areYears 7 = .ok (.ifCond .eq 17, 3) := by decide +kernel
theorem dX12_areYears_10 : decode cX12_areYears 10 = .ok (.iload_n 1, 1) := by decide +kernel
theorem dX12_areYears_11 : decode cX12_areYears 11 = .ok (.iconst 0, 1) := by decide +kernel
theorem dX12_areYears_12 : decode cX12_areYears 12 = .ok (.bipush 16, 2) := by decide +kernel
theorem dX12_areYears_14 : decode cX12_areYears 14 = .ok (.invokestatic 128, 3) := by decide +kernel
theorem dX12_areYears_17 : decode cX12_areYears 17 = .ok (.ifCond .eq 7, 3) := by decide +kernel
theorem dX12_areYears_20 : decode cX12_areYears 20 = .ok (.iconst 1, 1) := by decide +kernel
theorem dX12_areYears_21 : decode cX12_areYears 21 = .ok (.goto 4, 3) := by decide +kernel
theorem dX12_areYears_24 : decode cX12_areYears 24 = .ok (.iconst 0, 1) := by decide +kernel
theorem dX12_areYears_25 : decode cX12_areYears 25 = .ok (.ireturn, 1) := by decide +kernel
theorem dX12_years_0 : decode cX12_years 0 = .ok (.aload_n 0, 1) := by decide +kernel
theorem dX12_years_1 : decode cX12_years 1 = .ok (.iconst 0, 1) := by decide +kernel
theorem dX12_years_2 : decode cX12_years 2 = .ok (.putfield 94, 3) := by decide +kernel
theorem dX12_years_5 : decode cX12_years 5 = .ok (.aload_n 0, 1) := by decide +kernel
theorem dX12_years_6 : decode cX12_years 6 = .ok (.iload_n 2, 1) := by decide +kernel
theorem dX12_years_7 : decode cX12_years 7 = .ok (.iload_n 3, 1) := by decide +kernel
theorem dX12_years_8 : decode cX12_years 8 = .ok (.invokestatic 385, 3) := by decide +kernel
theorem dX12_years_11 : decode cX12_years 11 = .ok (.ifCond .eq 13, 3) := by decide +kernel
theorem dX12_years_14 : decode cX12_years 14 = .ok (.iload 4, 2) := by decide +kernel
theorem dX12_years_16 : decode cX12_years 16 = .ok (.iconst 0, 1) := by decide +kernel
theorem dX12_years_17 : decode cX12_years 17 = .ok (.iconst 3, 1) := by decide +kernel
theorem dX12_years_18 : decode cX12_years 18 = .ok (.invokestatic 128, 3) := by decide +kernel
theorem dX12_years_21 : decode cX12_years 21 = .ok (.ifCond .ne 7, 3) := by decide +kernel
theorem dX12_years_24 : decode cX12_years 24 = .ok (.iconst 1, 1) := by decide +kernel
theorem dX12_years_25 : decode cX12_years 25 = .ok (.goto 4, 3) := by decide +kernel
theorem dX12_years_28 : decode cX12_years 28 = .ok (.iconst 0, 1) := by decide +kernel
theorem dX12_years_29 : decode cX12_years 29 = .ok (.iconst 1, 1) := by decide +kernel
theorem dX12_years_30 : decode cX12_years 30 = .ok (.iconst 1, 1) := by decide +kernel
theorem dX12_years_31 : decode cX12_years 31 = .ok (.invokevirtual 167, 3) := by decide +kernel
theorem dX12_years_34 : decode cX12_years 34 = .ok (.ifCond .eq 5, 3) := by decide +kernel
theorem dX12_years_37 : decode cX12_years 37 = .ok (.iconst 0, 1) := by decide +kernel
theorem dX12_years_38 : decode cX12_years 38 = .ok (.ireturn, 1) := by decide +kernel
theorem dX12_years_39 : decode cX12_years 39 = .ok (.aload_n 0, 1) := by decide +kernel
theorem dX12_years_40 : decode cX12_years 40 = .ok (.iload_n 1, 1) := by decide +kernel
theorem dX12_years_41 : decode cX12_years 41 = .ok (.iload_n 2, 1) := by decide +kernel
theorem dX12_years_42 : decode cX12_years 42 = .ok (.iload_n 3, 1) := by decide +kernel
theorem dX12_years_43 : decode cX12_years 43 = .ok (.invokevirtual 388, 3) := by decide +kernel
theorem dX12_years_46 : decode cX12_years 46 = .ok (.iload 4, 2) := by decide +kernel
theorem dX12_years_48 : decode cX12_years 48 = .ok (.tableswitch 46 0 2 #[28, 36, 41], 28) := by decide +kernel
theorem dX12_years_76 : decode cX12_years 76 = .ok (.aload_n 0, 1) := by decide +kernel
theorem dX12_years_77 : decode cX12_years 77 = .ok (.getfield 64, 3) := by decide +kernel
theorem dX12_years_80 : decode cX12_years 80 = .ok (.bipush 24, 2) := by decide +kernel
theorem dX12_years_82 : decode cX12_years 82 = .ok (.iaload, 1) := by decide +kernel
theorem dX12_years_83 : decode cX12_years 83 = .ok (.ireturn, 1) := by decide +kernel
theorem dX12_years_84 : decode cX12_years 84 = .ok (.aload_n 0, 1) := by decide +kernel
theorem dX12_years_85 : decode cX12_years 85 = .ok (.getfield 376, 3) := by decide +kernel
theorem dX12_years_88 : decode cX12_years 88 = .ok (.ireturn, 1) := by decide +kernel
theorem dX12_years_89 : decode cX12_years 89 = .ok (.aload_n 0, 1) := by decide +kernel
theorem dX12_years_90 : decode cX12_years 90 = .ok (.getfield 379, 3) := by decide +kernel
theorem dX12_years_93 : decode cX12_years 93 = .ok (.ireturn, 1) := by decide +kernel
theorem dX12_years_94 : decode cX12_years 94 = .ok (.aload_n 0, 1) := by decide +kernel
theorem dX12_years_95 : decode cX12_years 95 = .ok (.aload_n 0, 1) := by decide +kernel
theorem dX12_years_96 : decode cX12_years 96 = .ok (.getfield 64, 3) := by decide +kernel
theorem dX12_years_99 : decode cX12_years 99 = .ok (.invokevirtual 314, 3) := by decide +kernel
theorem dX12_years_102 : decode cX12_years 102 = .ok (.invokestatic 250, 3) := by decide +kernel
theorem dX12_years_105 : decode cX12_years 105 = .ok (.ireturn, 1) := by decide +kernel
theorem dX12_span_0 : decode cX12_span 0 = .ok (.aload_n 0, 1) := by decide +kernel
theorem dX12_span_1 : decode cX12_span 1 = .ok (.iconst 0, 1) := by decide +kernel
theorem dX12_span_2 : decode cX12_span 2 = .ok (.putfield 94, 3) := by decide +kernel
theorem dX12_span_5 : decode cX12_span 5 = .ok (.aload_n 0, 1) := by decide +kernel
theorem dX12_span_6 : decode cX12_span 6 = .ok (.iload_n 2, 1) := by decide +kernel
theorem dX12_span_7 : decode cX12_span 7 = .ok (.iconst 1, 1) := by decide +kernel
theorem dX12_span_8 : decode cX12_span 8 = .ok (.bipush 20, 2) := by decide +kernel
theorem dX12_span_10 : decode cX12_span 10 = .ok (.invokestatic 128, 3) := by decide +kernel
theorem dX12_span_13 : decode cX12_span 13 = .ok (.ifCond .eq 31, 3) := by decide +kernel
theorem dX12_span_16 : decode cX12_span 16 = .ok (.iload_n 3, 1) := by decide +kernel
theorem dX12_span_17 : decode cX12_span 17 = .ok (.iload 4, 2) := by decide +kernel
theorem dX12_span_19 : decode cX12_span 19 = .ok (.invokestatic 385, 3) := by decide +kernel
theorem dX12_span_22 : decode cX12_span 22 = .ok (.ifCond .eq 22, 3) := by decide +kernel
theorem dX12_span_25 : decode cX12_span 25 = .ok (.iload 5, 2) := by decide +kernel
theorem dX12_span_27 : decode cX12_span 27 = .ok (.iconst 0, 1) := by decide +kernel
theorem dX12_span_28 : decode cX12_span 28 = .ok (.iconst 2, 1) := by decide +kernel
theorem dX12_span_29 : decode cX12_span 29 = .ok (.invokestatic 128, 3) := by decide +kernel
theorem dX12_span_32 : decode cX12_span 32 = .ok (.ifCond .eq 12, 3) := by decide +kernel
theorem dX12_span_35 : decode cX12_span 35 = .ok (.aload_n 0, 1) := by decide +kernel
theorem dX12_span_36 : decode cX12_span 36 = .ok (.iload 6, 2) := by decide +kernel
theorem dX12_span_38 : decode cX12_span 38 = .ok (.invokevirtual 296, 3) := by decide +kernel
theorem dX12_span_41 : decode cX12_span 41 = .ok (.ifCond .ne 7, 3) := by decide +kernel
theorem dX12_span_44 : decode cX12_span 44 = .ok (.iconst 1, 1) := by decide +kernel
theorem dX12_span_45 : decode cX12_span 45 = .ok (.goto 4, 3) := by decide +kernel
theorem dX12_span_48 : decode cX12_span 48 = .ok (.iconst 0, 1) := by decide +kernel
theorem dX12_span_49 : decode cX12_span 49 = .ok (.iconst 1, 1) := by decide +kernel
theorem dX12_span_50 : decode cX12_span 50 = .ok (.iconst 1, 1) := by decide +kernel
theorem dX12_span_51 : decode cX12_span 51 = .ok (.invokevirtual 167, 3) := by decide +kernel
theorem dX12_span_54 : decode cX12_span 54 = .ok (.ifCond .eq 5, 3) := by decide +kernel
theorem dX12_span_57 : decode cX12_span 57 = .ok (.iconst 0, 1) := by decide +kernel
theorem dX12_span_58 : decode cX12_span 58 = .ok (.ireturn, 1) := by decide +kernel
theorem dX12_span_59 : decode cX12_span 59 = .ok (.iconst (-1), 1) := by decide +kernel
theorem dX12_span_60 : decode cX12_span 60 = .ok (.istore 7, 2) := by decide +kernel
theorem dX12_span_62 : decode cX12_span 62 = .ok (.iconst 0, 1) := by decide +kernel
theorem dX12_span_63 : decode cX12_span 63 = .ok (.istore 8, 2) := by decide +kernel
theorem dX12_span_65 : decode cX12_span 65 = .ok (.iconst 0, 1) := by decide +kernel
theorem dX12_span_66 : decode cX12_span 66 = .ok (.istore 9, 2) := by decide +kernel
theorem dX12_span_68 : decode cX12_span 68 = .ok (.iconst 0, 1) := by decide +kernel
theorem dX12_span_69 : decode cX12_span 69 = .ok (.istore 10, 2) := by decide +kernel
theorem dX12_span_71 : decode cX12_span 71 = .ok (.iload 10, 2) := by decide +kernel
theorem dX12_span_73 : decode cX12_span 73 = .ok (.iload_n 2, 1) := by decide +kernel
theorem dX12_span_74 : decode cX12_span 74 = .ok (.if_icmp .ge 84, 3) := by decide +kernel
theorem dX12_span_77 : decode cX12_span 77 = .ok (.aload_n 0, 1) := by decide +kernel
theorem dX12_span_78 : decode cX12_span 78 = .ok (.iload_n 1, 1) := by decide +kernel
theorem dX12_span_79 : decode cX12_span 79 = .ok (.iload 10, 2) := by decide +kernel
theorem dX12_span_81 : decode cX12_span 81 = .ok (.iadd, 1) := by decide +kernel
theorem dX12_span_82 : decode cX12_span 82 = .ok (.iload_n 3, 1) := by decide +kernel
theorem dX12_span_83 : decode cX12_span 83 = .ok (.iload 4, 2) := by decide +kernel
theorem dX12_span_85 : decode cX12_span 85 = .ok (.invokevirtual 388, 3) := by decide +kernel
theorem dX12_span_88 : decode cX12_span 88 = .ok (.aload_n 0, 1) := by decide +kernel
theorem dX12_span_89 : decode cX12_span 89 = .ok (.getfield 64, 3) := by decide +kernel
theorem dX12_span_92 : decode cX12_span 92 = .ok (.bipush 24, 2) := by decide +kernel
theorem dX12_span_94 : decode cX12_span 94 = .ok (.iaload, 1) := by decide +kernel
theorem dX12_span_95 : decode cX12_span 95 = .ok (.istore 11, 2) := by decide +kernel
theorem dX12_span_97 : decode cX12_span 97 = .ok (.iload 7, 2) := by decide +kernel
theorem dX12_span_99 : decode cX12_span 99 = .ok (.iconst (-1), 1) := by decide +kernel
theorem dX12_span_100 : decode cX12_span 100 = .ok (.if_icmp .ne 8, 3) := by decide +kernel
theorem dX12_span_103 : decode cX12_span 103 = .ok (.iload 11, 2) := by decide +kernel
theorem dX12_span_105 : decode cX12_span 105 = .ok (.goto 10, 3) := by decide +kernel
theorem dX12_span_108 : decode cX12_span 108 = .ok (.iload 7, 2) := by decide +kernel
theorem dX12_span_110 : decode cX12_span 110 = .ok (.iload 11, 2) := by decide +kernel
theorem dX12_span_112 : decode cX12_span 112 = .ok (.invokestatic 227, 3) := by decide +kernel
theorem dX12_span_115 : decode cX12_span 115 = .ok (.istore 7, 2) := by decide +kernel
theorem dX12_span_117 : decode cX12_span 117 = .ok (.iload 8, 2) := by decide +kernel
theorem dX12_span_119 : decode cX12_span 119 = .ok (.iload 11, 2) := by decide +kernel
theorem dX12_span_121 : decode cX12_span 121 = .ok (.invokestatic 230, 3) := by decide +kernel
theorem dX12_span_124 : decode cX12_span 124 = .ok (.istore 8, 2) := by decide +kernel
theorem dX12_span_126 : decode cX12_span 126 = .ok (.iload 9, 2) := by decide +kernel
theorem dX12_span_128 : decode cX12_span 128 = .ok (.aload_n 0, 1) := by decide +kernel
theorem dX12_span_129 : decode cX12_span 129 = .ok (.aload_n 0, 1) := by decide +kernel
theorem dX12_span_130 : decode cX12_span 130 = .ok (.getfield 64, 3) := by decide +kernel
theorem dX12_span_133 : decode cX12_span 133 = .ok (.invokevirtual 314, 3) := by decide +kernel
theorem dX12_span_136 : decode cX12_span 136 = .ok (.iload 6, 2) := by decide +kernel
theorem dX12_span_138 : decode cX12_span 138 = .ok (.invokestatic 246, 3) := by decide +kernel
theorem dX12_span_141 : decode cX12_span 141 = .ok (.ifCond .eq 7, 3) := by decide +kernel
theorem dX12_span_144 : decode cX12_span 144 = .ok (.iconst 1, 1) := by decide +kernel
theorem dX12_span_145 : decode cX12_span 145 = .ok (.goto 4, 3) := by decide +kernel
theorem dX12_span_148 : decode cX12_span 148 = .ok (.iconst 0, 1) := by decide +kernel
theorem dX12_span_149 : decode cX12_span 149 = .ok (.iadd, 1) := by decide +kernel
theorem dX12_span_150 : decode cX12_span 150 = .ok (.istore 9, 2) := by decide +kernel
theorem dX12_span_152 : decode cX12_span 152 = .ok (.iinc 10 1, 3) := by decide +kernel
theorem dX12_span_155 : decode cX12_span 155 = .ok (.goto (-84), 3) := by decide +kernel
theorem dX12_span_158 : decode cX12_span 158 = .ok (.iload 5, 2) := by decide +kernel
theorem dX12_span_160 : decode cX12_span 160 = .ok (.ifCond .ne 8, 3) := by decide +kernel
theorem dX12_span_163 : decode cX12_span 163 = .ok (.iload 7, 2) := by decide +kernel
theorem dX12_span_165 : decode cX12_span 165 = .ok (.goto 16, 3) := by decide +kernel
theorem dX12_span_168 : decode cX12_span 168 = .ok (.iload 5, 2) := by decide +kernel
theorem dX12_span_170 : decode cX12_span 170 = .ok (.iconst 1, 1) := by decide +kernel
theorem dX12_span_171 : decode cX12_span 171 = .ok (.if_icmp .ne 8, 3) := by decide +kernel
theorem dX12_span_174 : decode cX12_span 174 = .ok (.iload 8, 2) := by decide +kernel
theorem dX12_span_176 : decode cX12_span 176 = .ok (.goto 5, 3) := by decide +kernel
theorem dX12_span_179 : decode cX12_span 179 = .ok (.iload 9, 2) := by decide +kernel
theorem dX12_span_181 : decode cX12_span 181 = .ok (.ireturn, 1) := by decide +kernel
theorem dX12_puts_0 : decode cX12_puts 0 = .ok (.iload_n 3, 1) := by decide +kernel
theorem dX12_puts_1 : decode cX12_puts 1 = .ok (.ifCond .ne 10, 3) := by decide +kernel
theorem dX12_puts_4 : decode cX12_puts 4 = .ok (.aload_n 1, 1) := by decide +kernel
theorem dX12_puts_5 : decode cX12_puts 5 = .ok (.aload_n 0, 1) := by decide +kernel
theorem dX12_puts_6 : decode cX12_puts 6 = .ok (.getfield 391, 3) := by decide +kernel
theorem dX12_puts_9 : decode cX12_puts 9 = .ok (.iload_n 2, 1) := by decide +kernel
theorem dX12_puts_10 : decode cX12_puts 10 = .ok (.iastore, 1) := by decide +kernel
theorem dX12_puts_11 : decode cX12_puts 11 = .ok (.aload_n 0, 1) := by decide +kernel
theorem dX12_puts_12 : decode cX12_puts 12 = .ok (.dup, 1) := by decide +kernel
theorem dX12_puts_13 : decode cX12_puts 13 = .ok (.getfield 391, 3) := by decide +kernel
theorem dX12_puts_16 : decode cX12_puts 16 = .ok (.iconst 1, 1) := by decide +kernel
theorem dX12_puts_17 : decode cX12_puts 17 = .ok (.iadd, 1) := by decide +kernel
theorem dX12_puts_18 : decode cX12_puts 18 = .ok (.putfield 391, 3) := by decide +kernel
theorem dX12_puts_21 : decode cX12_puts 21 = .ok (.aload_n 1, 1) := by decide +kernel
theorem dX12_puts_22 : decode cX12_puts 22 = .ok (.aload_n 0, 1) := by decide +kernel
theorem dX12_puts_23 : decode cX12_puts 23 = .ok (.getfield 391, 3) := by decide +kernel
theorem dX12_puts_26 : decode cX12_puts 26 = .ok (.iconst 1, 1) := by decide +kernel
theorem dX12_puts_27 : decode cX12_puts 27 = .ok (.isub, 1) := by decide +kernel
theorem dX12_puts_28 : decode cX12_puts 28 = .ok (.iaload, 1) := by decide +kernel
theorem dX12_puts_29 : decode cX12_puts 29 = .ok (.ireturn, 1) := by decide +kernel
theorem dX12_putsAll_0 : decode cX12_putsAll 0 = .ok (.aload_n 0, 1) := by decide +kernel
theorem dX12_putsAll_1 : decode cX12_putsAll 1 = .ok (.iconst 0, 1) := by decide +kernel
theorem dX12_putsAll_2 : decode cX12_putsAll 2 = .ok (.putfield 391, 3) := by decide +kernel
theorem dX12_putsAll_5 : decode cX12_putsAll 5 = .ok (.aload_n 0, 1) := by decide +kernel
theorem dX12_putsAll_6 : decode cX12_putsAll 6 = .ok (.aload_n 0, 1) := by decide +kernel
theorem dX12_putsAll_7 : decode cX12_putsAll 7 = .ok (.aload_n 1, 1) := by decide +kernel
theorem dX12_putsAll_8 : decode cX12_putsAll 8 = .ok (.aload_n 0, 1) := by decide +kernel
theorem dX12_putsAll_9 : decode cX12_putsAll 9 = .ok (.getfield 190, 3) := by decide +kernel
theorem dX12_putsAll_12 : decode cX12_putsAll 12 = .ok (.iload_n 2, 1) := by decide +kernel
theorem dX12_putsAll_13 : decode cX12_putsAll 13 = .ok (.invokevirtual 394, 3) := by decide +kernel
theorem dX12_putsAll_16 : decode cX12_putsAll 16 = .ok (.putfield 190, 3) := by decide +kernel
theorem dX12_putsAll_19 : decode cX12_putsAll 19 = .ok (.iconst 0, 1) := by decide +kernel
theorem dX12_putsAll_20 : decode cX12_putsAll 20 = .ok (.istore_n 3, 1) := by decide +kernel
theorem dX12_putsAll_21 : decode cX12_putsAll 21 = .ok (.iload_n 3, 1) := by decide +kernel
theorem dX12_putsAll_22 : decode cX12_putsAll 22 = .ok (.sipush 228, 3) := by decide +kernel
theorem dX12_putsAll_25 : decode cX12_putsAll 25 = .ok (.if_icmp .ge 27, 3) := by decide +kernel
theorem dX12_putsAll_28 : decode cX12_putsAll 28 = .ok (.aload_n 0, 1) := by decide +kernel
theorem dX12_putsAll_29 : decode cX12_putsAll 29 = .ok (.getfield 61, 3) := by decide +kernel
theorem dX12_putsAll_32 : decode cX12_putsAll 32 = .ok (.iload_n 3, 1) := by decide +kernel
theorem dX12_putsAll_33 : decode cX12_putsAll 33 = .ok (.aload_n 0, 1) := by decide +kernel
theorem dX12_putsAll_34 : decode cX12_putsAll 34 = .ok (.aload_n 1, 1) := by decide +kernel
theorem dX12_putsAll_35 : decode cX12_putsAll 35 = .ok (.aload_n 0, 1) := by decide +kernel
theorem dX12_putsAll_36 : decode cX12_putsAll 36 = .ok (.getfield 61, 3) := by decide +kernel
theorem dX12_putsAll_39 : decode cX12_putsAll 39 = .ok (.iload_n 3, 1) := by decide +kernel
theorem dX12_putsAll_40 : decode cX12_putsAll 40 = .ok (.iaload, 1) := by decide +kernel
theorem dX12_putsAll_41 : decode cX12_putsAll 41 = .ok (.iload_n 2, 1) := by decide +kernel
theorem dX12_putsAll_42 : decode cX12_putsAll 42 = .ok (.invokevirtual 394, 3) := by decide +kernel
theorem dX12_putsAll_45 : decode cX12_putsAll 45 = .ok (.iastore, 1) := by decide +kernel
theorem dX12_putsAll_46 : decode cX12_putsAll 46 = .ok (.iinc 3 1, 3) := by decide +kernel
theorem dX12_putsAll_49 : decode cX12_putsAll 49 = .ok (.goto (-28), 3) := by decide +kernel
theorem dX12_putsAll_52 : decode cX12_putsAll 52 = .ok (.iconst 0, 1) := by decide +kernel
theorem dX12_putsAll_53 : decode cX12_putsAll 53 = .ok (.istore_n 3, 1) := by decide +kernel
theorem dX12_putsAll_54 : decode cX12_putsAll 54 = .ok (.iload_n 3, 1) := by decide +kernel
theorem dX12_putsAll_55 : decode cX12_putsAll 55 = .ok (.bipush 16, 2) := by decide +kernel
theorem dX12_putsAll_57 : decode cX12_putsAll 57 = .ok (.if_icmp .ge 50, 3) := by decide +kernel
theorem dX12_putsAll_60 : decode cX12_putsAll 60 = .ok (.iconst 0, 1) := by decide +kernel
theorem dX12_putsAll_61 : decode cX12_putsAll 61 = .ok (.istore 4, 2) := by decide +kernel
theorem dX12_putsAll_63 : decode cX12_putsAll 63 = .ok (.iload 4, 2) := by decide +kernel
theorem dX12_putsAll_65 : decode cX12_putsAll 65 = .ok (.sipush 228, 3) := by decide +kernel
theorem dX12_putsAll_68 : decode cX12_putsAll 68 = .ok (.if_icmp .ge 33, 3) := by decide +kernel
theorem dX12_putsAll_71 : decode cX12_putsAll 71 = .ok (.aload_n 0, 1) := by decide +kernel
theorem dX12_putsAll_72 : decode cX12_putsAll 72 = .ok (.getfield 67, 3) := by decide +kernel
theorem dX12_putsAll_75 : decode cX12_putsAll 75 = .ok (.iload_n 3, 1) := by decide +kernel
theorem dX12_putsAll_76 : decode cX12_putsAll 76 = .ok (.aaload, 1) := by decide +kernel
theorem dX12_putsAll_77 : decode cX12_putsAll 77 = .ok (.iload 4, 2) := by decide +kernel
theorem dX12_putsAll_79 : decode cX12_putsAll 79 = .ok (.aload_n 0, 1) := by decide +kernel
theorem dX12_putsAll_80 : decode cX12_putsAll 80 = .ok (.aload_n 1, 1) := by decide +kernel
theorem dX12_putsAll_81 : decode cX12_putsAll 81 = .ok (.aload_n 0, 1) := by decide +kernel
theorem dX12_putsAll_82 : decode cX12_putsAll 82 = .ok (.getfield 67, 3) := by decide +kernel
theorem dX12_putsAll_85 : decode cX12_putsAll 85 = .ok (.iload_n 3, 1) := by decide +kernel
theorem dX12_putsAll_86 : decode cX12_putsAll 86 = .ok (.aaload, 1) := by decide +kernel
theorem dX12_putsAll_87 : decode cX12_putsAll 87 = .ok (.iload 4, 2) := by decide +kernel
theorem dX12_putsAll_89 : decode cX12_putsAll 89 = .ok (.iaload, 1) := by decide +kernel
theorem dX12_putsAll_90 : decode cX12_putsAll 90 = .ok (.iload_n 2, 1) := by decide +kernel
theorem dX12_putsAll_91 : decode cX12_putsAll 91 = .ok (.invokevirtual 394, 3) := by decide +kernel
theorem dX12_putsAll_94 : decode cX12_putsAll 94 = .ok (.iastore, 1) := by decide +kernel
theorem dX12_putsAll_95 : decode cX12_putsAll 95 = .ok (.iinc 4 1, 3) := by decide +kernel
theorem dX12_putsAll_98 : decode cX12_putsAll 98 = .ok (.goto (-35), 3) := by decide +kernel
theorem dX12_putsAll_101 : decode cX12_putsAll 101 = .ok (.iinc 3 1, 3) := by decide +kernel
theorem dX12_putsAll_104 : decode cX12_putsAll 104 = .ok (.goto (-50), 3) := by decide +kernel
theorem dX12_putsAll_107 : decode cX12_putsAll 107 = .ok (.return_, 1) := by decide +kernel
theorem dX12_image_0 : decode cX12_image 0 = .ok (.aload_n 0, 1) := by decide +kernel
theorem dX12_image_1 : decode cX12_image 1 = .ok (.iconst 0, 1) := by decide +kernel
theorem dX12_image_2 : decode cX12_image 2 = .ok (.putfield 94, 3) := by decide +kernel
theorem dX12_image_5 : decode cX12_image 5 = .ok (.aload_n 0, 1) := by decide +kernel
theorem dX12_image_6 : decode cX12_image 6 = .ok (.getfield 196, 3) := by decide +kernel
theorem dX12_image_9 : decode cX12_image 9 = .ok (.iconst 3, 1) := by decide +kernel
theorem dX12_image_10 : decode cX12_image 10 = .ok (.if_icmp .ne 5, 3) := by decide +kernel
theorem dX12_image_13 : decode cX12_image 13 = .ok (.iconst (-1), 1) := by decide +kernel
theorem dX12_image_14 : decode cX12_image 14 = .ok (.ireturn, 1) := by decide +kernel
theorem dX12_image_15 : decode cX12_image 15 = .ok (.aload_n 0, 1) := by decide +kernel
theorem dX12_image_16 : decode cX12_image 16 = .ok (.aload_n 0, 1) := by decide +kernel
theorem dX12_image_17 : decode cX12_image 17 = .ok (.getfield 70, 3) := by decide +kernel
theorem dX12_image_20 : decode cX12_image 20 = .ok (.aload_n 0, 1) := by decide +kernel
theorem dX12_image_21 : decode cX12_image 21 = .ok (.getfield 196, 3) := by decide +kernel
theorem dX12_image_24 : decode cX12_image 24 = .ok (.aaload, 1) := by decide +kernel
theorem dX12_image_25 : decode cX12_image 25 = .ok (.iconst 0, 1) := by decide +kernel
theorem dX12_image_26 : decode cX12_image 26 = .ok (.invokevirtual 398, 3) := by decide +kernel
theorem dX12_image_29 : decode cX12_image 29 = .ok (.aload_n 0, 1) := by decide +kernel
theorem dX12_image_30 : decode cX12_image 30 = .ok (.dup, 1) := by decide +kernel
theorem dX12_image_31 : decode cX12_image 31 = .ok (.getfield 196, 3) := by decide +kernel
theorem dX12_image_34 : decode cX12_image 34 = .ok (.iconst 1, 1) := by decide +kernel
theorem dX12_image_35 : decode cX12_image 35 = .ok (.iadd, 1) := by decide +kernel
theorem dX12_image_36 : decode cX12_image 36 = .ok (.putfield 196, 3) := by decide +kernel
theorem dX12_image_39 : decode cX12_image 39 = .ok (.aload_n 0, 1) := by decide +kernel
theorem dX12_image_40 : decode cX12_image 40 = .ok (.getfield 196, 3) := by decide +kernel
theorem dX12_image_43 : decode cX12_image 43 = .ok (.ireturn, 1) := by decide +kernel
theorem dX12_restore_0 : decode cX12_restore 0 = .ok (.aload_n 0, 1) := by decide +kernel
theorem dX12_restore_1 : decode cX12_restore 1 = .ok (.iconst 0, 1) := by decide +kernel
theorem dX12_restore_2 : decode cX12_restore 2 = .ok (.putfield 94, 3) := by decide +kernel
theorem dX12_restore_5 : decode cX12_restore 5 = .ok (.aload_n 0, 1) := by decide +kernel
theorem dX12_restore_6 : decode cX12_restore 6 = .ok (.getfield 196, 3) := by decide +kernel
theorem dX12_restore_9 : decode cX12_restore 9 = .ok (.ifCond .ne 5, 3) := by decide +kernel
theorem dX12_restore_12 : decode cX12_restore 12 = .ok (.iconst (-1), 1) := by decide +kernel
theorem dX12_restore_13 : decode cX12_restore 13 = .ok (.ireturn, 1) := by decide +kernel
theorem dX12_restore_14 : decode cX12_restore 14 = .ok (.aload_n 0, 1) := by decide +kernel
theorem dX12_restore_15 : decode cX12_restore 15 = .ok (.dup, 1) := by decide +kernel
theorem dX12_restore_16 : decode cX12_restore 16 = .ok (.getfield 196, 3) := by decide +kernel
theorem dX12_restore_19 : decode cX12_restore 19 = .ok (.iconst 1, 1) := by decide +kernel
theorem dX12_restore_20 : decode cX12_restore 20 = .ok (.isub, 1) := by decide +kernel
theorem dX12_restore_21 : decode cX12_restore 21 = .ok (.putfield 196, 3) := by decide +kernel
theorem dX12_restore_24 : decode cX12_restore 24 = .ok (.aload_n 0, 1) := by decide +kernel
theorem dX12_restore_25 : decode cX12_restore 25 = .ok (.aload_n 0, 1) := by decide +kernel
theorem dX12_restore_26 : decode cX12_restore 26 = .ok (.getfield 70, 3) := by decide +kernel
theorem dX12_restore_29 : decode cX12_restore 29 = .ok (.aload_n 0, 1) := by decide +kernel
theorem dX12_restore_30 : decode cX12_restore 30 = .ok (.getfield 196, 3) := by decide +kernel
theorem dX12_restore_33 : decode cX12_restore 33 = .ok (.aaload, 1) := by decide +kernel
theorem dX12_restore_34 : decode cX12_restore 34 = .ok (.iconst 1, 1) := by decide +kernel
theorem dX12_restore_35 : decode cX12_restore 35 = .ok (.invokevirtual 398, 3) := by decide +kernel
theorem dX12_restore_38 : decode cX12_restore 38 = .ok (.aload_n 0, 1) := by decide +kernel
theorem dX12_restore_39 : decode cX12_restore 39 = .ok (.iconst 0, 1) := by decide +kernel
theorem dX12_restore_40 : decode cX12_restore 40 = .ok (.putfield 193, 3) := by decide +kernel
theorem dX12_restore_43 : decode cX12_restore 43 = .ok (.aload_n 0, 1) := by decide +kernel
theorem dX12_restore_44 : decode cX12_restore 44 = .ok (.getfield 196, 3) := by decide +kernel
theorem dX12_restore_47 : decode cX12_restore 47 = .ok (.ireturn, 1) := by decide +kernel
theorem dX12_status_0 : decode cX12_status 0 = .ok (.aload_n 0, 1) := by decide +kernel
theorem dX12_status_1 : decode cX12_status 1 = .ok (.iconst 0, 1) := by decide +kernel
theorem dX12_status_2 : decode cX12_status 2 = .ok (.putfield 94, 3) := by decide +kernel
theorem dX12_status_5 : decode cX12_status 5 = .ok (.iload_n 1, 1) := by decide +kernel
theorem dX12_status_6 : decode cX12_status 6 = .ok (.iconst 0, 1) := by decide +kernel
theorem dX12_status_7 : decode cX12_status 7 = .ok (.iconst 1, 1) := by decide +kernel
theorem dX12_status_8 : decode cX12_status 8 = .ok (.invokestatic 128, 3) := by decide +kernel
theorem dX12_status_11 : decode cX12_status 11 = .ok (.ifCond .eq 12, 3) := by decide +kernel
theorem dX12_status_14 : decode cX12_status 14 = .ok (.aload_n 0, 1) := by decide +kernel
theorem dX12_status_15 : decode cX12_status 15 = .ok (.getfield 17, 3) := by decide +kernel
theorem dX12_status_18 : decode cX12_status 18 = .ok (.iload_n 1, 1) := by decide +kernel
theorem dX12_status_19 : decode cX12_status 19 = .ok (.iaload, 1) := by decide +kernel
theorem dX12_status_20 : decode cX12_status 20 = .ok (.goto 4, 3) := by decide +kernel
theorem dX12_status_23 : decode cX12_status 23 = .ok (.iconst (-1), 1) := by decide +kernel
theorem dX12_status_24 : decode cX12_status 24 = .ok (.ireturn, 1) := by decide +kernel
theorem dX12_count_0 : decode cX12_count 0 = .ok (.aload_n 0, 1) := by decide +kernel
theorem dX12_count_1 : decode cX12_count 1 = .ok (.iconst 0, 1) := by decide +kernel
theorem dX12_count_2 : decode cX12_count 2 = .ok (.putfield 94, 3) := by decide +kernel
theorem dX12_count_5 : decode cX12_count 5 = .ok (.iload_n 1, 1) := by decide +kernel
theorem dX12_count_6 : decode cX12_count 6 = .ok (.ifCond .ne 10, 3) := by decide +kernel
theorem dX12_count_9 : decode cX12_count 9 = .ok (.aload_n 0, 1) := by decide +kernel
theorem dX12_count_10 : decode cX12_count 10 = .ok (.getfield 196, 3) := by decide +kernel
theorem dX12_count_13 : decode cX12_count 13 = .ok (.goto 28, 3) := by decide +kernel
theorem dX12_count_16 : decode cX12_count 16 = .ok (.iload_n 1, 1) := by decide +kernel
theorem dX12_count_17 : decode cX12_count 17 = .ok (.iconst 1, 1) := by decide +kernel
theorem dX12_count_18 : decode cX12_count 18 = .ok (.if_icmp .ne 10, 3) := by decide +kernel
theorem dX12_count_21 : decode cX12_count 21 = .ok (.aload_n 0, 1) := by decide +kernel
theorem dX12_count_22 : decode cX12_count 22 = .ok (.getfield 97, 3) := by decide +kernel
theorem dX12_count_25 : decode cX12_count 25 = .ok (.goto 16, 3) := by decide +kernel
theorem dX12_count_28 : decode cX12_count 28 = .ok (.iload_n 1, 1) := by decide +kernel
theorem dX12_count_29 : decode cX12_count 29 = .ok (.iconst 2, 1) := by decide +kernel
theorem dX12_count_30 : decode cX12_count 30 = .ok (.if_icmp .ne 10, 3) := by decide +kernel
theorem dX12_count_33 : decode cX12_count 33 = .ok (.aload_n 0, 1) := by decide +kernel
theorem dX12_count_34 : decode cX12_count 34 = .ok (.getfield 190, 3) := by decide +kernel
theorem dX12_count_37 : decode cX12_count 37 = .ok (.goto 4, 3) := by decide +kernel
theorem dX12_count_40 : decode cX12_count 40 = .ok (.iconst (-1), 1) := by decide +kernel
theorem dX12_count_41 : decode cX12_count 41 = .ok (.ireturn, 1) := by decide +kernel
