theorem dX12_init_0 : decode cX12_init 0 = .ok (.aload_n 0, 1) := by decide +kernel
theorem dX12_init_1 : decode cX12_init 1 = .ok (.invokespecial 1, 3) := by decide +kernel
theorem dX12_init_4 : decode cX12_init 4 = .ok (.aload_n 0, 1) := by decide +kernel
theorem dX12_init_5 : decode cX12_init 5 = .ok (.iconst (-1), 1) := by decide +kernel
theorem dX12_init_6 : decode cX12_init 6 = .ok (.putfield 9, 3) := by decide +kernel
theorem dX12_init_9 : decode cX12_init 9 = .ok (.aload_n 0, 1) := by decide +kernel
theorem dX12_init_10 : decode cX12_init 10 = .ok (.sipush 600, 3) := by decide +kernel
theorem dX12_init_13 : decode cX12_init 13 = .ok (.newarray .int, 2) := by decide +kernel
theorem dX12_init_15 : decode cX12_init 15 = .ok (.putfield 13, 3) := by decide +kernel
theorem dX12_init_18 : decode cX12_init 18 = .ok (.aload_n 0, 1) := by decide +kernel
theorem dX12_init_19 : decode cX12_init 19 = .ok (.iconst 2, 1) := by decide +kernel
theorem dX12_init_20 : decode cX12_init 20 = .ok (.newarray .int, 2) := by decide +kernel
theorem dX12_init_22 : decode cX12_init 22 = .ok (.putfield 17, 3) := by decide +kernel
theorem dX12_init_25 : decode cX12_init 25 = .ok (.aload_n 0, 1) := by decide +kernel
theorem dX12_init_26 : decode cX12_init 26 = .ok (.iconst 2, 1) := by decide +kernel
theorem dX12_init_27 : decode cX12_init 27 = .ok (.newarray .int, 2) := by decide +kernel
theorem dX12_init_29 : decode cX12_init 29 = .ok (.putfield 20, 3) := by decide +kernel
theorem dX12_init_32 : decode cX12_init 32 = .ok (.aload_n 0, 1) := by decide +kernel
theorem dX12_init_33 : decode cX12_init 33 = .ok (.iconst 2, 1) := by decide +kernel
theorem dX12_init_34 : decode cX12_init 34 = .ok (.newarray .int, 2) := by decide +kernel
theorem dX12_init_36 : decode cX12_init 36 = .ok (.putfield 23, 3) := by decide +kernel
theorem dX12_init_39 : decode cX12_init 39 = .ok (.aload_n 0, 1) := by decide +kernel
theorem dX12_init_40 : decode cX12_init 40 = .ok (.bipush 8, 2) := by decide +kernel
theorem dX12_init_42 : decode cX12_init 42 = .ok (.newarray .int, 2) := by decide +kernel
theorem dX12_init_44 : decode cX12_init 44 = .ok (.putfield 26, 3) := by decide +kernel
theorem dX12_init_47 : decode cX12_init 47 = .ok (.aload_n 0, 1) := by decide +kernel
theorem dX12_init_48 : decode cX12_init 48 = .ok (.bipush 8, 2) := by decide +kernel
theorem dX12_init_50 : decode cX12_init 50 = .ok (.newarray .int, 2) := by decide +kernel
theorem dX12_init_52 : decode cX12_init 52 = .ok (.putfield 29, 3) := by decide +kernel
theorem dX12_init_55 : decode cX12_init 55 = .ok (.aload_n 0, 1) := by decide +kernel
theorem dX12_init_56 : decode cX12_init 56 = .ok (.bipush 8, 2) := by decide +kernel
theorem dX12_init_58 : decode cX12_init 58 = .ok (.iconst 3, 1) := by decide +kernel
theorem dX12_init_59 : decode cX12_init 59 = .ok (.multianewarray 32 2, 4) := by decide +kernel
theorem dX12_init_63 : decode cX12_init 63 = .ok (.putfield 34, 3) := by decide +kernel
theorem dX12_init_66 : decode cX12_init 66 = .ok (.aload_n 0, 1) := by decide +kernel
theorem dX12_init_67 : decode cX12_init 67 = .ok (.bipush 8, 2) := by decide +kernel
theorem dX12_init_69 : decode cX12_init 69 = .ok (.iconst 3, 1) := by decide +kernel
theorem dX12_init_70 : decode cX12_init 70 = .ok (.multianewarray 32 2, 4) := by decide +kernel
theorem dX12_init_74 : decode cX12_init 74 = .ok (.putfield 37, 3) := by decide +kernel
theorem dX12_init_77 : decode cX12_init 77 = .ok (.aload_n 0, 1) := by decide +kernel
theorem dX12_init_78 : decode cX12_init 78 = .ok (.sipush 160, 3) := by decide +kernel
theorem dX12_init_81 : decode cX12_init 81 = .ok (.iconst 2, 1) := by decide +kernel
theorem dX12_init_82 : decode cX12_init 82 = .ok (.multianewarray 32 2, 4) := by decide +kernel
theorem dX12_init_86 : decode cX12_init 86 = .ok (.putfield 40, 3) := by decide +kernel
theorem dX12_init_89 : decode cX12_init 89 = .ok (.aload_n 0, 1) := by decide +kernel
theorem dX12_init_90 : decode cX12_init 90 = .ok (.sipush 160, 3) := by decide +kernel
theorem dX12_init_93 : decode cX12_init 93 = .ok (.iconst 2, 1) := by decide +kernel
theorem dX12_init_94 : decode cX12_init 94 = .ok (.multianewarray 32 2, 4) := by decide +kernel
theorem dX12_init_98 : decode cX12_init 98 = .ok (.putfield 43, 3) := by decide +kernel
theorem dX12_init_101 : decode cX12_init 101 = .ok (.aload_n 0, 1) := by decide +kernel
theorem dX12_init_102 : decode cX12_init 102 = .ok (.bipush 8, 2) := by decide +kernel
theorem dX12_init_104 : decode cX12_init 104 = .ok (.iconst 2, 1) := by decide +kernel
theorem dX12_init_105 : decode cX12_init 105 = .ok (.multianewarray 32 2, 4) := by decide +kernel
theorem dX12_init_109 : decode cX12_init 109 = .ok (.putfield 46, 3) := by decide +kernel
theorem dX12_init_112 : decode cX12_init 112 = .ok (.aload_n 0, 1) := by decide +kernel
theorem dX12_init_113 : decode cX12_init 113 = .ok (.bipush 8, 2) := by decide +kernel
theorem dX12_init_115 : decode cX12_init 115 = .ok (.iconst 2, 1) := by decide +kernel
theorem dX12_init_116 : decode cX12_init 116 = .ok (.multianewarray 32 2, 4) := by decide +kernel
theorem dX12_init_120 : decode cX12_init 120 = .ok (.putfield 49, 3) := by decide +kernel
theorem dX12_init_123 : decode cX12_init 123 = .ok (.aload_n 0, 1) := by decide +kernel
theorem dX12_init_124 : decode cX12_init 124 = .ok (.sipush 160, 3) := by decide +kernel
theorem dX12_init_127 : decode cX12_init 127 = .ok (.newarray .int, 2) := by decide +kernel
theorem dX12_init_129 : decode cX12_init 129 = .ok (.putfield 52, 3) := by decide +kernel
theorem dX12_init_132 : decode cX12_init 132 = .ok (.aload_n 0, 1) := by decide +kernel
theorem dX12_init_133 : decode cX12_init 133 = .ok (.bipush 8, 2) := by decide +kernel
theorem dX12_init_135 : decode cX12_init 135 = .ok (.newarray .int, 2) := by decide +kernel
theorem dX12_init_137 : decode cX12_init 137 = .ok (.putfield 55, 3) := by decide +kernel
theorem dX12_init_140 : decode cX12_init 140 = .ok (.aload_n 0, 1) := by decide +kernel
theorem dX12_init_141 : decode cX12_init 141 = .ok (.bipush 80, 2) := by decide +kernel
theorem dX12_init_143 : decode cX12_init 143 = .ok (.iconst 5, 1) := by decide +kernel
theorem dX12_init_144 : decode cX12_init 144 = .ok (.multianewarray 32 2, 4) := by decide +kernel
theorem dX12_init_148 : decode cX12_init 148 = .ok (.putfield 58, 3) := by decide +kernel
theorem dX12_init_151 : decode cX12_init 151 = .ok (.aload_n 0, 1) := by decide +kernel
theorem dX12_init_152 : decode cX12_init 152 = .ok (.sipush 228, 3) := by decide +kernel
theorem dX12_init_155 : decode cX12_init 155 = .ok (.newarray .int, 2) := by decide +kernel
theorem dX12_init_157 : decode cX12_init 157 = .ok (.putfield 61, 3) := by decide +kernel
theorem dX12_init_160 : decode cX12_init 160 = .ok (.aload_n 0, 1) := by decide +kernel
theorem dX12_init_161 : decode cX12_init 161 = .ok (.sipush 228, 3) := by decide +kernel
theorem dX12_init_164 : decode cX12_init 164 = .ok (.newarray .int, 2) := by decide +kernel
theorem dX12_init_166 : decode cX12_init 166 = .ok (.putfield 64, 3) := by decide +kernel
theorem dX12_init_169 : decode cX12_init 169 = .ok (.aload_n 0, 1) := by decide +kernel
theorem dX12_init_170 : decode cX12_init 170 = .ok (.bipush 16, 2) := by decide +kernel
theorem dX12_init_172 : decode cX12_init 172 = .ok (.sipush 228, 3) := by decide +kernel
theorem dX12_init_175 : decode cX12_init 175 = .ok (.multianewarray 32 2, 4) := by decide +kernel
theorem dX12_init_179 : decode cX12_init 179 = .ok (.putfield 67, 3) := by decide +kernel
theorem dX12_init_182 : decode cX12_init 182 = .ok (.aload_n 0, 1) := by decide +kernel
theorem dX12_init_183 : decode cX12_init 183 = .ok (.iconst 3, 1) := by decide +kernel
theorem dX12_init_184 : decode cX12_init 184 = .ok (.sipush 3877, 3) := by decide +kernel
theorem dX12_init_187 : decode cX12_init 187 = .ok (.multianewarray 32 2, 4) := by decide +kernel
theorem dX12_init_191 : decode cX12_init 191 = .ok (.putfield 70, 3) := by decide +kernel
theorem dX12_init_194 : decode cX12_init 194 = .ok (.aload_n 0, 1) := by decide +kernel
theorem dX12_init_195 : decode cX12_init 195 = .ok (.bipush 8, 2) := by decide +kernel
theorem dX12_init_197 : decode cX12_init 197 = .ok (.newarray .int, 2) := by decide +kernel
theorem dX12_init_199 : decode cX12_init 199 = .ok (.putfield 73, 3) := by decide +kernel
theorem dX12_init_202 : decode cX12_init 202 = .ok (.aload_n 0, 1) := by decide +kernel
theorem dX12_init_203 : decode cX12_init 203 = .ok (.bipush 7, 2) := by decide +kernel
theorem dX12_init_205 : decode cX12_init 205 = .ok (.newarray .int, 2) := by decide +kernel
theorem dX12_init_207 : decode cX12_init 207 = .ok (.putfield 76, 3) := by decide +kernel
theorem dX12_init_210 : decode cX12_init 210 = .ok (.aload_n 0, 1) := by decide +kernel
theorem dX12_init_211 : decode cX12_init 211 = .ok (.bipush 8, 2) := by decide +kernel
theorem dX12_init_213 : decode cX12_init 213 = .ok (.newarray .int, 2) := by decide +kernel
theorem dX12_init_215 : decode cX12_init 215 = .ok (.putfield 79, 3) := by decide +kernel
theorem dX12_init_218 : decode cX12_init 218 = .ok (.aload_n 0, 1) := by decide +kernel
theorem dX12_init_219 : decode cX12_init 219 = .ok (.bipush 8, 2) := by decide +kernel
theorem dX12_init_221 : decode cX12_init 221 = .ok (.newarray .int, 2) := by decide +kernel
theorem dX12_init_223 : decode cX12_init 223 = .ok (.putfield 82, 3) := by decide +kernel
theorem dX12_init_226 : decode cX12_init 226 = .ok (.aload_n 0, 1) := by decide +kernel
theorem dX12_init_227 : decode cX12_init 227 = .ok (.bipush 64, 2) := by decide +kernel
theorem dX12_init_229 : decode cX12_init 229 = .ok (.newarray .int, 2) := by decide +kernel
theorem dX12_init_231 : decode cX12_init 231 = .ok (.putfield 85, 3) := by decide +kernel
theorem dX12_init_234 : decode cX12_init 234 = .ok (.aload_n 0, 1) := by decide +kernel
theorem dX12_init_235 : decode cX12_init 235 = .ok (.invokevirtual 88, 3) := by decide +kernel
theorem dX12_init_238 : decode cX12_init 238 = .ok (.aload_n 0, 1) := by decide +kernel
theorem dX12_init_239 : decode cX12_init 239 = .ok (.invokevirtual 91, 3) := by decide +kernel
theorem dX12_init_242 : decode cX12_init 242 = .ok (.return_, 1) := by decide +kernel
theorem dX12_tellsNothing_0 : decode cX12_tellsNothing 0 = .ok (.aload_n 0, 1) := by decide +kernel
theorem dX12_tellsNothing_1 : decode cX12_tellsNothing 1 = .ok (.getfield 20, 3) := by decide +kernel
theorem dX12_tellsNothing_4 : decode cX12_tellsNothing 4 = .ok (.iconst 0, 1) := by decide +kernel
theorem dX12_tellsNothing_5 : decode cX12_tellsNothing 5 = .ok (.iconst 0, 1) := by decide +kernel
theorem dX12_tellsNothing_6 : decode cX12_tellsNothing 6 = .ok (.iastore, 1) := by decide +kernel
theorem dX12_tellsNothing_7 : decode cX12_tellsNothing 7 = .ok (.aload_n 0, 1) := by decide +kernel
theorem dX12_tellsNothing_8 : decode cX12_tellsNothing 8 = .ok (.getfield 20, 3) := by decide +kernel
theorem dX12_tellsNothing_11 : decode cX12_tellsNothing 11 = .ok (.iconst 1, 1) := by decide +kernel
theorem dX12_tellsNothing_12 : decode cX12_tellsNothing 12 = .ok (.iconst 1, 1) := by decide +kernel
theorem dX12_tellsNothing_13 : decode cX12_tellsNothing 13 = .ok (.iastore, 1) := by decide +kernel
theorem dX12_tellsNothing_14 : decode cX12_tellsNothing 14 = .ok (.iconst 0, 1) := by decide +kernel
theorem dX12_tellsNothing_15 : decode cX12_tellsNothing 15 = .ok (.istore_n 1, 1) := by decide +kernel
theorem dX12_tellsNothing_16 : decode cX12_tellsNothing 16 = .ok (.iload_n 1, 1) := by decide +kernel
theorem dX12_tellsNothing_17 : decode cX12_tellsNothing 17 = .ok (.bipush 8, 2) := by decide +kernel
theorem dX12_tellsNothing_19 : decode cX12_tellsNothing 19 = .ok (.if_icmp .ge 16, 3) := by decide +kernel
theorem dX12_tellsNothing_22 : decode cX12_tellsNothing 22 = .ok (.aload_n 0, 1) := by decide +kernel
theorem dX12_tellsNothing_23 : decode cX12_tellsNothing 23 = .ok (.getfield 26, 3) := by decide +kernel
theorem dX12_tellsNothing_26 : decode cX12_tellsNothing 26 = .ok (.iload_n 1, 1) := by decide +kernel
theorem dX12_tellsNothing_27 : decode cX12_tellsNothing 27 = .ok (.iconst 0, 1) := by decide +kernel
theorem dX12_tellsNothing_28 : decode cX12_tellsNothing 28 = .ok (.iastore, 1) := by decide +kernel
theorem dX12_tellsNothing_29 : decode cX12_tellsNothing 29 = .ok (.iinc 1 1, 3) := by decide +kernel
theorem dX12_tellsNothing_32 : decode cX12_tellsNothing 32 = .ok (.goto (-16), 3) := by decide +kernel
theorem dX12_tellsNothing_35 : decode cX12_tellsNothing 35 = .ok (.return_, 1) := by decide +kernel
theorem dX12_thrown_0 : decode cX12_thrown 0 = .ok (.aload_n 0, 1) := by decide +kernel
theorem dX12_thrown_1 : decode cX12_thrown 1 = .ok (.getfield 94, 3) := by decide +kernel
theorem dX12_thrown_4 : decode cX12_thrown 4 = .ok (.ireturn, 1) := by decide +kernel
theorem dX12_bad_0 : decode cX12_bad 0 = .ok (.iload_n 1, 1) := by decide +kernel
theorem dX12_bad_1 : decode cX12_bad 1 = .ok (.ifCond .eq 25, 3) := by decide +kernel
theorem dX12_bad_4 : decode cX12_bad 4 = .ok (.aload_n 0, 1) := by decide +kernel
theorem dX12_bad_5 : decode cX12_bad 5 = .ok (.getfield 94, 3) := by decide +kernel
theorem dX12_bad_8 : decode cX12_bad 8 = .ok (.ifCond .ne 18, 3) := by decide +kernel
theorem dX12_bad_11 : decode cX12_bad 11 = .ok (.aload_n 0, 1) := by decide +kernel
theorem dX12_bad_12 : decode cX12_bad 12 = .ok (.iload_n 2, 1) := by decide +kernel
theorem dX12_bad_13 : decode cX12_bad 13 = .ok (.putfield 94, 3) := by decide +kernel
theorem dX12_bad_16 : decode cX12_bad 16 = .ok (.aload_n 0, 1) := by decide +kernel
theorem dX12_bad_17 : decode cX12_bad 17 = .ok (.getfield 17, 3) := by decide +kernel
theorem dX12_bad_20 : decode cX12_bad 20 = .ok (.iload_n 3, 1) := by decide +kernel
theorem dX12_bad_21 : decode cX12_bad 21 = .ok (.dup2, 1) := by decide +kernel
theorem dX12_bad_22 : decode cX12_bad 22 = .ok (.iaload, 1) := by decide +kernel
theorem dX12_bad_23 : decode cX12_bad 23 = .ok (.iconst 1, 1) := by decide +kernel
theorem dX12_bad_24 : decode cX12_bad 24 = .ok (.iadd, 1) := by decide +kernel
theorem dX12_bad_25 : decode cX12_bad 25 = .ok (.iastore, 1) := by decide +kernel
theorem dX12_bad_26 : decode cX12_bad 26 = .ok (.aload_n 0, 1) := by decide +kernel
theorem dX12_bad_27 : decode cX12_bad 27 = .ok (.getfield 94, 3) := by decide +kernel
theorem dX12_bad_30 : decode cX12_bad 30 = .ok (.ifCond .eq 7, 3) := by decide +kernel
theorem dX12_bad_33 : decode cX12_bad 33 = .ok (.iconst 1, 1) := by decide +kernel
theorem dX12_bad_34 : decode cX12_bad 34 = .ok (.goto 4, 3) := by decide +kernel
theorem dX12_bad_37 : decode cX12_bad 37 = .ok (.iconst 0, 1) := by decide +kernel
theorem dX12_bad_38 : decode cX12_bad 38 = .ok (.ireturn, 1) := by decide +kernel
theorem dX12_in_0 : decode cX12_in 0 = .ok (.iload_n 0, 1) := by decide +kernel
theorem dX12_in_1 : decode cX12_in 1 = .ok (.iload_n 1, 1) := by decide +kernel
theorem dX12_in_2 : decode cX12_in 2 = .ok (.if_icmp .lt 12, 3) := by decide +kernel
theorem dX12_in_5 : decode cX12_in 5 = .ok (.iload_n 0, 1) := by decide +kernel
theorem dX12_in_6 : decode cX12_in 6 = .ok (.iload_n 2, 1) := by decide +kernel
theorem dX12_in_7 : decode cX12_in 7 = .ok (.if_icmp .gt 7, 3) := by decide +kernel
theorem dX12_in_10 : decode cX12_in 10 = .ok (.iconst 1, 1) := by decide +kernel
theorem dX12_in_11 : decode cX12_in 11 = .ok (.goto 4, 3) := by decide +kernel
theorem dX12_in_14 : decode cX12_in 14 = .ok (.iconst 0, 1) := by decide +kernel
theorem dX12_in_15 : decode cX12_in 15 = .ok (.ireturn, 1) := by decide +kernel
theorem dX12_less_0 : decode cX12_less 0 = .ok (.iload_n 0, 1) := by decide +kernel
theorem dX12_less_1 : decode cX12_less 1 = .ok (.iload_n 1, 1) := by decide +kernel
theorem dX12_less_2 : decode cX12_less 2 = .ok (.if_icmp .ge 7, 3) := by decide +kernel
theorem dX12_less_5 : decode cX12_less 5 = .ok (.iload_n 0, 1) := by decide +kernel
theorem dX12_less_6 : decode cX12_less 6 = .ok (.goto 4, 3) := by decide +kernel
theorem dX12_less_9 : decode cX12_less 9 = .ok (.iload_n 1, 1) := by decide +kernel
theorem dX12_less_10 : decode cX12_less 10 = .ok (.ireturn, 1) := by decide +kernel
theorem dX12_more_0 : decode cX12_more 0 = .ok (.iload_n 0, 1) := by decide +kernel
theorem dX12_more_1 : decode cX12_more 1 = .ok (.iload_n 1, 1) := by decide +kernel
theorem dX12_more_2 : decode cX12_more 2 = .ok (.if_icmp .le 7, 3) := by decide +kernel
theorem dX12_more_5 : decode cX12_more 5 = .ok (.iload_n 0, 1) := by decide +kernel
theorem dX12_more_6 : decode cX12_more 6 = .ok (.goto 4, 3) := by decide +kernel
theorem dX12_more_9 : decode cX12_more 9 = .ok (.iload_n 1, 1) := by decide +kernel
theorem dX12_more_10 : decode cX12_more 10 = .ok (.ireturn, 1) := by decide +kernel
theorem dX12_has_0 : decode cX12_has 0 = .ok (.iload_n 0, 1) := by decide +kernel
theorem dX12_has_1 : decode cX12_has 1 = .ok (.iload_n 1, 1) := by decide +kernel
theorem dX12_has_2 : decode cX12_has 2 = .ok (.ishr, 1) := by decide +kernel
theorem dX12_has_3 : decode cX12_has 3 = .ok (.iconst 1, 1) := by decide +kernel
theorem dX12_has_4 : decode cX12_has 4 = .ok (.iand, 1) := by decide +kernel
theorem dX12_has_5 : decode cX12_has 5 = .ok (.iconst 1, 1) := by decide +kernel
theorem dX12_has_6 : decode cX12_has 6 = .ok (.if_icmp .ne 7, 3) := by decide +kernel
theorem dX12_has_9 : decode cX12_has 9 = .ok (.iconst 1, 1) := by decide +kernel
theorem dX12_has_10 : decode cX12_has 10 = .ok (.goto 4, 3) := by decide +kernel
theorem dX12_has_13 : decode cX12_has 13 = .ok (.iconst 0, 1) := by decide +kernel
theorem dX12_has_14 : decode cX12_has 14 = .ok (.ireturn, 1) := by decide +kernel
theorem dX12_feed_0 : decode cX12_feed 0 = .ok (.aload_n 0, 1) := by decide +kernel
theorem dX12_feed_1 : decode cX12_feed 1 = .ok (.iconst 0, 1) := by decide +kernel
theorem dX12_feed_2 : decode cX12_feed 2 = .ok (.putfield 94, 3) := by decide +kernel
theorem dX12_feed_5 : decode cX12_feed 5 = .ok (.aload_n 0, 1) := by decide +kernel
theorem dX12_feed_6 : decode cX12_feed 6 = .ok (.getfield 97, 3) := by decide +kernel
theorem dX12_feed_9 : decode cX12_feed 9 = .ok (.bipush 20, 2) := by decide +kernel
theorem dX12_feed_11 : decode cX12_feed 11 = .ok (.iadd, 1) := by decide +kernel
theorem dX12_feed_12 : decode cX12_feed 12 = .ok (.sipush 600, 3) := by decide +kernel
theorem dX12_feed_15 : decode cX12_feed 15 = .ok (.if_icmp .le 5, 3) := by decide +kernel
theorem dX12_feed_18 : decode cX12_feed 18 = .ok (.iconst (-1), 1) := by decide +kernel
theorem dX12_feed_19 : decode cX12_feed 19 = .ok (.ireturn, 1) := by decide +kernel
theorem dX12_feed_20 : decode cX12_feed 20 = .ok (.iconst 0, 1) := by decide +kernel
theorem dX12_feed_21 : decode cX12_feed 21 = .ok (.istore 6, 2) := by decide +kernel
theorem dX12_feed_23 : decode cX12_feed 23 = .ok (.iload 6, 2) := by decide +kernel
theorem dX12_feed_25 : decode cX12_feed 25 = .ok (.bipush 20, 2) := by decide +kernel
theorem dX12_feed_27 : decode cX12_feed 27 = .ok (.if_icmp .ge 93, 3) := by decide +kernel
theorem dX12_feed_30 : decode cX12_feed 30 = .ok (.iload 6, 2) := by decide +kernel
theorem dX12_feed_32 : decode cX12_feed 32 = .ok (.iconst 4, 1) := by decide +kernel
theorem dX12_feed_33 : decode cX12_feed 33 = .ok (.if_icmp .ge 7, 3) := by decide +kernel
theorem dX12_feed_36 : decode cX12_feed 36 = .ok (.iload_n 1, 1) := by decide +kernel
theorem dX12_feed_37 : decode cX12_feed 37 = .ok (.goto 39, 3) := by decide +kernel
theorem dX12_feed_40 : decode cX12_feed 40 = .ok (.iload 6, 2) := by decide +kernel
theorem dX12_feed_42 : decode cX12_feed 42 = .ok (.bipush 8, 2) := by decide +kernel
theorem dX12_feed_44 : decode cX12_feed 44 = .ok (.if_icmp .ge 7, 3) := by decide +kernel
theorem dX12_feed_47 : decode cX12_feed 47 = .ok (.iload_n 2, 1) := by decide +kernel
theorem dX12_feed_48 : decode cX12_feed 48 = .ok (.goto 28, 3) := by decide +kernel
theorem dX12_feed_51 : decode cX12_feed 51 = .ok (.iload 6, 2) := by decide +kernel
theorem dX12_feed_53 : decode cX12_feed 53 = .ok (.bipush 12, 2) := by decide +kernel
theorem dX12_feed_55 : decode cX12_feed 55 = .ok (.if_icmp .ge 7, 3) := by decide +kernel
theorem dX12_feed_58 : decode cX12_feed 58 = .ok (.iload_n 3, 1) := by decide +kernel
theorem dX12_feed_59 : decode cX12_feed 59 = .ok (.goto 17, 3) := by decide +kernel
theorem dX12_feed_62 : decode cX12_feed 62 = .ok (.iload 6, 2) := by decide +kernel
theorem dX12_feed_64 : decode cX12_feed 64 = .ok (.bipush 16, 2) := by decide +kernel
theorem dX12_feed_66 : decode cX12_feed 66 = .ok (.if_icmp .ge 8, 3) := by decide +kernel
theorem dX12_feed_69 : decode cX12_feed 69 = .ok (.iload 4, 2) := by decide +kernel
theorem dX12_feed_71 : decode cX12_feed 71 = .ok (.goto 5, 3) := by decide +kernel
theorem dX12_feed_74 : decode cX12_feed 74 = .ok (.iload 5, 2) := by decide +kernel
theorem dX12_feed_76 : decode cX12_feed 76 = .ok (.istore 7, 2) := by decide +kernel
theorem dX12_feed_78 : decode cX12_feed 78 = .ok (.aload_n 0, 1) := by decide +kernel
theorem dX12_feed_79 : decode cX12_feed 79 = .ok (.getfield 13, 3) := by decide +kernel
theorem dX12_feed_82 : decode cX12_feed 82 = .ok (.aload_n 0, 1) := by decide +kernel
theorem dX12_feed_83 : decode cX12_feed 83 = .ok (.getfield 97, 3) := by decide +kernel
theorem dX12_feed_86 : decode cX12_feed 86 = .ok (.iload 7, 2) := by decide +kernel
theorem dX12_feed_88 : decode cX12_feed 88 = .ok (.bipush 24, 2) := by decide +kernel
theorem dX12_feed_90 : decode cX12_feed 90 = .ok (.bipush 8, 2) := by decide +kernel
theorem dX12_feed_92 : decode cX12_feed 92 = .ok (.iload 6, 2) := by decide +kernel
theorem dX12_feed_94 : decode cX12_feed 94 = .ok (.iconst 4, 1) := by decide +kernel
theorem dX12_feed_95 : decode cX12_feed 95 = .ok (.irem, 1) := by decide +kernel
theorem dX12_feed_96 : decode cX12_feed 96 = .ok (.imul, 1) := by decide +kernel
theorem dX12_feed_97 : decode cX12_feed 97 = .ok (.isub, 1) := by decide +kernel
theorem dX12_feed_98 : decode cX12_feed 98 = .ok (.ishr, 1) := by decide +kernel
theorem dX12_feed_99 : decode cX12_feed 99 = .ok (.sipush 255, 3) := by decide +kernel
theorem dX12_feed_102 : decode cX12_feed 102 = .ok (.iand, 1) := by decide +kernel
theorem dX12_feed_103 : decode cX12_feed 103 = .ok (.iastore, 1) := by decide +kernel
theorem dX12_feed_104 : decode cX12_feed 104 = .ok (.aload_n 0, 1) := by decide +kernel
theorem dX12_feed_105 : decode cX12_feed 105 = .ok (.dup, 1) := by decide +kernel
theorem dX12_feed_106 : decode cX12_feed 106 = .ok (.getfield 97, 3) := by decide +kernel
theorem dX12_feed_109 : decode cX12_feed 109 = .ok (.iconst 1, 1) := by decide +kernel
theorem dX12_feed_110 : decode cX12_feed 110 = .ok (.iadd, 1) := by decide +kernel
theorem dX12_feed_111 : decode cX12_feed 111 = .ok (.putfield 97, 3) := by decide +kernel
theorem dX12_feed_114 : decode cX12_feed 114 = .ok (.iinc 6 1, 3) := by decide +kernel
theorem dX12_feed_117 : decode cX12_feed 117 = .ok (.goto (-94), 3) := by decide +kernel
theorem dX12_feed_120 : decode cX12_feed 120 = .ok (.aload_n 0, 1) := by decide +kernel
theorem dX12_feed_121 : decode cX12_feed 121 = .ok (.getfield 97, 3) := by decide +kernel
theorem dX12_feed_124 : decode cX12_feed 124 = .ok (.ireturn, 1) := by decide +kernel
theorem dX12_byteAt_0 : decode cX12_byteAt 0 = .ok (.iload_n 1, 1) := by decide +kernel
theorem dX12_byteAt_1 : decode cX12_byteAt 1 = .ok (.aload_n 0, 1) := by decide +kernel
theorem dX12_byteAt_2 : decode cX12_byteAt 2 = .ok (.getfield 100, 3) := by decide +kernel
theorem dX12_byteAt_5 : decode cX12_byteAt 5 = .ok (.if_icmp .lt 7, 3) := by decide +kernel
theorem dX12_byteAt_8 : decode cX12_byteAt 8 = .ok (.iconst (-1), 1) := by decide +kernel
theorem dX12_byteAt_9 : decode cX12_byteAt 9 = .ok (.goto 9, 3) := by decide +kernel
theorem dX12_byteAt_12 : decode cX12_byteAt 12 = .ok (.aload_n 0, 1) := by decide +kernel
theorem dX12_byteAt_13 : decode cX12_byteAt 13 = .ok (.getfield 13, 3) := by decide +kernel
theorem dX12_byteAt_16 : decode cX12_byteAt 16 = .ok (.iload_n 1, 1) := by decide +kernel
theorem dX12_byteAt_17 : decode cX12_byteAt 17 = .ok (.iaload, 1) := by decide +kernel
theorem dX12_byteAt_18 : decode cX12_byteAt 18 = .ok (.ireturn, 1) := by decide +kernel
theorem dX12_blanks_0 : decode cX12_blanks 0 = .ok (.aload_n 0, 1) := by decide +kernel
theorem dX12_blanks_1 : decode cX12_blanks 1 = .ok (.aload_n 0, 1) := by decide +kernel
theorem dX12_blanks_2 : decode cX12_blanks 2 = .ok (.getfield 103, 3) := by decide +kernel
theorem dX12_blanks_5 : decode cX12_blanks 5 = .ok (.invokevirtual 106, 3) := by decide +kernel
theorem dX12_blanks_8 : decode cX12_blanks 8 = .ok (.bipush 32, 2) := by decide +kernel
theorem dX12_blanks_10 : decode cX12_blanks 10 = .ok (.if_icmp .ne 16, 3) := by decide +kernel
theorem dX12_blanks_13 : decode cX12_blanks 13 = .ok (.aload_n 0, 1) := by decide +kernel
theorem dX12_blanks_14 : decode cX12_blanks 14 = .ok (.dup, 1) := by decide +kernel
theorem dX12_blanks_15 : decode cX12_blanks 15 = .ok (.getfield 103, 3) := by decide +kernel
theorem dX12_blanks_18 : decode cX12_blanks 18 = .ok (.iconst 1, 1) := by decide +kernel
theorem dX12_blanks_19 : decode cX12_blanks 19 = .ok (.iadd, 1) := by decide +kernel
theorem dX12_blanks_20 : decode cX12_blanks 20 = .ok (.putfield 103, 3) := by decide +kernel
theorem dX12_blanks_23 : decode cX12_blanks 23 = .ok (.goto (-23), 3) := by decide +kernel
theorem dX12_blanks_26 : decode cX12_blanks 26 = .ok (.return_, 1) := by decide +kernel
theorem dX12_wrong_0 : decode cX12_wrong 0 = .ok (.aload_n 0, 1) := by decide +kernel
theorem dX12_wrong_1 : decode cX12_wrong 1 = .ok (.getfield 110, 3) := by decide +kernel
theorem dX12_wrong_4 : decode cX12_wrong 4 = .ok (.ifCond .ne 13, 3) := by decide +kernel
theorem dX12_wrong_7 : decode cX12_wrong 7 = .ok (.aload_n 0, 1) := by decide +kernel
theorem dX12_wrong_8 : decode cX12_wrong 8 = .ok (.iload_n 1, 1) := by decide +kernel
theorem dX12_wrong_9 : decode cX12_wrong 9 = .ok (.putfield 110, 3) := by decide +kernel
theorem dX12_wrong_12 : decode cX12_wrong 12 = .ok (.aload_n 0, 1) := by decide +kernel
theorem dX12_wrong_13 : decode cX12_wrong 13 = .ok (.iload_n 2, 1) := by decide +kernel
theorem dX12_wrong_14 : decode cX12_wrong 14 = .ok (.putfield 113, 3) := by decide +kernel
theorem dX12_wrong_17 : decode cX12_wrong 17 = .ok (.return_, 1) := by decide +kernel
theorem dX12_isDigit_0 : decode cX12_isDigit 0 = .ok (.iload_n 0, 1) := by decide +kernel
theorem dX12_isDigit_1 : decode cX12_isDigit 1 = .ok (.bipush 48, 2) := by decide +kernel
theorem dX12_isDigit_3 : decode cX12_isDigit 3 = .ok (.if_icmp .lt 13, 3) := by decide +kernel
theorem dX12_isDigit_6 : decode cX12_isDigit 6 = .ok (.iload_n 0, 1) := by decide +kernel
theorem dX12_isDigit_7 : decode cX12_isDigit 7 = .ok (.bipush 57, 2) := by decide +kernel
theorem dX12_isDigit_9 : decode cX12_isDigit 9 = .ok (.if_icmp .gt 7, 3) := by decide +kernel
theorem dX12_isDigit_12 : decode cX12_isDigit 12 = .ok (.iconst 1, 1) := by decide +kernel
theorem dX12_isDigit_13 : decode cX12_isDigit 13 = .ok (.goto 4, 3) := by decide +kernel
theorem dX12_isDigit_16 : decode cX12_isDigit 16 = .ok (.iconst 0, 1) := by decide +kernel
theorem dX12_isDigit_17 : decode cX12_isDigit 17 = .ok (.ireturn, 1) := by decide +kernel
theorem dX12_isSmall_0 : decode cX12_isSmall 0 = .ok (.iload_n 0, 1) := by decide +kernel
theorem dX12_isSmall_1 : decode cX12_isSmall 1 = .ok (.bipush 97, 2) := by decide +kernel
theorem dX12_isSmall_3 : decode cX12_isSmall 3 = .ok (.if_icmp .lt 13, 3) := by decide +kernel
theorem dX12_isSmall_6 : decode cX12_isSmall 6 = .ok (.iload_n 0, 1) := by decide +kernel
theorem dX12_isSmall_7 : decode cX12_isSmall 7 = .ok (.bipush 122, 2) := by decide +kernel
theorem dX12_isSmall_9 : decode cX12_isSmall 9 = .ok (.if_icmp .gt 7, 3) := by decide +kernel
theorem dX12_isSmall_12 : decode cX12_isSmall 12 = .ok (.iconst 1, 1) := by decide +kernel
theorem dX12_isSmall_13 : decode cX12_isSmall 13 = .ok (.goto 4, 3) := by decide +kernel
theorem dX12_isSmall_16 : decode cX12_isSmall 16 = .ok (.iconst 0, 1) := by decide +kernel
theorem dX12_isSmall_17 : decode cX12_isSmall 17 = .ok (.ireturn, 1) := by decide +kernel
theorem dX12_number_0 : decode cX12_number 0 = .ok (.aload_n 0, 1) := by decide +kernel
theorem dX12_number_1 : decode cX12_number 1 = .ok (.getfield 110, 3) := by decide +kernel
theorem dX12_number_4 : decode cX12_number 4 = .ok (.ifCond .eq 5, 3) := by decide +kernel
theorem dX12_number_7 : decode cX12_number 7 = .ok (.iconst 0, 1) := by decide +kernel
theorem dX12_number_8 : decode cX12_number 8 = .ok (.ireturn, 1) := by decide +kernel
theorem dX12_number_9 : decode cX12_number 9 = .ok (.aload_n 0, 1) := by decide +kernel
theorem dX12_number_10 : decode cX12_number 10 = .ok (.invokevirtual 116, 3) := by decide +kernel
theorem dX12_number_13 : decode cX12_number 13 = .ok (.aload_n 0, 1) := by decide +kernel
theorem dX12_number_14 : decode cX12_number 14 = .ok (.getfield 103, 3) := by decide +kernel
theorem dX12_number_17 : decode cX12_number 17 = .ok (.istore_n 3, 1) := by decide +kernel
theorem dX12_number_18 : decode cX12_number 18 = .ok (.iconst 0, 1) := by decide +kernel
theorem dX12_number_19 : decode cX12_number 19 = .ok (.istore 4, 2) := by decide +kernel
theorem dX12_number_21 : decode cX12_number 21 = .ok (.aload_n 0, 1) := by decide +kernel
theorem dX12_number_22 : decode cX12_number 22 = .ok (.aload_n 0, 1) := by decide +kernel
theorem dX12_number_23 : decode cX12_number 23 = .ok (.getfield 103, 3) := by decide +kernel
theorem dX12_number_26 : decode cX12_number 26 = .ok (.invokevirtual 106, 3) := by decide +kernel
theorem dX12_number_29 : decode cX12_number 29 = .ok (.invokestatic 119, 3) := by decide +kernel
theorem dX12_number_32 : decode cX12_number 32 = .ok (.ifCond .ne 12, 3) := by decide +kernel
theorem dX12_number_35 : decode cX12_number 35 = .ok (.aload_n 0, 1) := by decide +kernel
theorem dX12_number_36 : decode cX12_number 36 = .ok (.iconst 1, 1) := by decide +kernel
theorem dX12_number_37 : decode cX12_number 37 = .ok (.aload_n 0, 1) := by decide +kernel
theorem dX12_number_38 : decode cX12_number 38 = .ok (.getfield 103, 3) := by decide +kernel
theorem dX12_number_41 : decode cX12_number 41 = .ok (.invokevirtual 123, 3) := by decide +kernel
theorem dX12_number_44 : decode cX12_number 44 = .ok (.aload_n 0, 1) := by decide +kernel
theorem dX12_number_45 : decode cX12_number 45 = .ok (.aload_n 0, 1) := by decide +kernel
theorem dX12_number_46 : decode cX12_number 46 = .ok (.getfield 103, 3) := by decide +kernel
theorem dX12_number_49 : decode cX12_number 49 = .ok (.invokevirtual 106, 3) := by decide +kernel
theorem dX12_number_52 : decode cX12_number 52 = .ok (.invokestatic 119, 3) := by decide +kernel
theorem dX12_number_55 : decode cX12_number 55 = .ok (.ifCond .eq 51, 3) := by decide +kernel
theorem dX12_number_58 : decode cX12_number 58 = .ok (.bipush 10, 2) := by decide +kernel
theorem dX12_number_60 : decode cX12_number 60 = .ok (.iload 4, 2) := by decide +kernel
theorem dX12_number_62 : decode cX12_number 62 = .ok (.imul, 1) := by decide +kernel
theorem dX12_number_63 : decode cX12_number 63 = .ok (.aload_n 0, 1) := by decide +kernel
theorem dX12_number_64 : decode cX12_number 64 = .ok (.aload_n 0, 1) := by decide +kernel
theorem dX12_number_65 : decode cX12_number 65 = .ok (.getfield 103, 3) := by decide +kernel
theorem dX12_number_68 : decode cX12_number 68 = .ok (.invokevirtual 106, 3) := by decide +kernel
theorem dX12_number_71 : decode cX12_number 71 = .ok (.iadd, 1) := by decide +kernel
theorem dX12_number_72 : decode cX12_number 72 = .ok (.bipush 48, 2) := by decide +kernel
theorem dX12_number_74 : decode cX12_number 74 = .ok (.isub, 1) := by decide +kernel
theorem dX12_number_75 : decode cX12_number 75 = .ok (.istore 4, 2) := by decide +kernel
theorem dX12_number_77 : decode cX12_number 77 = .ok (.iload 4, 2) := by decide +kernel
theorem dX12_number_79 : decode cX12_number 79 = .ok (.ldc 127, 2) := by decide +kernel
theorem dX12_number_81 : decode cX12_number 81 = .ok (.if_icmp .le 8, 3) := by decide +kernel
theorem dX12_number_84 : decode cX12_number 84 = .ok (.ldc 127, 2) := by decide +kernel
theorem dX12_number_86 : decode cX12_number 86 = .ok (.goto 5, 3) := by decide +kernel
theorem dX12_number_89 : decode cX12_number 89 = .ok (.iload 4, 2) := by decide +kernel
theorem dX12_number_91 : decode cX12_number 91 = .ok (.istore 4, 2) := by decide +kernel
theorem dX12_number_93 : decode cX12_number 93 = .ok (.aload_n 0, 1) := by decide +kernel
theorem dX12_number_94 : decode cX12_number 94 = .ok (.dup, 1) := by decide +kernel
theorem dX12_number_95 : decode cX12_number 95 = .ok (.getfield 103, 3) := by decide +kernel
theorem dX12_number_98 : decode cX12_number 98 = .ok (.iconst 1, 1) := by decide +kernel
theorem dX12_number_99 : decode cX12_number 99 = .ok (.iadd, 1) := by decide +kernel
theorem dX12_number_100 : decode cX12_number 100 = .ok (.putfield 103, 3) := by decide +kernel
theorem dX12_number_103 : decode cX12_number 103 = .ok (.goto (-59), 3) := by decide +kernel
theorem dX12_number_106 : decode cX12_number 106 = .ok (.iload 4, 2) := by decide +kernel
theorem dX12_number_108 : decode cX12_number 108 = .ok (.iload_n 1, 1) := by decide +kernel
theorem dX12_number_109 : decode cX12_number 109 = .ok (.iload_n 2, 1) := by decide +kernel
theorem dX12_number_110 : decode cX12_number 110 = .ok (.invokestatic 128, 3) := by decide +kernel
theorem dX12_number_113 : decode cX12_number 113 = .ok (.ifCond .ne 9, 3) := by decide +kernel
theorem dX12_number_116 : decode cX12_number 116 = .ok (.aload_n 0, 1) := by decide +kernel
theorem dX12_number_117 : decode cX12_number 117 = .ok (.iconst 2, 1) := by decide +kernel
theorem dX12_number_118 : decode cX12_number 118 = .ok (.iload_n 3, 1) := by decide +kernel
theorem dX12_number_119 : decode cX12_number 119 = .ok (.invokevirtual 123, 3) := by decide +kernel
theorem dX12_number_122 : decode cX12_number 122 = .ok (.aload_n 0, 1) := by decide +kernel
theorem dX12_number_123 : decode cX12_number 123 = .ok (.getfield 110, 3) := by decide +kernel
theorem dX12_number_126 : decode cX12_number 126 = .ok (.ifCond .ne 8, 3) := by decide +kernel
theorem dX12_number_129 : decode cX12_number 129 = .ok (.iload 4, 2) := by decide +kernel
theorem dX12_number_131 : decode cX12_number 131 = .ok (.goto 4, 3) := by decide +kernel
theorem dX12_number_134 : decode cX12_number 134 = .ok (.iconst 0, 1) := by decide +kernel
theorem dX12_number_135 : decode cX12_number 135 = .ok (.ireturn, 1) := by decide +kernel
theorem dX12_wordHere_0 : decode cX12_wordHere 0 = .ok (.aload_n 0, 1) := by decide +kernel
theorem dX12_wordHere_1 : decode cX12_wordHere 1 = .ok (.invokevirtual 116, 3) := by decide +kernel
theorem dX12_wordHere_4 : decode cX12_wordHere 4 = .ok (.iconst 0, 1) := by decide +kernel
theorem dX12_wordHere_5 : decode cX12_wordHere 5 = .ok (.istore_n 1, 1) := by decide +kernel
theorem dX12_wordHere_6 : decode cX12_wordHere 6 = .ok (.iconst 0, 1) := by decide +kernel
theorem dX12_wordHere_7 : decode cX12_wordHere 7 = .ok (.istore_n 2, 1) := by decide +kernel
theorem dX12_wordHere_8 : decode cX12_wordHere 8 = .ok (.aload_n 0, 1) := by decide +kernel
theorem dX12_wordHere_9 : decode cX12_wordHere 9 = .ok (.aload_n 0, 1) := by decide +kernel
theorem dX12_wordHere_10 : decode cX12_wordHere 10 = .ok (.getfield 103, 3) := by decide +kernel
theorem dX12_wordHere_13 : decode cX12_wordHere 13 = .ok (.iload_n 2, 1) := by decide +kernel
theorem dX12_wordHere_14 : decode cX12_wordHere 14 = .ok (.iadd, 1) := by decide +kernel
theorem dX12_wordHere_15 : decode cX12_wordHere 15 = .ok (.invokevirtual 106, 3) := by decide +kernel
theorem dX12_wordHere_18 : decode cX12_wordHere 18 = .ok (.invokestatic 132, 3) := by decide +kernel
theorem dX12_wordHere_21 : decode cX12_wordHere 21 = .ok (.ifCond .eq 40, 3) := by decide +kernel
theorem dX12_wordHere_24 : decode cX12_wordHere 24 = .ok (.iload_n 2, 1) := by decide +kernel
theorem dX12_wordHere_25 : decode cX12_wordHere 25 = .ok (.bipush 6, 2) := by decide +kernel
theorem dX12_wordHere_27 : decode cX12_wordHere 27 = .ok (.if_icmp .ge 26, 3) := by decide +kernel
theorem dX12_wordHere_30 : decode cX12_wordHere 30 = .ok (.bipush 27, 2) := by decide +kernel
theorem dX12_wordHere_32 : decode cX12_wordHere 32 = .ok (.iload_n 1, 1) := by decide +kernel
theorem dX12_wordHere_33 : decode cX12_wordHere 33 = .ok (.imul, 1) := by decide +kernel
theorem dX12_wordHere_34 : decode cX12_wordHere 34 = .ok (.aload_n 0, 1) := by decide +kernel
theorem dX12_wordHere_35 : decode cX12_wordHere 35 = .ok (.aload_n 0, 1) := by decide +kernel
theorem dX12_wordHere_36 : decode cX12_wordHere 36 = .ok (.getfield 103, 3) := by decide +kernel
theorem dX12_wordHere_39 : decode cX12_wordHere 39 = .ok (.iload_n 2, 1) := by decide +kernel
theorem dX12_wordHere_40 : decode cX12_wordHere 40 = .ok (.iadd, 1) := by decide +kernel
theorem dX12_wordHere_41 : decode cX12_wordHere 41 = .ok (.invokevirtual 106, 3) := by decide +kernel
theorem dX12_wordHere_44 : decode cX12_wordHere 44 = .ok (.iadd, 1) := by decide +kernel
theorem dX12_wordHere_45 : decode cX12_wordHere 45 = .ok (.bipush 97, 2) := by decide +kernel
theorem dX12_wordHere_47 : decode cX12_wordHere 47 = .ok (.isub, 1) := by decide +kernel
theorem dX12_wordHere_48 : decode cX12_wordHere 48 = .ok (.iconst 1, 1) := by decide +kernel
theorem dX12_wordHere_49 : decode cX12_wordHere 49 = .ok (.iadd, 1) := by decide +kernel
theorem dX12_wordHere_50 : decode cX12_wordHere 50 = .ok (.goto 4, 3) := by decide +kernel
theorem dX12_wordHere_53 : decode cX12_wordHere 53 = .ok (.iload_n 1, 1) := by decide +kernel
theorem dX12_wordHere_54 : decode cX12_wordHere 54 = .ok (.istore_n 1, 1) := by decide +kernel
theorem dX12_wordHere_55 : decode cX12_wordHere 55 = .ok (.iinc 2 1, 3) := by decide +kernel
theorem dX12_wordHere_58 : decode cX12_wordHere 58 = .ok (.goto (-50), 3) := by decide +kernel
theorem dX12_wordHere_61 : decode cX12_wordHere 61 = .ok (.iload_n 2, 1) := by decide +kernel
theorem dX12_wordHere_62 : decode cX12_wordHere 62 = .ok (.bipush 6, 2) := by decide +kernel
theorem dX12_wordHere_64 : decode cX12_wordHere 64 = .ok (.if_icmp .le 7, 3) := by decide +kernel
theorem dX12_wordHere_67 : decode cX12_wordHere 67 = .ok (.iconst (-1), 1) := by decide +kernel
theorem dX12_wordHere_68 : decode cX12_wordHere 68 = .ok (.goto 4, 3) := by decide +kernel
theorem dX12_wordHere_71 : decode cX12_wordHere 71 = .ok (.iload_n 1, 1) := by decide +kernel
theorem dX12_wordHere_72 : decode cX12_wordHere 72 = .ok (.ireturn, 1) := by decide +kernel
theorem dX12_six_0 : decode cX12_six 0 = .ok (.bipush 27, 2) := by decide +kernel
theorem dX12_six_2 : decode cX12_six 2 = .ok (.bipush 27, 2) := by decide +kernel
theorem dX12_six_4 : decode cX12_six 4 = .ok (.iload_n 0, 1) := by decide +kernel
theorem dX12_six_5 : decode cX12_six 5 = .ok (.imul, 1) := by decide +kernel
theorem dX12_six_6 : decode cX12_six 6 = .ok (.iload_n 1, 1) := by decide +kernel
theorem dX12_six_7 : decode cX12_six 7 = .ok (.iadd, 1) := by decide +kernel
theorem dX12_six_8 : decode cX12_six 8 = .ok (.imul, 1) := by decide +kernel
theorem dX12_six_9 : decode cX12_six 9 = .ok (.iload_n 2, 1) := by decide +kernel
theorem dX12_six_10 : decode cX12_six 10 = .ok (.iadd, 1) := by decide +kernel
theorem dX12_six_11 : decode cX12_six 11 = .ok (.istore 6, 2) := by decide +kernel
theorem dX12_six_13 : decode cX12_six 13 = .ok (.iload_n 3, 1) := by decide +kernel
theorem dX12_six_14 : decode cX12_six 14 = .ok (.ifCond .ne 8, 3) := by decide +kernel
theorem dX12_six_17 : decode cX12_six 17 = .ok (.iload 6, 2) := by decide +kernel
theorem dX12_six_19 : decode cX12_six 19 = .ok (.goto 10, 3) := by decide +kernel
theorem dX12_six_22 : decode cX12_six 22 = .ok (.bipush 27, 2) := by decide +kernel
theorem dX12_six_24 : decode cX12_six 24 = .ok (.iload 6, 2) := by decide +kernel
theorem dX12_six_26 : decode cX12_six 26 = .ok (.imul, 1) := by decide +kernel
theorem dX12_six_27 : decode cX12_six 27 = .ok (.iload_n 3, 1) := by decide +kernel
theorem dX12_six_28 : decode cX12_six 28 = .ok (.iadd, 1) := by decide +kernel
theorem dX12_six_29 : decode cX12_six 29 = .ok (.istore 6, 2) := by decide +kernel
theorem dX12_six_31 : decode cX12_six 31 = .ok (.iload 4, 2) := by decide +kernel
theorem dX12_six_33 : decode cX12_six 33 = .ok (.ifCond .ne 8, 3) := by decide +kernel
theorem dX12_six_36 : decode cX12_six 36 = .ok (.iload 6, 2) := by decide +kernel
theorem dX12_six_38 : decode cX12_six 38 = .ok (.goto 11, 3) := by decide +kernel
theorem dX12_six_41 : decode cX12_six 41 = .ok (.bipush 27, 2) := by decide +kernel
theorem dX12_six_43 : decode cX12_six 43 = .ok (.iload 6, 2) := by decide +kernel
theorem dX12_six_45 : decode cX12_six 45 = .ok (.imul, 1) := by decide +kernel
theorem dX12_six_46 : decode cX12_six 46 = .ok (.iload 4, 2) := by decide +kernel
theorem dX12_six_48 : decode cX12_six 48 = .ok (.iadd, 1) := by decide +kernel
theorem dX12_six_49 : decode cX12_six 49 = .ok (.istore 6, 2) := by decide +kernel
theorem dX12_six_51 : decode cX12_six 51 = .ok (.iload 5, 2) := by decide +kernel
theorem dX12_six_53 : decode cX12_six 53 = .ok (.ifCond .ne 8, 3) := by decide +kernel
theorem dX12_six_56 : decode cX12_six 56 = .ok (.iload 6, 2) := by decide +kernel
theorem dX12_six_58 : decode cX12_six 58 = .ok (.goto 11, 3) := by decide +kernel
theorem dX12_six_61 : decode cX12_six 61 = .ok (.bipush 27, 2) := by decide +kernel
theorem dX12_six_63 : decode cX12_six 63 = .ok (.iload 6, 2) := by decide +kernel
theorem dX12_six_65 : decode cX12_six 65 = .ok (.imul, 1) := by decide +kernel
theorem dX12_six_66 : decode cX12_six 66 = .ok (.iload 5, 2) := by decide +kernel
theorem dX12_six_68 : decode cX12_six 68 = .ok (.iadd, 1) := by decide +kernel
theorem dX12_six_69 : decode cX12_six 69 = .ok (.ireturn, 1) := by decide +kernel
theorem dX12_isWord_0 : decode cX12_isWord 0 = .ok (.aload_n 0, 1) := by decide +kernel
theorem dX12_isWord_1 : decode cX12_isWord 1 = .ok (.getfield 110, 3) := by decide +kernel
theorem dX12_isWord_4 : decode cX12_isWord 4 = .ok (.ifCond .ne 26, 3) := by decide +kernel
theorem dX12_isWord_7 : decode cX12_isWord 7 = .ok (.aload_n 0, 1) := by decide +kernel
theorem dX12_isWord_8 : decode cX12_isWord 8 = .ok (.invokevirtual 135, 3) := by decide +kernel
theorem dX12_isWord_11 : decode cX12_isWord 11 = .ok (.iload_n 1, 1) := by decide +kernel
theorem dX12_isWord_12 : decode cX12_isWord 12 = .ok (.iload_n 2, 1) := by decide +kernel
theorem dX12_isWord_13 : decode cX12_isWord 13 = .ok (.iload_n 3, 1) := by decide +kernel
theorem dX12_isWord_14 : decode cX12_isWord 14 = .ok (.iload 4, 2) := by decide +kernel
theorem dX12_isWord_16 : decode cX12_isWord 16 = .ok (.iload 5, 2) := by decide +kernel
theorem dX12_isWord_18 : decode cX12_isWord 18 = .ok (.iload 6, 2) := by decide +kernel
theorem dX12_isWord_20 : decode cX12_isWord 20 = .ok (.invokestatic 139, 3) := by decide +kernel
theorem dX12_isWord_23 : decode cX12_isWord 23 = .ok (.if_icmp .ne 7, 3) := by decide +kernel
theorem dX12_isWord_26 : decode cX12_isWord 26 = .ok (.iconst 1, 1) := by decide +kernel
theorem dX12_isWord_27 : decode cX12_isWord 27 = .ok (.goto 4, 3) := by decide +kernel
theorem dX12_isWord_30 : decode cX12_isWord 30 = .ok (.iconst 0, 1) := by decide +kernel
theorem dX12_isWord_31 : decode cX12_isWord 31 = .ok (.ireturn, 1) := by decide +kernel
theorem dX12_skipWord_0 : decode cX12_skipWord 0 = .ok (.aload_n 0, 1) := by decide +kernel
theorem dX12_skipWord_1 : decode cX12_skipWord 1 = .ok (.aload_n 0, 1) := by decide +kernel
theorem dX12_skipWord_2 : decode cX12_skipWord 2 = .ok (.getfield 103, 3) := by decide +kernel
theorem dX12_skipWord_5 : decode cX12_skipWord 5 = .ok (.invokevirtual 106, 3) := by decide +kernel
theorem dX12_skipWord_8 : decode cX12_skipWord 8 = .ok (.invokestatic 132, 3) := by decide +kernel
theorem dX12_skipWord_11 : decode cX12_skipWord 11 = .ok (.ifCond .eq 16, 3) := by decide +kernel
theorem dX12_skipWord_14 : decode cX12_skipWord 14 = .ok (.aload_n 0, 1) := by decide +kernel
theorem dX12_skipWord_15 : decode cX12_skipWord 15 = .ok (.dup, 1) := by decide +kernel
theorem dX12_skipWord_16 : decode cX12_skipWord 16 = .ok (.getfield 103, 3) := by decide +kernel
theorem dX12_skipWord_19 : decode cX12_skipWord 19 = .ok (.iconst 1, 1) := by decide +kernel
theorem dX12_skipWord_20 : decode cX12_skipWord 20 = .ok (.iadd, 1) := by decide +kernel
theorem dX12_skipWord_21 : decode cX12_skipWord 21 = .ok (.putfield 103, 3) := by decide +kernel
theorem dX12_skipWord_24 : decode cX12_skipWord 24 = .ok (.goto (-24), 3) := by decide +kernel
theorem dX12_skipWord_27 : decode cX12_skipWord 27 = .ok (.return_, 1) := by decide +kernel
theorem dX12_takes_0 : decode cX12_takes 0 = .ok (.aload_n 0, 1) := by decide +kernel
theorem dX12_takes_1 : decode cX12_takes 1 = .ok (.iload_n 1, 1) := by decide +kernel
theorem dX12_takes_2 : decode cX12_takes 2 = .ok (.iload_n 2, 1) := by decide +kernel
theorem dX12_takes_3 : decode cX12_takes 3 = .ok (.iload_n 3, 1) := by decide +kernel
theorem dX12_takes_4 : decode cX12_takes 4 = .ok (.iload 4, 2) := by decide +kernel
theorem dX12_takes_6 : decode cX12_takes 6 = .ok (.iload 5, 2) := by decide +kernel
theorem dX12_takes_8 : decode cX12_takes 8 = .ok (.iload 6, 2) := by decide +kernel
theorem dX12_takes_10 : decode cX12_takes 10 = .ok (.invokevirtual 143, 3) := by decide +kernel
theorem dX12_takes_13 : decode cX12_takes 13 = .ok (.istore 7, 2) := by decide +kernel
theorem dX12_takes_15 : decode cX12_takes 15 = .ok (.iload 7, 2) := by decide +kernel
theorem dX12_takes_17 : decode cX12_takes 17 = .ok (.ifCond .eq 7, 3) := by decide +kernel
theorem dX12_takes_20 : decode cX12_takes 20 = .ok (.aload_n 0, 1) := by decide +kernel
theorem dX12_takes_21 : decode cX12_takes 21 = .ok (.invokevirtual 147, 3) := by decide +kernel
theorem dX12_takes_24 : decode cX12_takes 24 = .ok (.iload 7, 2) := by decide +kernel
theorem dX12_takes_26 : decode cX12_takes 26 = .ok (.ireturn, 1) := by decide +kernel
theorem dX12_sign_0 : decode cX12_sign 0 = .ok (.aload_n 0, 1) := by decide +kernel
theorem dX12_sign_1 : decode cX12_sign 1 = .ok (.getfield 110, 3) := by decide +kernel
theorem dX12_sign_4 : decode cX12_sign 4 = .ok (.ifCond .eq 4, 3) := by decide +kernel
theorem dX12_sign_7 : decode cX12_sign 7 = .ok (.return_, 1) := by decide +kernel
theorem dX12_sign_8 : decode cX12_sign 8 = .ok (.aload_n 0, 1) := by decide +kernel
theorem dX12_sign_9 : decode cX12_sign 9 = .ok (.invokevirtual 116, 3) := by decide +kernel
theorem dX12_sign_12 : decode cX12_sign 12 = .ok (.aload_n 0, 1) := by decide +kernel
theorem dX12_sign_13 : decode cX12_sign 13 = .ok (.aload_n 0, 1) := by decide +kernel
theorem dX12_sign_14 : decode cX12_sign 14 = .ok (.getfield 103, 3) := by decide +kernel
theorem dX12_sign_17 : decode cX12_sign 17 = .ok (.invokevirtual 106, 3) := by decide +kernel
theorem dX12_sign_20 : decode cX12_sign 20 = .ok (.iload_n 1, 1) := by decide +kernel
theorem dX12_sign_21 : decode cX12_sign 21 = .ok (.if_icmp .ne 16, 3) := by decide +kernel
theorem dX12_sign_24 : decode cX12_sign 24 = .ok (.aload_n 0, 1) := by decide +kernel
theorem dX12_sign_25 : decode cX12_sign 25 = .ok (.dup, 1) := by decide +kernel
theorem dX12_sign_26 : decode cX12_sign 26 = .ok (.getfield 103, 3) := by decide +kernel
theorem dX12_sign_29 : decode cX12_sign 29 = .ok (.iconst 1, 1) := by decide +kernel
theorem dX12_sign_30 : decode cX12_sign 30 = .ok (.iadd, 1) := by decide +kernel
theorem dX12_sign_31 : decode cX12_sign 31 = .ok (.putfield 103, 3) := by decide +kernel
theorem dX12_sign_34 : decode cX12_sign 34 = .ok (.goto 12, 3) := by decide +kernel
theorem dX12_sign_37 : decode cX12_sign 37 = .ok (.aload_n 0, 1) := by decide +kernel
theorem dX12_sign_38 : decode cX12_sign 38 = .ok (.iconst 1, 1) := by decide +kernel
theorem dX12_sign_39 : decode cX12_sign 39 = .ok (.aload_n 0, 1) := by decide +kernel
theorem dX12_sign_40 : decode cX12_sign 40 = .ok (.getfield 103, 3) := by decide +kernel
theorem dX12_sign_43 : decode cX12_sign 43 = .ok (.invokevirtual 123, 3) := by decide +kernel
theorem dX12_sign_46 : decode cX12_sign 46 = .ok (.return_, 1) := by decide +kernel
theorem dX12_takesSign_0 : decode cX12_takesSign 0 = .ok (.aload_n 0, 1) := by decide +kernel
theorem dX12_takesSign_1 : decode cX12_takesSign 1 = .ok (.getfield 110, 3) := by decide +kernel
theorem dX12_takesSign_4 : decode cX12_takesSign 4 = .ok (.ifCond .eq 5, 3) := by decide +kernel
theorem dX12_takesSign_7 : decode cX12_takesSign 7 = .ok (.iconst 0, 1) := by decide +kernel
theorem dX12_takesSign_8 : decode cX12_takesSign 8 = .ok (.ireturn, 1) := by decide +kernel
theorem dX12_takesSign_9 : decode cX12_takesSign 9 = .ok (.aload_n 0, 1) := by decide +kernel
theorem dX12_takesSign_10 : decode cX12_takesSign 10 = .ok (.invokevirtual 116, 3) := by decide +kernel
theorem dX12_takesSign_13 : decode cX12_takesSign 13 = .ok (.aload_n 0, 1) := by decide +kernel
theorem dX12_takesSign_14 : decode cX12_takesSign 14 = .ok (.aload_n 0, 1) := by decide +kernel
theorem dX12_takesSign_15 : decode cX12_takesSign 15 = .ok (.getfield 103, 3) := by decide +kernel
theorem dX12_takesSign_18 : decode cX12_takesSign 18 = .ok (.invokevirtual 106, 3) := by decide +kernel
theorem dX12_takesSign_21 : decode cX12_takesSign 21 = .ok (.iload_n 1, 1) := by decide +kernel
theorem dX12_takesSign_22 : decode cX12_takesSign 22 = .ok (.if_icmp .ne 7, 3) := by decide +kernel
theorem dX12_takesSign_25 : decode cX12_takesSign 25 = .ok (.iconst 1, 1) := by decide +kernel
theorem dX12_takesSign_26 : decode cX12_takesSign 26 = .ok (.goto 4, 3) := by decide +kernel
theorem dX12_takesSign_29 : decode cX12_takesSign 29 = .ok (.iconst 0, 1) := by decide +kernel
theorem dX12_takesSign_30 : decode cX12_takesSign 30 = .ok (.istore_n 2, 1) := by decide +kernel
theorem dX12_takesSign_31 : decode cX12_takesSign 31 = .ok (.iload_n 2, 1) := by decide +kernel
theorem dX12_takesSign_32 : decode cX12_takesSign 32 = .ok (.ifCond .eq 13, 3) := by decide +kernel
theorem dX12_takesSign_35 : decode cX12_takesSign 35 = .ok (.aload_n 0, 1) := by decide +kernel
theorem dX12_takesSign_36 : decode cX12_takesSign 36 = .ok (.dup, 1) := by decide +kernel
theorem dX12_takesSign_37 : decode cX12_takesSign 37 = .ok (.getfield 103, 3) := by decide +kernel
theorem dX12_takesSign_40 : decode cX12_takesSign 40 = .ok (.iconst 1, 1) := by decide +kernel
theorem dX12_takesSign_41 : decode cX12_takesSign 41 = .ok (.iadd, 1) := by decide +kernel
theorem dX12_takesSign_42 : decode cX12_takesSign 42 = .ok (.putfield 103, 3) := by decide +kernel
theorem dX12_takesSign_45 : decode cX12_takesSign 45 = .ok (.iload_n 2, 1) := by decide +kernel
theorem dX12_takesSign_46 : decode cX12_takesSign 46 = .ok (.ireturn, 1) := by decide +kernel
theorem dX12_starts_0 : decode cX12_starts 0 = .ok (.aload_n 0, 1) := by decide +kernel
theorem dX12_starts_1 : decode cX12_starts 1 = .ok (.iconst 0, 1) := by decide +kernel
theorem dX12_starts_2 : decode cX12_starts 2 = .ok (.putfield 97, 3) := by decide +kernel
theorem dX12_starts_5 : decode cX12_starts 5 = .ok (.aload_n 0, 1) := by decide +kernel
theorem dX12_starts_6 : decode cX12_starts 6 = .ok (.iload_n 1, 1) := by decide +kernel
theorem dX12_starts_7 : decode cX12_starts 7 = .ok (.putfield 100, 3) := by decide +kernel
theorem dX12_starts_10 : decode cX12_starts 10 = .ok (.aload_n 0, 1) := by decide +kernel
theorem dX12_starts_11 : decode cX12_starts 11 = .ok (.iconst 0, 1) := by decide +kernel
theorem dX12_starts_12 : decode cX12_starts 12 = .ok (.putfield 103, 3) := by decide +kernel
theorem dX12_starts_15 : decode cX12_starts 15 = .ok (.aload_n 0, 1) := by decide +kernel
theorem dX12_starts_16 : decode cX12_starts 16 = .ok (.iconst 0, 1) := by decide +kernel
theorem dX12_starts_17 : decode cX12_starts 17 = .ok (.putfield 110, 3) := by decide +kernel
theorem dX12_starts_20 : decode cX12_starts 20 = .ok (.aload_n 0, 1) := by decide +kernel
theorem dX12_starts_21 : decode cX12_starts 21 = .ok (.iconst (-1), 1) := by decide +kernel
theorem dX12_starts_22 : decode cX12_starts 22 = .ok (.putfield 113, 3) := by decide +kernel
theorem dX12_starts_25 : decode cX12_starts 25 = .ok (.aload_n 0, 1) := by decide +kernel
theorem dX12_starts_26 : decode cX12_starts 26 = .ok (.iconst 0, 1) := by decide +kernel
theorem dX12_starts_27 : decode cX12_starts 27 = .ok (.putfield 150, 3) := by decide +kernel
theorem dX12_starts_30 : decode cX12_starts 30 = .ok (.aload_n 0, 1) := by decide +kernel
theorem dX12_starts_31 : decode cX12_starts 31 = .ok (.iconst 0, 1) := by decide +kernel
theorem dX12_starts_32 : decode cX12_starts 32 = .ok (.putfield 153, 3) := by decide +kernel
theorem dX12_starts_35 : decode cX12_starts 35 = .ok (.aload_n 0, 1) := by decide +kernel
theorem dX12_starts_36 : decode cX12_starts 36 = .ok (.invokevirtual 116, 3) := by decide +kernel
theorem dX12_starts_39 : decode cX12_starts 39 = .ok (.return_, 1) := by decide +kernel
theorem dX12_ends_0 : decode cX12_ends 0 = .ok (.aload_n 0, 1) := by decide +kernel
theorem dX12_ends_1 : decode cX12_ends 1 = .ok (.aload_n 0, 1) := by decide +kernel
theorem dX12_ends_2 : decode cX12_ends 2 = .ok (.getfield 113, 3) := by decide +kernel
theorem dX12_ends_5 : decode cX12_ends 5 = .ok (.putfield 9, 3) := by decide +kernel
theorem dX12_ends_8 : decode cX12_ends 8 = .ok (.aload_n 0, 1) := by decide +kernel
theorem dX12_ends_9 : decode cX12_ends 9 = .ok (.getfield 110, 3) := by decide +kernel
theorem dX12_ends_12 : decode cX12_ends 12 = .ok (.bipush 10, 2) := by decide +kernel
theorem dX12_ends_14 : decode cX12_ends 14 = .ok (.isub, 1) := by decide +kernel
theorem dX12_ends_15 : decode cX12_ends 15 = .ok (.ireturn, 1) := by decide +kernel
theorem dX12_kindHere_0 : decode cX12_kindHere 0 = .ok (.aload_n 0, 1) := by decide +kernel
theorem dX12_kindHere_1 : decode cX12_kindHere 1 = .ok (.bipush 16, 2) := by decide +kernel
theorem dX12_kindHere_3 : decode cX12_kindHere 3 = .ok (.iconst 5, 1) := by decide +kernel
theorem dX12_kindHere_4 : decode cX12_kindHere 4 = .ok (.bipush 18, 2) := by decide +kernel
theorem dX12_kindHere_6 : decode cX12_kindHere 6 = .ok (.bipush 19, 2) := by decide +kernel
theorem dX12_kindHere_8 : decode cX12_kindHere 8 = .ok (.bipush 15, 2) := by decide +kernel
theorem dX12_kindHere_10 : decode cX12_kindHere 10 = .ok (.bipush 14, 2) := by decide +kernel
theorem dX12_kindHere_12 : decode cX12_kindHere 12 = .ok (.invokevirtual 143, 3) := by decide +kernel
theorem dX12_kindHere_15 : decode cX12_kindHere 15 = .ok (.ifCond .eq 5, 3) := by decide +kernel
theorem dX12_kindHere_18 : decode cX12_kindHere 18 = .ok (.iconst 0, 1) := by decide +kernel
theorem dX12_kindHere_19 : decode cX12_kindHere 19 = .ok (.ireturn, 1) := by decide +kernel
theorem dX12_kindHere_20 : decode cX12_kindHere 20 = .ok (.aload_n 0, 1) := by decide +kernel
theorem dX12_kindHere_21 : decode cX12_kindHere 21 = .ok (.bipush 12, 2) := by decide +kernel
theorem dX12_kindHere_23 : decode cX12_kindHere 23 = .ok (.bipush 9, 2) := by decide +kernel
theorem dX12_kindHere_25 : decode cX12_kindHere 25 = .ok (.bipush 11, 2) := by decide +kernel
theorem dX12_kindHere_27 : decode cX12_kindHere 27 = .ok (.iconst 5, 1) := by decide +kernel
theorem dX12_kindHere_28 : decode cX12_kindHere 28 = .ok (.iconst 0, 1) := by decide +kernel
theorem dX12_kindHere_29 : decode cX12_kindHere 29 = .ok (.iconst 0, 1) := by decide +kernel
theorem dX12_kindHere_30 : decode cX12_kindHere 30 = .ok (.invokevirtual 143, 3) := by decide +kernel
theorem dX12_kindHere_33 : decode cX12_kindHere 33 = .ok (.ifCond .eq 5, 3) := by decide +kernel
theorem dX12_kindHere_36 : decode cX12_kindHere 36 = .ok (.iconst 1, 1) := by decide +kernel
theorem dX12_kindHere_37 : decode cX12_kindHere 37 = .ok (.ireturn, 1) := by decide +kernel
theorem dX12_kindHere_38 : decode cX12_kindHere 38 = .ok (.aload_n 0, 1) := by decide +kernel
theorem dX12_kindHere_39 : decode cX12_kindHere 39 = .ok (.bipush 19, 2) := by decide +kernel
theorem dX12_kindHere_41 : decode cX12_kindHere 41 = .ok (.bipush 8, 2) := by decide +kernel
theorem dX12_kindHere_43 : decode cX12_kindHere 43 = .ok (.bipush 25, 2) := by decide +kernel
theorem dX12_kindHere_45 : decode cX12_kindHere 45 = .ok (.iconst 0, 1) := by decide +kernel
theorem dX12_kindHere_46 : decode cX12_kindHere 46 = .ok (.iconst 0, 1) := by decide +kernel
theorem dX12_kindHere_47 : decode cX12_kindHere 47 = .ok (.iconst 0, 1) := by decide +kernel
theorem dX12_kindHere_48 : decode cX12_kindHere 48 = .ok (.invokevirtual 143, 3) := by decide +kernel
theorem dX12_kindHere_51 : decode cX12_kindHere 51 = .ok (.ifCond .eq 7, 3) := by decide +kernel
theorem dX12_kindHere_54 : decode cX12_kindHere 54 = .ok (.iconst 2, 1) := by decide +kernel
theorem dX12_kindHere_55 : decode cX12_kindHere 55 = .ok (.goto 4, 3) := by decide +kernel
theorem dX12_kindHere_58 : decode cX12_kindHere 58 = .ok (.iconst (-1), 1) := by decide +kernel
theorem dX12_kindHere_59 : decode cX12_kindHere 59 = .ok (.ireturn, 1) := by decide +kernel
theorem dX12_clause_0 : decode cX12_clause 0 = .ok (.aload_n 0, 1) := by decide +kernel
theorem dX12_clause_1 : decode cX12_clause 1 = .ok (.invokevirtual 156, 3) := by decide +kernel
theorem dX12_clause_4 : decode cX12_clause 4 = .ok (.istore_n 1, 1) := by decide +kernel
theorem dX12_clause_5 : decode cX12_clause 5 = .ok (.iload_n 1, 1) := by decide +kernel
theorem dX12_clause_6 : decode cX12_clause 6 = .ok (.iconst (-1), 1) := by decide +kernel
theorem dX12_clause_7 : decode cX12_clause 7 = .ok (.if_icmp .ne 15, 3) := by decide +kernel
theorem dX12_clause_10 : decode cX12_clause 10 = .ok (.aload_n 0, 1) := by decide +kernel
theorem dX12_clause_11 : decode cX12_clause 11 = .ok (.iconst 1, 1) := by decide +kernel
theorem dX12_clause_12 : decode cX12_clause 12 = .ok (.aload_n 0, 1) := by decide +kernel
theorem dX12_clause_13 : decode cX12_clause 13 = .ok (.getfield 103, 3) := by decide +kernel
theorem dX12_clause_16 : decode cX12_clause 16 = .ok (.invokevirtual 123, 3) := by decide +kernel
theorem dX12_clause_19 : decode cX12_clause 19 = .ok (.goto 36, 3) := by decide +kernel
theorem dX12_clause_22 : decode cX12_clause 22 = .ok (.aload_n 0, 1) := by decide +kernel
theorem dX12_clause_23 : decode cX12_clause 23 = .ok (.getfield 150, 3) := by decide +kernel
theorem dX12_clause_26 : decode cX12_clause 26 = .ok (.bipush 60, 2) := by decide +kernel
theorem dX12_clause_28 : decode cX12_clause 28 = .ok (.if_icmp .eq 18, 3) := by decide +kernel
theorem dX12_clause_31 : decode cX12_clause 31 = .ok (.iload_n 1, 1) := by decide +kernel
theorem dX12_clause_32 : decode cX12_clause 32 = .ok (.ifCond .ne 23, 3) := by decide +kernel
theorem dX12_clause_35 : decode cX12_clause 35 = .ok (.aload_n 0, 1) := by decide +kernel
theorem dX12_clause_36 : decode cX12_clause 36 = .ok (.getfield 20, 3) := by decide +kernel
theorem dX12_clause_39 : decode cX12_clause 39 = .ok (.iconst 0, 1) := by decide +kernel
theorem dX12_clause_40 : decode cX12_clause 40 = .ok (.iaload, 1) := by decide +kernel
theorem dX12_clause_41 : decode cX12_clause 41 = .ok (.bipush 8, 2) := by decide +kernel
theorem dX12_clause_43 : decode cX12_clause 43 = .ok (.if_icmp .ne 12, 3) := by decide +kernel
theorem dX12_clause_46 : decode cX12_clause 46 = .ok (.aload_n 0, 1) := by decide +kernel
theorem dX12_clause_47 : decode cX12_clause 47 = .ok (.iconst 3, 1) := by decide +kernel
theorem dX12_clause_48 : decode cX12_clause 48 = .ok (.aload_n 0, 1) := by decide +kernel
theorem dX12_clause_49 : decode cX12_clause 49 = .ok (.getfield 103, 3) := by decide +kernel
theorem dX12_clause_52 : decode cX12_clause 52 = .ok (.invokevirtual 123, 3) := by decide +kernel
theorem dX12_clause_55 : decode cX12_clause 55 = .ok (.aload_n 0, 1) := by decide +kernel
theorem dX12_clause_56 : decode cX12_clause 56 = .ok (.getfield 110, 3) := by decide +kernel
theorem dX12_clause_59 : decode cX12_clause 59 = .ok (.ifCond .eq 4, 3) := by decide +kernel
theorem dX12_clause_62 : decode cX12_clause 62 = .ok (.return_, 1) := by decide +kernel
theorem dX12_clause_63 : decode cX12_clause 63 = .ok (.aload_n 0, 1) := by decide +kernel
theorem dX12_clause_64 : decode cX12_clause 64 = .ok (.invokevirtual 147, 3) := by decide +kernel
theorem dX12_clause_67 : decode cX12_clause 67 = .ok (.aload_n 0, 1) := by decide +kernel
theorem dX12_clause_68 : decode cX12_clause 68 = .ok (.dup, 1) := by decide +kernel
theorem dX12_clause_69 : decode cX12_clause 69 = .ok (.getfield 150, 3) := by decide +kernel
theorem dX12_clause_72 : decode cX12_clause 72 = .ok (.iconst 1, 1) := by decide +kernel
theorem dX12_clause_73 : decode cX12_clause 73 = .ok (.iadd, 1) := by decide +kernel
theorem dX12_clause_74 : decode cX12_clause 74 = .ok (.putfield 150, 3) := by decide +kernel
theorem dX12_clause_77 : decode cX12_clause 77 = .ok (.iload_n 1, 1) := by decide +kernel
theorem dX12_clause_78 : decode cX12_clause 78 = .ok (.lookupswitch 117 #[(0, 26), (1, 92)], 26) := by decide +kernel
theorem dX12_clause_104 : decode cX12_clause 104 = .ok (.aload_n 0, 1) := by decide +kernel
theorem dX12_clause_105 : decode cX12_clause 105 = .ok (.getfield 34, 3) := by decide +kernel
theorem dX12_clause_108 : decode cX12_clause 108 = .ok (.aload_n 0, 1) := by decide +kernel
theorem dX12_clause_109 : decode cX12_clause 109 = .ok (.getfield 20, 3) := by decide +kernel
theorem dX12_clause_112 : decode cX12_clause 112 = .ok (.iconst 0, 1) := by decide +kernel
theorem dX12_clause_113 : decode cX12_clause 113 = .ok (.iaload, 1) := by decide +kernel
theorem dX12_clause_114 : decode cX12_clause 114 = .ok (.aaload, 1) := by decide +kernel
theorem dX12_clause_115 : decode cX12_clause 115 = .ok (.astore_n 2, 1) := by decide +kernel
theorem dX12_clause_116 : decode cX12_clause 116 = .ok (.aload_n 2, 1) := by decide +kernel
theorem dX12_clause_117 : decode cX12_clause 117 = .ok (.iconst 0, 1) := by decide +kernel
theorem dX12_clause_118 : decode cX12_clause 118 = .ok (.aload_n 0, 1) := by decide +kernel
theorem dX12_clause_119 : decode cX12_clause 119 = .ok (.iconst 0, 1) := by decide +kernel
theorem dX12_clause_120 : decode cX12_clause 120 = .ok (.bipush 63, 2) := by decide +kernel
theorem dX12_clause_122 : decode cX12_clause 122 = .ok (.invokevirtual 159, 3) := by decide +kernel
theorem dX12_clause_125 : decode cX12_clause 125 = .ok (.iastore, 1) := by decide +kernel
theorem dX12_clause_126 : decode cX12_clause 126 = .ok (.aload_n 2, 1) := by decide +kernel
theorem dX12_clause_127 : decode cX12_clause 127 = .ok (.iconst 1, 1) := by decide +kernel
theorem dX12_clause_128 : decode cX12_clause 128 = .ok (.aload_n 0, 1) := by decide +kernel
theorem dX12_clause_129 : decode cX12_clause 129 = .ok (.iconst 0, 1) := by decide +kernel
theorem dX12_clause_130 : decode cX12_clause 130 = .ok (.bipush 9, 2) := by decide +kernel
theorem dX12_clause_132 : decode cX12_clause 132 = .ok (.invokevirtual 159, 3) := by decide +kernel
theorem dX12_clause_135 : decode cX12_clause 135 = .ok (.iastore, 1) := by decide +kernel
theorem dX12_clause_136 : decode cX12_clause 136 = .ok (.aload_n 2, 1) := by decide +kernel
theorem dX12_clause_137 : decode cX12_clause 137 = .ok (.iconst 2, 1) := by decide +kernel
theorem dX12_clause_138 : decode cX12_clause 138 = .ok (.aload_n 0, 1) := by decide +kernel
theorem dX12_clause_139 : decode cX12_clause 139 = .ok (.iconst 0, 1) := by decide +kernel
theorem dX12_clause_140 : decode cX12_clause 140 = .ok (.bipush 40, 2) := by decide +kernel
theorem dX12_clause_142 : decode cX12_clause 142 = .ok (.invokevirtual 159, 3) := by decide +kernel
theorem dX12_clause_145 : decode cX12_clause 145 = .ok (.iastore, 1) := by decide +kernel
theorem dX12_clause_146 : decode cX12_clause 146 = .ok (.aload_n 0, 1) := by decide +kernel
theorem dX12_clause_147 : decode cX12_clause 147 = .ok (.getfield 20, 3) := by decide +kernel
theorem dX12_clause_150 : decode cX12_clause 150 = .ok (.iconst 0, 1) := by decide +kernel
theorem dX12_clause_151 : decode cX12_clause 151 = .ok (.dup2, 1) := by decide +kernel
theorem dX12_clause_152 : decode cX12_clause 152 = .ok (.iaload, 1) := by decide +kernel
theorem dX12_clause_153 : decode cX12_clause 153 = .ok (.aload_n 0, 1) := by decide +kernel
theorem dX12_clause_154 : decode cX12_clause 154 = .ok (.getfield 110, 3) := by decide +kernel
theorem dX12_clause_157 : decode cX12_clause 157 = .ok (.ifCond .ne 7, 3) := by decide +kernel
theorem dX12_clause_160 : decode cX12_clause 160 = .ok (.iconst 1, 1) := by decide +kernel
theorem dX12_clause_161 : decode cX12_clause 161 = .ok (.goto 4, 3) := by decide +kernel
theorem dX12_clause_164 : decode cX12_clause 164 = .ok (.iconst 0, 1) := by decide +kernel
theorem dX12_clause_165 : decode cX12_clause 165 = .ok (.iadd, 1) := by decide +kernel
theorem dX12_clause_166 : decode cX12_clause 166 = .ok (.iastore, 1) := by decide +kernel
theorem dX12_clause_167 : decode cX12_clause 167 = .ok (.goto 78, 3) := by decide +kernel
theorem dX12_clause_170 : decode cX12_clause 170 = .ok (.aload_n 0, 1) := by decide +kernel
theorem dX12_clause_171 : decode cX12_clause 171 = .ok (.iconst 0, 1) := by decide +kernel
theorem dX12_clause_172 : decode cX12_clause 172 = .ok (.bipush 6, 2) := by decide +kernel
theorem dX12_clause_174 : decode cX12_clause 174 = .ok (.invokevirtual 159, 3) := by decide +kernel
theorem dX12_clause_177 : decode cX12_clause 177 = .ok (.istore_n 2, 1) := by decide +kernel
theorem dX12_clause_178 : decode cX12_clause 178 = .ok (.aload_n 0, 1) := by decide +kernel
theorem dX12_clause_179 : decode cX12_clause 179 = .ok (.getfield 110, 3) := by decide +kernel
theorem dX12_clause_182 : decode cX12_clause 182 = .ok (.ifCond .ne 63, 3) := by decide +kernel
theorem dX12_clause_185 : decode cX12_clause 185 = .ok (.aload_n 0, 1) := by decide +kernel
theorem dX12_clause_186 : decode cX12_clause 186 = .ok (.getfield 20, 3) := by decide +kernel
theorem dX12_clause_189 : decode cX12_clause 189 = .ok (.iconst 1, 1) := by decide +kernel
theorem dX12_clause_190 : decode cX12_clause 190 = .ok (.iload_n 2, 1) := by decide +kernel
theorem dX12_clause_191 : decode cX12_clause 191 = .ok (.iastore, 1) := by decide +kernel
theorem dX12_clause_192 : decode cX12_clause 192 = .ok (.goto 53, 3) := by decide +kernel
theorem dX12_clause_195 : decode cX12_clause 195 = .ok (.aload_n 0, 1) := by decide +kernel
theorem dX12_clause_196 : decode cX12_clause 196 = .ok (.iconst 0, 1) := by decide +kernel
theorem dX12_clause_197 : decode cX12_clause 197 = .ok (.aload_n 0, 1) := by decide +kernel
theorem dX12_clause_198 : decode cX12_clause 198 = .ok (.getfield 20, 3) := by decide +kernel
theorem dX12_clause_201 : decode cX12_clause 201 = .ok (.iconst 0, 1) := by decide +kernel
theorem dX12_clause_202 : decode cX12_clause 202 = .ok (.iaload, 1) := by decide +kernel
theorem dX12_clause_203 : decode cX12_clause 203 = .ok (.iconst 1, 1) := by decide +kernel
theorem dX12_clause_204 : decode cX12_clause 204 = .ok (.isub, 1) := by decide +kernel
theorem dX12_clause_205 : decode cX12_clause 205 = .ok (.invokevirtual 159, 3) := by decide +kernel
theorem dX12_clause_208 : decode cX12_clause 208 = .ok (.istore_n 2, 1) := by decide +kernel
theorem dX12_clause_209 : decode cX12_clause 209 = .ok (.aload_n 0, 1) := by decide +kernel
theorem dX12_clause_210 : decode cX12_clause 210 = .ok (.iconst 0, 1) := by decide +kernel
theorem dX12_clause_211 : decode cX12_clause 211 = .ok (.aload_n 0, 1) := by decide +kernel
theorem dX12_clause_212 : decode cX12_clause 212 = .ok (.getfield 20, 3) := by decide +kernel
theorem dX12_clause_215 : decode cX12_clause 215 = .ok (.iconst 0, 1) := by decide +kernel
theorem dX12_clause_216 : decode cX12_clause 216 = .ok (.iaload, 1) := by decide +kernel
theorem dX12_clause_217 : decode cX12_clause 217 = .ok (.iconst 1, 1) := by decide +kernel
theorem dX12_clause_218 : decode cX12_clause 218 = .ok (.isub, 1) := by decide +kernel
theorem dX12_clause_219 : decode cX12_clause 219 = .ok (.invokevirtual 159, 3) := by decide +kernel
theorem dX12_clause_222 : decode cX12_clause 222 = .ok (.istore_n 3, 1) := by decide +kernel
theorem dX12_clause_223 : decode cX12_clause 223 = .ok (.aload_n 0, 1) := by decide +kernel
theorem dX12_clause_224 : decode cX12_clause 224 = .ok (.getfield 110, 3) := by decide +kernel
theorem dX12_clause_227 : decode cX12_clause 227 = .ok (.ifCond .ne 18, 3) := by decide +kernel
theorem dX12_clause_230 : decode cX12_clause 230 = .ok (.aload_n 0, 1) := by decide +kernel
theorem dX12_clause_231 : decode cX12_clause 231 = .ok (.getfield 26, 3) := by decide +kernel
theorem dX12_clause_234 : decode cX12_clause 234 = .ok (.iload_n 2, 1) := by decide +kernel
theorem dX12_clause_235 : decode cX12_clause 235 = .ok (.dup2, 1) := by decide +kernel
theorem dX12_clause_236 : decode cX12_clause 236 = .ok (.iaload, 1) := by decide +kernel
theorem dX12_clause_237 : decode cX12_clause 237 = .ok (.iconst 1, 1) := by decide +kernel
theorem dX12_clause_238 : decode cX12_clause 238 = .ok (.iload_n 3, 1) := by decide +kernel
theorem dX12_clause_239 : decode cX12_clause 239 = .ok (.ishl, 1) := by decide +kernel
theorem dX12_clause_240 : decode cX12_clause 240 = .ok (.ior, 1) := by decide +kernel
theorem dX12_clause_241 : decode cX12_clause 241 = .ok (.iastore, 1) := by decide +kernel
theorem dX12_clause_242 : decode cX12_clause 242 = .ok (.goto 3, 3) := by decide +kernel
theorem dX12_clause_245 : decode cX12_clause 245 = .ok (.aload_n 0, 1) := by decide +kernel
theorem dX12_clause_246 : decode cX12_clause 246 = .ok (.bipush 59, 2) := by decide +kernel
theorem dX12_clause_248 : decode cX12_clause 248 = .ok (.invokevirtual 163, 3) := by decide +kernel
theorem dX12_clause_251 : decode cX12_clause 251 = .ok (.return_, 1) := by decide +kernel
theorem dX12_town_0 : decode cX12_town 0 = .ok (.aload_n 0, 1) := by decide +kernel
theorem dX12_town_1 : decode cX12_town 1 = .ok (.iconst 0, 1) := by decide +kernel
theorem dX12_town_2 : decode cX12_town 2 = .ok (.putfield 94, 3) := by decide +kernel
theorem dX12_town_5 : decode cX12_town 5 = .ok (.aload_n 0, 1) := by decide +kernel
theorem dX12_town_6 : decode cX12_town 6 = .ok (.iload_n 1, 1) := by decide +kernel
theorem dX12_town_7 : decode cX12_town 7 = .ok (.iconst 0, 1) := by decide +kernel
theorem dX12_town_8 : decode cX12_town 8 = .ok (.aload_n 0, 1) := by decide +kernel
theorem dX12_town_9 : decode cX12_town 9 = .ok (.getfield 97, 3) := by decide +kernel
theorem dX12_town_12 : decode cX12_town 12 = .ok (.invokestatic 128, 3) := by decide +kernel
theorem dX12_town_15 : decode cX12_town 15 = .ok (.ifCond .ne 7, 3) := by decide +kernel
theorem dX12_town_18 : decode cX12_town 18 = .ok (.iconst 1, 1) := by decide +kernel
theorem dX12_town_19 : decode cX12_town 19 = .ok (.goto 4, 3) := by decide +kernel
theorem dX12_town_22 : decode cX12_town 22 = .ok (.iconst 0, 1) := by decide +kernel
theorem dX12_town_23 : decode cX12_town 23 = .ok (.iconst 1, 1) := by decide +kernel
theorem dX12_town_24 : decode cX12_town 24 = .ok (.iconst 1, 1) := by decide +kernel
theorem dX12_town_25 : decode cX12_town 25 = .ok (.invokevirtual 167, 3) := by decide +kernel
theorem dX12_town_28 : decode cX12_town 28 = .ok (.ifCond .eq 5, 3) := by decide +kernel
theorem dX12_town_31 : decode cX12_town 31 = .ok (.iconst 0, 1) := by decide +kernel
theorem dX12_town_32 : decode cX12_town 32 = .ok (.ireturn, 1) := by decide +kernel
theorem dX12_town_33 : decode cX12_town 33 = .ok (.aload_n 0, 1) := by decide +kernel
theorem dX12_town_34 : decode cX12_town 34 = .ok (.iload_n 1, 1) := by decide +kernel
theorem dX12_town_35 : decode cX12_town 35 = .ok (.invokevirtual 171, 3) := by decide +kernel
theorem dX12_town_38 : decode cX12_town 38 = .ok (.aload_n 0, 1) := by decide +kernel
theorem dX12_town_39 : decode cX12_town 39 = .ok (.invokevirtual 88, 3) := by decide +kernel
theorem dX12_town_42 : decode cX12_town 42 = .ok (.aload_n 0, 1) := by decide +kernel
theorem dX12_town_43 : decode cX12_town 43 = .ok (.getfield 110, 3) := by decide +kernel
theorem dX12_town_46 : decode cX12_town 46 = .ok (.ifCond .ne 25, 3) := by decide +kernel
theorem dX12_town_49 : decode cX12_town 49 = .ok (.aload_n 0, 1) := by decide +kernel
theorem dX12_town_50 : decode cX12_town 50 = .ok (.getfield 103, 3) := by decide +kernel
theorem dX12_town_53 : decode cX12_town 53 = .ok (.aload_n 0, 1) := by decide +kernel
theorem dX12_town_54 : decode cX12_town 54 = .ok (.getfield 100, 3) := by decide +kernel
theorem dX12_town_57 : decode cX12_town 57 = .ok (.if_icmp .ge 14, 3) := by decide +kernel
theorem dX12_town_60 : decode cX12_town 60 = .ok (.aload_n 0, 1) := by decide +kernel
theorem dX12_town_61 : decode cX12_town 61 = .ok (.invokevirtual 174, 3) := by decide +kernel
theorem dX12_town_64 : decode cX12_town 64 = .ok (.aload_n 0, 1) := by decide +kernel
theorem dX12_town_65 : decode cX12_town 65 = .ok (.invokevirtual 116, 3) := by decide +kernel
theorem dX12_town_68 : decode cX12_town 68 = .ok (.goto (-26), 3) := by decide +kernel
theorem dX12_town_71 : decode cX12_town 71 = .ok (.aload_n 0, 1) := by decide +kernel
theorem dX12_town_72 : decode cX12_town 72 = .ok (.getfield 110, 3) := by decide +kernel
theorem dX12_town_75 : decode cX12_town 75 = .ok (.ifCond .eq 8, 3) := by decide +kernel
theorem dX12_town_78 : decode cX12_town 78 = .ok (.aload_n 0, 1) := by decide +kernel
theorem dX12_town_79 : decode cX12_town 79 = .ok (.invokevirtual 177, 3) := by decide +kernel
theorem dX12_town_82 : decode cX12_town 82 = .ok (.ireturn, 1) := by decide +kernel
theorem dX12_town_83 : decode cX12_town 83 = .ok (.aload_n 0, 1) := by decide +kernel
theorem dX12_town_84 : decode cX12_town 84 = .ok (.iconst (-1), 1) := by decide +kernel
theorem dX12_town_85 : decode cX12_town 85 = .ok (.putfield 9, 3) := by decide +kernel
theorem dX12_town_88 : decode cX12_town 88 = .ok (.aload_n 0, 1) := by decide +kernel
theorem dX12_town_89 : decode cX12_town 89 = .ok (.invokevirtual 91, 3) := by decide +kernel
theorem dX12_town_92 : decode cX12_town 92 = .ok (.aload_n 0, 1) := by decide +kernel
theorem dX12_town_93 : decode cX12_town 93 = .ok (.getfield 23, 3) := by decide +kernel
theorem dX12_town_96 : decode cX12_town 96 = .ok (.iconst 0, 1) := by decide +kernel
theorem dX12_town_97 : decode cX12_town 97 = .ok (.iaload, 1) := by decide +kernel
theorem dX12_town_98 : decode cX12_town 98 = .ok (.ireturn, 1) := by decide +kernel
theorem dX12_lays_0 : decode cX12_lays 0 = .ok (.iconst 0, 1) := by decide +kernel
theorem dX12_lays_1 : decode cX12_lays 1 = .ok (.istore_n 3, 1) := by decide +kernel
theorem dX12_lays_2 : decode cX12_lays 2 = .ok (.iload_n 3, 1) := by decide +kernel
theorem dX12_lays_3 : decode cX12_lays 3 = .ok (.iload_n 2, 1) := by decide +kernel
theorem dX12_lays_4 : decode cX12_lays 4 = .ok (.if_icmp .ge 39, 3) := by decide +kernel
theorem dX12_lays_7 : decode cX12_lays 7 = .ok (.iconst 0, 1) := by decide +kernel
theorem dX12_lays_8 : decode cX12_lays 8 = .ok (.istore 4, 2) := by decide +kernel
theorem dX12_lays_10 : decode cX12_lays 10 = .ok (.iload 4, 2) := by decide +kernel
theorem dX12_lays_12 : decode cX12_lays 12 = .ok (.aload_n 1, 1) := by decide +kernel
theorem dX12_lays_13 : decode cX12_lays 13 = .ok (.iload_n 3, 1) := by decide +kernel
theorem dX12_lays_14 : decode cX12_lays 14 = .ok (.aaload, 1) := by decide +kernel
theorem dX12_lays_15 : decode cX12_lays 15 = .ok (.arraylength, 1) := by decide +kernel
theorem dX12_lays_16 : decode cX12_lays 16 = .ok (.if_icmp .ge 21, 3) := by decide +kernel
theorem dX12_lays_19 : decode cX12_lays 19 = .ok (.aload_n 1, 1) := by decide +kernel
theorem dX12_lays_20 : decode cX12_lays 20 = .ok (.iload_n 3, 1) := by decide +kernel
theorem dX12_lays_21 : decode cX12_lays 21 = .ok (.aaload, 1) := by decide +kernel
theorem dX12_lays_22 : decode cX12_lays 22 = .ok (.iload 4, 2) := by decide +kernel
theorem dX12_lays_24 : decode cX12_lays 24 = .ok (.aload_n 0, 1) := by decide +kernel
theorem dX12_lays_25 : decode cX12_lays 25 = .ok (.iload_n 3, 1) := by decide +kernel
theorem dX12_lays_26 : decode cX12_lays 26 = .ok (.aaload, 1) := by decide +kernel
theorem dX12_lays_27 : decode cX12_lays 27 = .ok (.iload 4, 2) := by decide +kernel
theorem dX12_lays_29 : decode cX12_lays 29 = .ok (.iaload, 1) := by decide +kernel
theorem dX12_lays_30 : decode cX12_lays 30 = .ok (.iastore, 1) := by decide +kernel
theorem dX12_lays_31 : decode cX12_lays 31 = .ok (.iinc 4 1, 3) := by decide +kernel
theorem dX12_lays_34 : decode cX12_lays 34 = .ok (.goto (-24), 3) := by decide +kernel
theorem dX12_lays_37 : decode cX12_lays 37 = .ok (.iinc 3 1, 3) := by decide +kernel
theorem dX12_lays_40 : decode cX12_lays 40 = .ok (.goto (-38), 3) := by decide +kernel
theorem dX12_lays_43 : decode cX12_lays 43 = .ok (.return_, 1) := by decide +kernel
theorem dX12_copies_0 : decode cX12_copies 0 = .ok (.iconst 0, 1) := by decide +kernel
theorem dX12_copies_1 : decode cX12_copies 1 = .ok (.istore_n 2, 1) := by decide +kernel
theorem dX12_copies_2 : decode cX12_copies 2 = .ok (.iload_n 2, 1) := by decide +kernel
theorem dX12_copies_3 : decode cX12_copies 3 = .ok (.sipush 228, 3) := by decide +kernel
theorem dX12_copies_6 : decode cX12_copies 6 = .ok (.if_icmp .ge 15, 3) := by decide +kernel
theorem dX12_copies_9 : decode cX12_copies 9 = .ok (.aload_n 1, 1) := by decide +kernel
theorem dX12_copies_10 : decode cX12_copies 10 = .ok (.iload_n 2, 1) := by decide +kernel
theorem dX12_copies_11 : decode cX12_copies 11 = .ok (.aload_n 0, 1) := by decide +kernel
theorem dX12_copies_12 : decode cX12_copies 12 = .ok (.iload_n 2, 1) := by decide +kernel
theorem dX12_copies_13 : decode cX12_copies 13 = .ok (.iaload, 1) := by decide +kernel
theorem dX12_copies_14 : decode cX12_copies 14 = .ok (.iastore, 1) := by decide +kernel
theorem dX12_copies_15 : decode cX12_copies 15 = .ok (.iinc 2 1, 3) := by decide +kernel
theorem dX12_copies_18 : decode cX12_copies 18 = .ok (.goto (-16), 3) := by decide +kernel
theorem dX12_copies_21 : decode cX12_copies 21 = .ok (.return_, 1) := by decide +kernel
theorem dX12_beginsAnew_0 : decode cX12_beginsAnew 0 = .ok (.iconst 0, 1) := by decide +kernel
theorem dX12_beginsAnew_1 : decode cX12_beginsAnew 1 = .ok (.istore_n 1, 1) := by decide +kernel
theorem dX12_beginsAnew_2 : decode cX12_beginsAnew 2 = .ok (.iload_n 1, 1) := by decide +kernel
theorem dX12_beginsAnew_3 : decode cX12_beginsAnew 3 = .ok (.iconst 2, 1) := by decide +kernel
theorem dX12_beginsAnew_4 : decode cX12_beginsAnew 4 = .ok (.if_icmp .ge 21, 3) := by decide +kernel
theorem dX12_beginsAnew_7 : decode cX12_beginsAnew 7 = .ok (.aload_n 0, 1) := by decide +kernel
theorem dX12_beginsAnew_8 : decode cX12_beginsAnew 8 = .ok (.getfield 23, 3) := by decide +kernel
theorem dX12_beginsAnew_11 : decode cX12_beginsAnew 11 = .ok (.iload_n 1, 1) := by decide +kernel
theorem dX12_beginsAnew_12 : decode cX12_beginsAnew 12 = .ok (.aload_n 0, 1) := by decide +kernel
theorem dX12_beginsAnew_13 : decode cX12_beginsAnew 13 = .ok (.getfield 20, 3) := by decide +kernel
theorem dX12_beginsAnew_16 : decode cX12_beginsAnew 16 = .ok (.iload_n 1, 1) := by decide +kernel
theorem dX12_beginsAnew_17 : decode cX12_beginsAnew 17 = .ok (.iaload, 1) := by decide +kernel
theorem dX12_beginsAnew_18 : decode cX12_beginsAnew 18 = .ok (.iastore, 1) := by decide +kernel
theorem dX12_beginsAnew_19 : decode cX12_beginsAnew 19 = .ok (.iinc 1 1, 3) := by decide +kernel
theorem dX12_beginsAnew_22 : decode cX12_beginsAnew 22 = .ok (.goto (-20), 3) := by decide +kernel
theorem dX12_beginsAnew_25 : decode cX12_beginsAnew 25 = .ok (.iconst 0, 1) := by decide +kernel
theorem dX12_beginsAnew_26 : decode cX12_beginsAnew 26 = .ok (.istore_n 1, 1) := by decide +kernel
theorem dX12_beginsAnew_27 : decode cX12_beginsAnew 27 = .ok (.iload_n 1, 1) := by decide +kernel
theorem dX12_beginsAnew_28 : decode cX12_beginsAnew 28 = .ok (.bipush 8, 2) := by decide +kernel
theorem dX12_beginsAnew_30 : decode cX12_beginsAnew 30 = .ok (.if_icmp .ge 21, 3) := by decide +kernel
theorem dX12_beginsAnew_33 : decode cX12_beginsAnew 33 = .ok (.aload_n 0, 1) := by decide +kernel
theorem dX12_beginsAnew_34 : decode cX12_beginsAnew 34 = .ok (.getfield 29, 3) := by decide +kernel
theorem dX12_beginsAnew_37 : decode cX12_beginsAnew 37 = .ok (.iload_n 1, 1) := by decide +kernel
theorem dX12_beginsAnew_38 : decode cX12_beginsAnew 38 = .ok (.aload_n 0, 1) := by decide +kernel
theorem dX12_beginsAnew_39 : decode cX12_beginsAnew 39 = .ok (.getfield 26, 3) := by decide +kernel
theorem dX12_beginsAnew_42 : decode cX12_beginsAnew 42 = .ok (.iload_n 1, 1) := by decide +kernel
theorem dX12_beginsAnew_43 : decode cX12_beginsAnew 43 = .ok (.iaload, 1) := by decide +kernel
theorem dX12_beginsAnew_44 : decode cX12_beginsAnew 44 = .ok (.iastore, 1) := by decide +kernel
theorem dX12_beginsAnew_45 : decode cX12_beginsAnew 45 = .ok (.iinc 1 1, 3) := by decide +kernel
theorem dX12_beginsAnew_48 : decode cX12_beginsAnew 48 = .ok (.goto (-21), 3) := by decide +kernel
theorem dX12_beginsAnew_51 : decode cX12_beginsAnew 51 = .ok (.aload_n 0, 1) := by decide +kernel
theorem dX12_beginsAnew_52 : decode cX12_beginsAnew 52 = .ok (.getfield 34, 3) := by decide +kernel
theorem dX12_beginsAnew_55 : decode cX12_beginsAnew 55 = .ok (.aload_n 0, 1) := by decide +kernel
theorem dX12_beginsAnew_56 : decode cX12_beginsAnew 56 = .ok (.getfield 37, 3) := by decide +kernel
theorem dX12_beginsAnew_59 : decode cX12_beginsAnew 59 = .ok (.aload_n 0, 1) := by decide +kernel
theorem dX12_beginsAnew_60 : decode cX12_beginsAnew 60 = .ok (.getfield 23, 3) := by decide +kernel
theorem dX12_beginsAnew_63 : decode cX12_beginsAnew 63 = .ok (.iconst 0, 1) := by decide +kernel
theorem dX12_beginsAnew_64 : decode cX12_beginsAnew 64 = .ok (.iaload, 1) := by decide +kernel
theorem dX12_beginsAnew_65 : decode cX12_beginsAnew 65 = .ok (.invokestatic 180, 3) := by decide +kernel
theorem dX12_beginsAnew_68 : decode cX12_beginsAnew 68 = .ok (.iconst 0, 1) := by decide +kernel
theorem dX12_beginsAnew_69 : decode cX12_beginsAnew 69 = .ok (.istore_n 1, 1) := by decide +kernel
theorem dX12_beginsAnew_70 : decode cX12_beginsAnew 70 = .ok (.iload_n 1, 1) := by decide +kernel
theorem dX12_beginsAnew_71 : decode cX12_beginsAnew 71 = .ok (.sipush 228, 3) := by decide +kernel
theorem dX12_beginsAnew_74 : decode cX12_beginsAnew 74 = .ok (.if_icmp .ge 16, 3) := by decide +kernel
theorem dX12_beginsAnew_77 : decode cX12_beginsAnew 77 = .ok (.aload_n 0, 1) := by decide +kernel
theorem dX12_beginsAnew_78 : decode cX12_beginsAnew 78 = .ok (.getfield 61, 3) := by decide +kernel
theorem dX12_beginsAnew_81 : decode cX12_beginsAnew 81 = .ok (.iload_n 1, 1) := by decide +kernel
theorem dX12_beginsAnew_82 : decode cX12_beginsAnew 82 = .ok (.iconst 0, 1) := by decide +kernel
theorem dX12_beginsAnew_83 : decode cX12_beginsAnew 83 = .ok (.iastore, 1) := by decide +kernel
theorem dX12_beginsAnew_84 : decode cX12_beginsAnew 84 = .ok (.iinc 1 1, 3) := by decide +kernel
theorem dX12_beginsAnew_87 : decode cX12_beginsAnew 87 = .ok (.goto (-17), 3) := by decide +kernel
theorem dX12_beginsAnew_90 : decode cX12_beginsAnew 90 = .ok (.aload_n 0, 1) := by decide +kernel
theorem dX12_beginsAnew_91 : decode cX12_beginsAnew 91 = .ok (.iconst 0, 1) := by decide +kernel
theorem dX12_beginsAnew_92 : decode cX12_beginsAnew 92 = .ok (.putfield 184, 3) := by decide +kernel
theorem dX12_beginsAnew_95 : decode cX12_beginsAnew 95 = .ok (.aload_n 0, 1) := by decide +kernel
theorem dX12_beginsAnew_96 : decode cX12_beginsAnew 96 = .ok (.iconst 0, 1) := by decide +kernel
theorem dX12_beginsAnew_97 : decode cX12_beginsAnew 97 = .ok (.putfield 187, 3) := by decide +kernel
theorem dX12_beginsAnew_100 : decode cX12_beginsAnew 100 = .ok (.aload_n 0, 1) := by decide +kernel
theorem dX12_beginsAnew_101 : decode cX12_beginsAnew 101 = .ok (.iconst 0, 1) := by decide +kernel
theorem dX12_beginsAnew_102 : decode cX12_beginsAnew 102 = .ok (.putfield 190, 3) := by decide +kernel
theorem dX12_beginsAnew_105 : decode cX12_beginsAnew 105 = .ok (.aload_n 0, 1) := by decide +kernel
theorem dX12_beginsAnew_106 : decode cX12_beginsAnew 106 = .ok (.iconst 0, 1) := by decide +kernel
theorem dX12_beginsAnew_107 : decode cX12_beginsAnew 107 = .ok (.putfield 193, 3) := by decide +kernel
theorem dX12_beginsAnew_110 : decode cX12_beginsAnew 110 = .ok (.aload_n 0, 1) := by decide +kernel
theorem dX12_beginsAnew_111 : decode cX12_beginsAnew 111 = .ok (.iconst 0, 1) := by decide +kernel
theorem dX12_beginsAnew_112 : decode cX12_beginsAnew 112 = .ok (.putfield 196, 3) := by decide +kernel
theorem dX12_beginsAnew_115 : decode cX12_beginsAnew 115 = .ok (.return_, 1) := by decide +kernel
theorem dX12_notes_0 : decode cX12_notes 0 = .ok (.aload_n 0, 1) := by decide +kernel
theorem dX12_notes_1 : decode cX12_notes 1 = .ok (.getfield 110, 3) := by decide +kernel
theorem dX12_notes_4 : decode cX12_notes 4 = .ok (.ifCond .eq 4, 3) := by decide +kernel
theorem dX12_notes_7 : decode cX12_notes 7 = .ok (.return_, 1) := by decide +kernel
theorem dX12_notes_8 : decode cX12_notes 8 = .ok (.aload_n 0, 1) := by decide +kernel
theorem dX12_notes_9 : decode cX12_notes 9 = .ok (.getfield 43, 3) := by decide +kernel
theorem dX12_notes_12 : decode cX12_notes 12 = .ok (.aload_n 0, 1) := by decide +kernel
theorem dX12_notes_13 : decode cX12_notes 13 = .ok (.getfield 199, 3) := by decide +kernel
theorem dX12_notes_16 : decode cX12_notes 16 = .ok (.aaload, 1) := by decide +kernel
theorem dX12_notes_17 : decode cX12_notes 17 = .ok (.iconst 0, 1) := by decide +kernel
theorem dX12_notes_18 : decode cX12_notes 18 = .ok (.iload_n 1, 1) := by decide +kernel
theorem dX12_notes_19 : decode cX12_notes 19 = .ok (.iastore, 1) := by decide +kernel
theorem dX12_notes_20 : decode cX12_notes 20 = .ok (.aload_n 0, 1) := by decide +kernel
theorem dX12_notes_21 : decode cX12_notes 21 = .ok (.getfield 43, 3) := by decide +kernel
theorem dX12_notes_24 : decode cX12_notes 24 = .ok (.aload_n 0, 1) := by decide +kernel
theorem dX12_notes_25 : decode cX12_notes 25 = .ok (.getfield 199, 3) := by decide +kernel
theorem dX12_notes_28 : decode cX12_notes 28 = .ok (.aaload, 1) := by decide +kernel
theorem dX12_notes_29 : decode cX12_notes 29 = .ok (.iconst 1, 1) := by decide +kernel
theorem dX12_notes_30 : decode cX12_notes 30 = .ok (.iload_n 2, 1) := by decide +kernel
theorem dX12_notes_31 : decode cX12_notes 31 = .ok (.iastore, 1) := by decide +kernel
theorem dX12_notes_32 : decode cX12_notes 32 = .ok (.aload_n 0, 1) := by decide +kernel
theorem dX12_notes_33 : decode cX12_notes 33 = .ok (.dup, 1) := by decide +kernel
theorem dX12_notes_34 : decode cX12_notes 34 = .ok (.getfield 199, 3) := by decide +kernel
theorem dX12_notes_37 : decode cX12_notes 37 = .ok (.iconst 1, 1) := by decide +kernel
theorem dX12_notes_38 : decode cX12_notes 38 = .ok (.iadd, 1) := by decide +kernel
theorem dX12_notes_39 : decode cX12_notes 39 = .ok (.putfield 199, 3) := by decide +kernel
theorem dX12_notes_42 : decode cX12_notes 42 = .ok (.return_, 1) := by decide +kernel
theorem dX12_opensOne_0 : decode cX12_opensOne 0 = .ok (.aload_n 0, 1) := by decide +kernel
theorem dX12_opensOne_1 : decode cX12_opensOne 1 = .ok (.getfield 110, 3) := by decide +kernel
theorem dX12_opensOne_4 : decode cX12_opensOne 4 = .ok (.ifCond .ne 24, 3) := by decide +kernel
theorem dX12_opensOne_7 : decode cX12_opensOne 7 = .ok (.aload_n 0, 1) := by decide +kernel
theorem dX12_opensOne_8 : decode cX12_opensOne 8 = .ok (.getfield 153, 3) := by decide +kernel
theorem dX12_opensOne_11 : decode cX12_opensOne 11 = .ok (.bipush 6, 2) := by decide +kernel
theorem dX12_opensOne_13 : decode cX12_opensOne 13 = .ok (.if_icmp .ne 15, 3) := by decide +kernel
theorem dX12_opensOne_16 : decode cX12_opensOne 16 = .ok (.aload_n 0, 1) := by decide +kernel
theorem dX12_opensOne_17 : decode cX12_opensOne 17 = .ok (.iconst 3, 1) := by decide +kernel
theorem dX12_opensOne_18 : decode cX12_opensOne 18 = .ok (.aload_n 0, 1) := by decide +kernel
theorem dX12_opensOne_19 : decode cX12_opensOne 19 = .ok (.getfield 103, 3) := by decide +kernel
theorem dX12_opensOne_22 : decode cX12_opensOne 22 = .ok (.invokevirtual 123, 3) := by decide +kernel
theorem dX12_opensOne_25 : decode cX12_opensOne 25 = .ok (.goto 20, 3) := by decide +kernel
theorem dX12_opensOne_28 : decode cX12_opensOne 28 = .ok (.aload_n 0, 1) := by decide +kernel
theorem dX12_opensOne_29 : decode cX12_opensOne 29 = .ok (.getfield 110, 3) := by decide +kernel
theorem dX12_opensOne_32 : decode cX12_opensOne 32 = .ok (.ifCond .ne 13, 3) := by decide +kernel
theorem dX12_opensOne_35 : decode cX12_opensOne 35 = .ok (.aload_n 0, 1) := by decide +kernel
theorem dX12_opensOne_36 : decode cX12_opensOne 36 = .ok (.dup, 1) := by decide +kernel
theorem dX12_opensOne_37 : decode cX12_opensOne 37 = .ok (.getfield 153, 3) := by decide +kernel
theorem dX12_opensOne_40 : decode cX12_opensOne 40 = .ok (.iconst 1, 1) := by decide +kernel
theorem dX12_opensOne_41 : decode cX12_opensOne 41 = .ok (.iadd, 1) := by decide +kernel
theorem dX12_opensOne_42 : decode cX12_opensOne 42 = .ok (.putfield 153, 3) := by decide +kernel
theorem dX12_opensOne_45 : decode cX12_opensOne 45 = .ok (.aload_n 0, 1) := by decide +kernel
theorem dX12_opensOne_46 : decode cX12_opensOne 46 = .ok (.getfield 110, 3) := by decide +kernel
theorem dX12_opensOne_49 : decode cX12_opensOne 49 = .ok (.ifCond .ne 7, 3) := by decide +kernel
theorem dX12_opensOne_52 : decode cX12_opensOne 52 = .ok (.iconst 1, 1) := by decide +kernel
theorem dX12_opensOne_53 : decode cX12_opensOne 53 = .ok (.goto 4, 3) := by decide +kernel
theorem dX12_opensOne_56 : decode cX12_opensOne 56 = .ok (.iconst 0, 1) := by decide +kernel
theorem dX12_opensOne_57 : decode cX12_opensOne 57 = .ok (.ireturn, 1) := by decide +kernel
theorem dX12_sum_0 : decode cX12_sum 0 = .ok (.aload_n 0, 1) := by decide +kernel
theorem dX12_sum_1 : decode cX12_sum 1 = .ok (.invokevirtual 202, 3) := by decide +kernel
theorem dX12_sum_4 : decode cX12_sum 4 = .ok (.aload_n 0, 1) := by decide +kernel
theorem dX12_sum_5 : decode cX12_sum 5 = .ok (.getfield 110, 3) := by decide +kernel
theorem dX12_sum_8 : decode cX12_sum 8 = .ok (.ifCond .ne 50, 3) := by decide +kernel
theorem dX12_sum_11 : decode cX12_sum 11 = .ok (.aload_n 0, 1) := by decide +kernel
theorem dX12_sum_12 : decode cX12_sum 12 = .ok (.bipush 43, 2) := by decide +kernel
theorem dX12_sum_14 : decode cX12_sum 14 = .ok (.invokevirtual 205, 3) := by decide +kernel
theorem dX12_sum_17 : decode cX12_sum 17 = .ok (.ifCond .eq 7, 3) := by decide +kernel
theorem dX12_sum_20 : decode cX12_sum 20 = .ok (.iconst 2, 1) := by decide +kernel
theorem dX12_sum_21 : decode cX12_sum 21 = .ok (.goto 17, 3) := by decide +kernel
theorem dX12_sum_24 : decode cX12_sum 24 = .ok (.aload_n 0, 1) := by decide +kernel
theorem dX12_sum_25 : decode cX12_sum 25 = .ok (.bipush 45, 2) := by decide +kernel
theorem dX12_sum_27 : decode cX12_sum 27 = .ok (.invokevirtual 205, 3) := by decide +kernel
theorem dX12_sum_30 : decode cX12_sum 30 = .ok (.ifCond .eq 7, 3) := by decide +kernel
theorem dX12_sum_33 : decode cX12_sum 33 = .ok (.iconst 3, 1) := by decide +kernel
theorem dX12_sum_34 : decode cX12_sum 34 = .ok (.goto 4, 3) := by decide +kernel
theorem dX12_sum_37 : decode cX12_sum 37 = .ok (.iconst (-1), 1) := by decide +kernel
theorem dX12_sum_38 : decode cX12_sum 38 = .ok (.istore_n 1, 1) := by decide +kernel
theorem dX12_sum_39 : decode cX12_sum 39 = .ok (.iload_n 1, 1) := by decide +kernel
theorem dX12_sum_40 : decode cX12_sum 40 = .ok (.iconst (-1), 1) := by decide +kernel
theorem dX12_sum_41 : decode cX12_sum 41 = .ok (.if_icmp .ne 4, 3) := by decide +kernel
theorem dX12_sum_44 : decode cX12_sum 44 = .ok (.return_, 1) := by decide +kernel
theorem dX12_sum_45 : decode cX12_sum 45 = .ok (.aload_n 0, 1) := by decide +kernel
theorem dX12_sum_46 : decode cX12_sum 46 = .ok (.invokevirtual 202, 3) := by decide +kernel
theorem dX12_sum_49 : decode cX12_sum 49 = .ok (.aload_n 0, 1) := by decide +kernel
theorem dX12_sum_50 : decode cX12_sum 50 = .ok (.iload_n 1, 1) := by decide +kernel
theorem dX12_sum_51 : decode cX12_sum 51 = .ok (.iconst 0, 1) := by decide +kernel
theorem dX12_sum_52 : decode cX12_sum 52 = .ok (.invokevirtual 208, 3) := by decide +kernel
theorem dX12_sum_55 : decode cX12_sum 55 = .ok (.goto (-51), 3) := by decide +kernel
theorem dX12_sum_58 : decode cX12_sum 58 = .ok (.return_, 1) := by decide +kernel
theorem dX12_product_0 : decode cX12_product 0 = .ok (.aload_n 0, 1) := by decide +kernel
theorem dX12_product_1 : decode cX12_product 1 = .ok (.invokevirtual 211, 3) := by decide +kernel
theorem dX12_product_4 : decode cX12_product 4 = .ok (.aload_n 0, 1) := by decide +kernel
theorem dX12_product_5 : decode cX12_product 5 = .ok (.getfield 110, 3) := by decide +kernel
theorem dX12_product_8 : decode cX12_product 8 = .ok (.ifCond .ne 64, 3) := by decide +kernel
theorem dX12_product_11 : decode cX12_product 11 = .ok (.aload_n 0, 1) := by decide +kernel
theorem dX12_product_12 : decode cX12_product 12 = .ok (.bipush 42, 2) := by decide +kernel
theorem dX12_product_14 : decode cX12_product 14 = .ok (.invokevirtual 205, 3) := by decide +kernel
theorem dX12_product_17 : decode cX12_product 17 = .ok (.ifCond .eq 7, 3) := by decide +kernel
theorem dX12_product_20 : decode cX12_product 20 = .ok (.iconst 4, 1) := by decide +kernel
theorem dX12_product_21 : decode cX12_product 21 = .ok (.goto 31, 3) := by decide +kernel
theorem dX12_product_24 : decode cX12_product 24 = .ok (.aload_n 0, 1) := by decide +kernel
theorem dX12_product_25 : decode cX12_product 25 = .ok (.bipush 47, 2) := by decide +kernel
theorem dX12_product_27 : decode cX12_product 27 = .ok (.invokevirtual 205, 3) := by decide +kernel
theorem dX12_product_30 : decode cX12_product 30 = .ok (.ifCond .eq 7, 3) := by decide +kernel
theorem dX12_product_33 : decode cX12_product 33 = .ok (.iconst 5, 1) := by decide +kernel
theorem dX12_product_34 : decode cX12_product 34 = .ok (.goto 18, 3) := by decide +kernel
theorem dX12_product_37 : decode cX12_product 37 = .ok (.aload_n 0, 1) := by decide +kernel
theorem dX12_product_38 : decode cX12_product 38 = .ok (.bipush 37, 2) := by decide +kernel
theorem dX12_product_40 : decode cX12_product 40 = .ok (.invokevirtual 205, 3) := by decide +kernel
theorem dX12_product_43 : decode cX12_product 43 = .ok (.ifCond .eq 8, 3) := by decide +kernel
theorem dX12_product_46 : decode cX12_product 46 = .ok (.bipush 6, 2) := by decide +kernel
theorem dX12_product_48 : decode cX12_product 48 = .ok (.goto 4, 3) := by decide +kernel
theorem dX12_product_51 : decode cX12_product 51 = .ok (.iconst (-1), 1) := by decide +kernel
theorem dX12_product_52 : decode cX12_product 52 = .ok (.istore_n 1, 1) := by decide +kernel
theorem dX12_product_53 : decode cX12_product 53 = .ok (.iload_n 1, 1) := by decide +kernel
theorem dX12_product_54 : decode cX12_product 54 = .ok (.iconst (-1), 1) := by decide +kernel
theorem dX12_product_55 : decode cX12_product 55 = .ok (.if_icmp .ne 4, 3) := by decide +kernel
theorem dX12_product_58 : decode cX12_product 58 = .ok (.return_, 1) := by decide +kernel
theorem dX12_product_59 : decode cX12_product 59 = .ok (.aload_n 0, 1) := by decide +kernel
theorem dX12_product_60 : decode cX12_product 60 = .ok (.invokevirtual 211, 3) := by decide +kernel
theorem dX12_product_63 : decode cX12_product 63 = .ok (.aload_n 0, 1) := by decide +kernel
theorem dX12_product_64 : decode cX12_product 64 = .ok (.iload_n 1, 1) := by decide +kernel
theorem dX12_product_65 : decode cX12_product 65 = .ok (.iconst 0, 1) := by decide +kernel
theorem dX12_product_66 : decode cX12_product 66 = .ok (.invokevirtual 208, 3) := by decide +kernel
theorem dX12_product_69 : decode cX12_product 69 = .ok (.goto (-65), 3) := by decide +kernel
theorem dX12_product_72 : decode cX12_product 72 = .ok (.return_, 1) := by decide +kernel
theorem dX12_knownHere_0 : decode cX12_knownHere 0 = .ok (.aload_n 0, 1) := by decide +kernel
theorem dX12_knownHere_1 : decode cX12_knownHere 1 = .ok (.bipush 6, 2) := by decide +kernel
theorem dX12_knownHere_3 : decode cX12_knownHere 3 = .ok (.iconst 1, 1) := by decide +kernel
theorem dX12_knownHere_4 : decode cX12_knownHere 4 = .ok (.iconst 3, 1) := by decide +kernel
theorem dX12_knownHere_5 : decode cX12_knownHere 5 = .ok (.iconst 5, 1) := by decide +kernel
theorem dX12_knownHere_6 : decode cX12_knownHere 6 = .ok (.iconst 0, 1) := by decide +kernel
theorem dX12_knownHere_7 : decode cX12_knownHere 7 = .ok (.iconst 0, 1) := by decide +kernel
theorem dX12_knownHere_8 : decode cX12_knownHere 8 = .ok (.invokevirtual 214, 3) := by decide +kernel
theorem dX12_knownHere_11 : decode cX12_knownHere 11 = .ok (.ifCond .eq 5, 3) := by decide +kernel
theorem dX12_knownHere_14 : decode cX12_knownHere 14 = .ok (.iconst 0, 1) := by decide +kernel
theorem dX12_knownHere_15 : decode cX12_knownHere 15 = .ok (.ireturn, 1) := by decide +kernel
theorem dX12_knownHere_16 : decode cX12_knownHere 16 = .ok (.aload_n 0, 1) := by decide +kernel
theorem dX12_knownHere_17 : decode cX12_knownHere 17 = .ok (.bipush 20, 2) := by decide +kernel
theorem dX12_knownHere_19 : decode cX12_knownHere 19 = .ok (.iconst 5, 1) := by decide +kernel
theorem dX12_knownHere_20 : decode cX12_knownHere 20 = .ok (.bipush 13, 2) := by decide +kernel
theorem dX12_knownHere_22 : decode cX12_knownHere 22 = .ok (.bipush 16, 2) := by decide +kernel
theorem dX12_knownHere_24 : decode cX12_knownHere 24 = .ok (.iconst 5, 1) := by decide +kernel
theorem dX12_knownHere_25 : decode cX12_knownHere 25 = .ok (.bipush 18, 2) := by decide +kernel
theorem dX12_knownHere_27 : decode cX12_knownHere 27 = .ok (.invokevirtual 214, 3) := by decide +kernel
theorem dX12_knownHere_30 : decode cX12_knownHere 30 = .ok (.ifCond .eq 5, 3) := by decide +kernel
theorem dX12_knownHere_33 : decode cX12_knownHere 33 = .ok (.iconst 1, 1) := by decide +kernel
theorem dX12_knownHere_34 : decode cX12_knownHere 34 = .ok (.ireturn, 1) := by decide +kernel
theorem dX12_knownHere_35 : decode cX12_knownHere 35 = .ok (.aload_n 0, 1) := by decide +kernel
theorem dX12_knownHere_36 : decode cX12_knownHere 36 = .ok (.bipush 13, 2) := by decide +kernel
theorem dX12_knownHere_38 : decode cX12_knownHere 38 = .ok (.bipush 15, 2) := by decide +kernel
theorem dX12_knownHere_40 : decode cX12_knownHere 40 = .ok (.bipush 15, 2) := by decide +kernel
theorem dX12_knownHere_42 : decode cX12_knownHere 42 = .ok (.iconst 4, 1) := by decide +kernel
theorem dX12_knownHere_43 : decode cX12_knownHere 43 = .ok (.iconst 0, 1) := by decide +kernel
theorem dX12_knownHere_44 : decode cX12_knownHere 44 = .ok (.iconst 0, 1) := by decide +kernel
theorem dX12_knownHere_45 : decode cX12_knownHere 45 = .ok (.invokevirtual 214, 3) := by decide +kernel
theorem dX12_knownHere_48 : decode cX12_knownHere 48 = .ok (.ifCond .eq 5, 3) := by decide +kernel
theorem dX12_knownHere_51 : decode cX12_knownHere 51 = .ok (.iconst 2, 1) := by decide +kernel
theorem dX12_knownHere_52 : decode cX12_knownHere 52 = .ok (.ireturn, 1) := by decide +kernel
theorem dX12_knownHere_53 : decode cX12_knownHere 53 = .ok (.aload_n 0, 1) := by decide +kernel
theorem dX12_knownHere_54 : decode cX12_knownHere 54 = .ok (.bipush 19, 2) := by decide +kernel
theorem dX12_knownHere_56 : decode cX12_knownHere 56 = .ok (.bipush 9, 2) := by decide +kernel
theorem dX12_knownHere_58 : decode cX12_knownHere 58 = .ok (.bipush 20, 2) := by decide +kernel
theorem dX12_knownHere_60 : decode cX12_knownHere 60 = .ok (.bipush 20, 2) := by decide +kernel
theorem dX12_knownHere_62 : decode cX12_knownHere 62 = .ok (.iconst 5, 1) := by decide +kernel
theorem dX12_knownHere_63 : decode cX12_knownHere 63 = .ok (.bipush 18, 2) := by decide +kernel
theorem dX12_knownHere_65 : decode cX12_knownHere 65 = .ok (.invokevirtual 214, 3) := by decide +kernel
theorem dX12_knownHere_68 : decode cX12_knownHere 68 = .ok (.ifCond .eq 5, 3) := by decide +kernel
theorem dX12_knownHere_71 : decode cX12_knownHere 71 = .ok (.iconst 3, 1) := by decide +kernel
theorem dX12_knownHere_72 : decode cX12_knownHere 72 = .ok (.ireturn, 1) := by decide +kernel
theorem dX12_knownHere_73 : decode cX12_knownHere 73 = .ok (.aload_n 0, 1) := by decide +kernel
theorem dX12_knownHere_74 : decode cX12_knownHere 74 = .ok (.bipush 15, 2) := by decide +kernel
theorem dX12_knownHere_76 : decode cX12_knownHere 76 = .ok (.bipush 23, 2) := by decide +kernel
theorem dX12_knownHere_78 : decode cX12_knownHere 78 = .ok (.bipush 14, 2) := by decide +kernel
theorem dX12_knownHere_80 : decode cX12_knownHere 80 = .ok (.iconst 0, 1) := by decide +kernel
theorem dX12_knownHere_81 : decode cX12_knownHere 81 = .ok (.iconst 0, 1) := by decide +kernel
theorem dX12_knownHere_82 : decode cX12_knownHere 82 = .ok (.iconst 0, 1) := by decide +kernel
theorem dX12_knownHere_83 : decode cX12_knownHere 83 = .ok (.invokevirtual 214, 3) := by decide +kernel
theorem dX12_knownHere_86 : decode cX12_knownHere 86 = .ok (.ifCond .eq 5, 3) := by decide +kernel
theorem dX12_knownHere_89 : decode cX12_knownHere 89 = .ok (.iconst 4, 1) := by decide +kernel
theorem dX12_knownHere_90 : decode cX12_knownHere 90 = .ok (.ireturn, 1) := by decide +kernel
theorem dX12_knownHere_91 : decode cX12_knownHere 91 = .ok (.aload_n 0, 1) := by decide +kernel
theorem dX12_knownHere_92 : decode cX12_knownHere 92 = .ok (.bipush 25, 2) := by decide +kernel
theorem dX12_knownHere_94 : decode cX12_knownHere 94 = .ok (.iconst 5, 1) := by decide +kernel
theorem dX12_knownHere_95 : decode cX12_knownHere 95 = .ok (.iconst 1, 1) := by decide +kernel
theorem dX12_knownHere_96 : decode cX12_knownHere 96 = .ok (.bipush 18, 2) := by decide +kernel
theorem dX12_knownHere_98 : decode cX12_knownHere 98 = .ok (.iconst 0, 1) := by decide +kernel
theorem dX12_knownHere_99 : decode cX12_knownHere 99 = .ok (.iconst 0, 1) := by decide +kernel
theorem dX12_knownHere_100 : decode cX12_knownHere 100 = .ok (.invokevirtual 214, 3) := by decide +kernel
theorem dX12_knownHere_103 : decode cX12_knownHere 103 = .ok (.ifCond .eq 5, 3) := by decide +kernel
theorem dX12_knownHere_106 : decode cX12_knownHere 106 = .ok (.iconst 5, 1) := by decide +kernel
theorem dX12_knownHere_107 : decode cX12_knownHere 107 = .ok (.ireturn, 1) := by decide +kernel
theorem dX12_knownHere_108 : decode cX12_knownHere 108 = .ok (.aload_n 0, 1) := by decide +kernel
theorem dX12_knownHere_109 : decode cX12_knownHere 109 = .ok (.bipush 20, 2) := by decide +kernel
theorem dX12_knownHere_111 : decode cX12_knownHere 111 = .ok (.iconst 1, 1) := by decide +kernel
theorem dX12_knownHere_112 : decode cX12_knownHere 112 = .ok (.bipush 11, 2) := by decide +kernel
theorem dX12_knownHere_114 : decode cX12_knownHere 114 = .ok (.iconst 5, 1) := by decide +kernel
theorem dX12_knownHere_115 : decode cX12_knownHere 115 = .ok (.bipush 14, 2) := by decide +kernel
theorem dX12_knownHere_117 : decode cX12_knownHere 117 = .ok (.iconst 0, 1) := by decide +kernel
theorem dX12_knownHere_118 : decode cX12_knownHere 118 = .ok (.invokevirtual 214, 3) := by decide +kernel
theorem dX12_knownHere_121 : decode cX12_knownHere 121 = .ok (.ifCond .eq 6, 3) := by decide +kernel
theorem dX12_knownHere_124 : decode cX12_knownHere 124 = .ok (.bipush 6, 2) := by decide +kernel
theorem dX12_knownHere_126 : decode cX12_knownHere 126 = .ok (.ireturn, 1) := by decide +kernel
theorem dX12_knownHere_127 : decode cX12_knownHere 127 = .ok (.aload_n 0, 1) := by decide +kernel
theorem dX12_knownHere_128 : decode cX12_knownHere 128 = .ok (.bipush 8, 2) := by decide +kernel
theorem dX12_knownHere_130 : decode cX12_knownHere 130 = .ok (.iconst 1, 1) := by decide +kernel
theorem dX12_knownHere_131 : decode cX12_knownHere 131 = .ok (.bipush 12, 2) := by decide +kernel
theorem dX12_knownHere_133 : decode cX12_knownHere 133 = .ok (.bipush 12, 2) := by decide +kernel
theorem dX12_knownHere_135 : decode cX12_knownHere 135 = .ok (.iconst 0, 1) := by decide +kernel
theorem dX12_knownHere_136 : decode cX12_knownHere 136 = .ok (.iconst 0, 1) := by decide +kernel
theorem dX12_knownHere_137 : decode cX12_knownHere 137 = .ok (.invokevirtual 214, 3) := by decide +kernel
theorem dX12_knownHere_140 : decode cX12_knownHere 140 = .ok (.ifCond .eq 8, 3) := by decide +kernel
theorem dX12_knownHere_143 : decode cX12_knownHere 143 = .ok (.bipush 7, 2) := by decide +kernel
theorem dX12_knownHere_145 : decode cX12_knownHere 145 = .ok (.goto 4, 3) := by decide +kernel
theorem dX12_knownHere_148 : decode cX12_knownHere 148 = .ok (.iconst (-1), 1) := by decide +kernel
theorem dX12_knownHere_149 : decode cX12_knownHere 149 = .ok (.ireturn, 1) := by decide +kernel
theorem dX12_one_0 : decode cX12_one 0 = .ok (.aload_n 0, 1) := by decide +kernel
theorem dX12_one_1 : decode cX12_one 1 = .ok (.getfield 110, 3) := by decide +kernel
theorem dX12_one_4 : decode cX12_one 4 = .ok (.ifCond .eq 4, 3) := by decide +kernel
theorem dX12_one_7 : decode cX12_one 7 = .ok (.return_, 1) := by decide +kernel
theorem dX12_one_8 : decode cX12_one 8 = .ok (.aload_n 0, 1) := by decide +kernel
theorem dX12_one_9 : decode cX12_one 9 = .ok (.invokevirtual 116, 3) := by decide +kernel
theorem dX12_one_12 : decode cX12_one 12 = .ok (.aload_n 0, 1) := by decide +kernel
theorem dX12_one_13 : decode cX12_one 13 = .ok (.bipush 12, 2) := by decide +kernel
theorem dX12_one_15 : decode cX12_one 15 = .ok (.iconst 5, 1) := by decide +kernel
theorem dX12_one_16 : decode cX12_one 16 = .ok (.iconst 1, 1) := by decide +kernel
theorem dX12_one_17 : decode cX12_one 17 = .ok (.bipush 19, 2) := by decide +kernel
theorem dX12_one_19 : decode cX12_one 19 = .ok (.bipush 20, 2) := by decide +kernel
theorem dX12_one_21 : decode cX12_one 21 = .ok (.iconst 0, 1) := by decide +kernel
theorem dX12_one_22 : decode cX12_one 22 = .ok (.invokevirtual 143, 3) := by decide +kernel
theorem dX12_one_25 : decode cX12_one 25 = .ok (.ifCond .eq 8, 3) := by decide +kernel
theorem dX12_one_28 : decode cX12_one 28 = .ok (.bipush 7, 2) := by decide +kernel
theorem dX12_one_30 : decode cX12_one 30 = .ok (.goto 26, 3) := by decide +kernel
theorem dX12_one_33 : decode cX12_one 33 = .ok (.aload_n 0, 1) := by decide +kernel
theorem dX12_one_34 : decode cX12_one 34 = .ok (.bipush 13, 2) := by decide +kernel
theorem dX12_one_36 : decode cX12_one 36 = .ok (.bipush 15, 2) := by decide +kernel
theorem dX12_one_38 : decode cX12_one 38 = .ok (.bipush 19, 2) := by decide +kernel
theorem dX12_one_40 : decode cX12_one 40 = .ok (.bipush 20, 2) := by decide +kernel
theorem dX12_one_42 : decode cX12_one 42 = .ok (.iconst 0, 1) := by decide +kernel
theorem dX12_one_43 : decode cX12_one 43 = .ok (.iconst 0, 1) := by decide +kernel
theorem dX12_one_44 : decode cX12_one 44 = .ok (.invokevirtual 143, 3) := by decide +kernel
theorem dX12_one_47 : decode cX12_one 47 = .ok (.ifCond .eq 8, 3) := by decide +kernel
theorem dX12_one_50 : decode cX12_one 50 = .ok (.bipush 8, 2) := by decide +kernel
theorem dX12_one_52 : decode cX12_one 52 = .ok (.goto 4, 3) := by decide +kernel
theorem dX12_one_55 : decode cX12_one 55 = .ok (.iconst (-1), 1) := by decide +kernel
theorem dX12_one_56 : decode cX12_one 56 = .ok (.istore_n 1, 1) := by decide +kernel
theorem dX12_one_57 : decode cX12_one 57 = .ok (.iload_n 1, 1) := by decide +kernel
theorem dX12_one_58 : decode cX12_one 58 = .ok (.iconst (-1), 1) := by decide +kernel
theorem dX12_one_59 : decode cX12_one 59 = .ok (.if_icmp .eq 58, 3) := by decide +kernel
theorem dX12_one_62 : decode cX12_one 62 = .ok (.aload_n 0, 1) := by decide +kernel
theorem dX12_one_63 : decode cX12_one 63 = .ok (.invokevirtual 217, 3) := by decide +kernel
theorem dX12_one_66 : decode cX12_one 66 = .ok (.ifCond .ne 4, 3) := by decide +kernel
theorem dX12_one_69 : decode cX12_one 69 = .ok (.return_, 1) := by decide +kernel
theorem dX12_one_70 : decode cX12_one 70 = .ok (.aload_n 0, 1) := by decide +kernel
theorem dX12_one_71 : decode cX12_one 71 = .ok (.invokevirtual 147, 3) := by decide +kernel
theorem dX12_one_74 : decode cX12_one 74 = .ok (.aload_n 0, 1) := by decide +kernel
theorem dX12_one_75 : decode cX12_one 75 = .ok (.bipush 91, 2) := by decide +kernel
theorem dX12_one_77 : decode cX12_one 77 = .ok (.invokevirtual 163, 3) := by decide +kernel
theorem dX12_one_80 : decode cX12_one 80 = .ok (.aload_n 0, 1) := by decide +kernel
theorem dX12_one_81 : decode cX12_one 81 = .ok (.invokevirtual 221, 3) := by decide +kernel
theorem dX12_one_84 : decode cX12_one 84 = .ok (.aload_n 0, 1) := by decide +kernel
theorem dX12_one_85 : decode cX12_one 85 = .ok (.bipush 44, 2) := by decide +kernel
theorem dX12_one_87 : decode cX12_one 87 = .ok (.invokevirtual 163, 3) := by decide +kernel
theorem dX12_one_90 : decode cX12_one 90 = .ok (.aload_n 0, 1) := by decide +kernel
theorem dX12_one_91 : decode cX12_one 91 = .ok (.invokevirtual 221, 3) := by decide +kernel
theorem dX12_one_94 : decode cX12_one 94 = .ok (.aload_n 0, 1) := by decide +kernel
theorem dX12_one_95 : decode cX12_one 95 = .ok (.bipush 93, 2) := by decide +kernel
theorem dX12_one_97 : decode cX12_one 97 = .ok (.invokevirtual 163, 3) := by decide +kernel
theorem dX12_one_100 : decode cX12_one 100 = .ok (.aload_n 0, 1) := by decide +kernel
theorem dX12_one_101 : decode cX12_one 101 = .ok (.iload_n 1, 1) := by decide +kernel
theorem dX12_one_102 : decode cX12_one 102 = .ok (.iconst 0, 1) := by decide +kernel
theorem dX12_one_103 : decode cX12_one 103 = .ok (.invokevirtual 208, 3) := by decide +kernel
theorem dX12_one_106 : decode cX12_one 106 = .ok (.aload_n 0, 1) := by decide +kernel
theorem dX12_one_107 : decode cX12_one 107 = .ok (.dup, 1) := by decide +kernel
theorem dX12_one_108 : decode cX12_one 108 = .ok (.getfield 153, 3) := by decide +kernel
theorem dX12_one_111 : decode cX12_one 111 = .ok (.iconst 1, 1) := by decide +kernel
theorem dX12_one_112 : decode cX12_one 112 = .ok (.isub, 1) := by decide +kernel
theorem dX12_one_113 : decode cX12_one 113 = .ok (.putfield 153, 3) := by decide +kernel
theorem dX12_one_116 : decode cX12_one 116 = .ok (.return_, 1) := by decide +kernel
theorem dX12_one_117 : decode cX12_one 117 = .ok (.aload_n 0, 1) := by decide +kernel
theorem dX12_one_118 : decode cX12_one 118 = .ok (.aload_n 0, 1) := by decide +kernel
theorem dX12_one_119 : decode cX12_one 119 = .ok (.getfield 103, 3) := by decide +kernel
theorem dX12_one_122 : decode cX12_one 122 = .ok (.invokevirtual 106, 3) := by decide +kernel
theorem dX12_one_125 : decode cX12_one 125 = .ok (.bipush 40, 2) := by decide +kernel
theorem dX12_one_127 : decode cX12_one 127 = .ok (.if_icmp .ne 42, 3) := by decide +kernel
theorem dX12_one_130 : decode cX12_one 130 = .ok (.aload_n 0, 1) := by decide +kernel
theorem dX12_one_131 : decode cX12_one 131 = .ok (.invokevirtual 217, 3) := by decide +kernel
theorem dX12_one_134 : decode cX12_one 134 = .ok (.ifCond .ne 4, 3) := by decide +kernel
theorem dX12_one_137 : decode cX12_one 137 = .ok (.return_, 1) := by decide +kernel
theorem dX12_one_138 : decode cX12_one 138 = .ok (.aload_n 0, 1) := by decide +kernel
theorem dX12_one_139 : decode cX12_one 139 = .ok (.dup, 1) := by decide +kernel
theorem dX12_one_140 : decode cX12_one 140 = .ok (.getfield 103, 3) := by decide +kernel
theorem dX12_one_143 : decode cX12_one 143 = .ok (.iconst 1, 1) := by decide +kernel
theorem dX12_one_144 : decode cX12_one 144 = .ok (.iadd, 1) := by decide +kernel
theorem dX12_one_145 : decode cX12_one 145 = .ok (.putfield 103, 3) := by decide +kernel
theorem dX12_one_148 : decode cX12_one 148 = .ok (.aload_n 0, 1) := by decide +kernel
theorem dX12_one_149 : decode cX12_one 149 = .ok (.invokevirtual 221, 3) := by decide +kernel
theorem dX12_one_152 : decode cX12_one 152 = .ok (.aload_n 0, 1) := by decide +kernel
theorem dX12_one_153 : decode cX12_one 153 = .ok (.bipush 41, 2) := by decide +kernel
theorem dX12_one_155 : decode cX12_one 155 = .ok (.invokevirtual 163, 3) := by decide +kernel
theorem dX12_one_158 : decode cX12_one 158 = .ok (.aload_n 0, 1) := by decide +kernel
theorem dX12_one_159 : decode cX12_one 159 = .ok (.dup, 1) := by decide +kernel
theorem dX12_one_160 : decode cX12_one 160 = .ok (.getfield 153, 3) := by decide +kernel
theorem dX12_one_163 : decode cX12_one 163 = .ok (.iconst 1, 1) := by decide +kernel
theorem dX12_one_164 : decode cX12_one 164 = .ok (.isub, 1) := by decide +kernel
theorem dX12_one_165 : decode cX12_one 165 = .ok (.putfield 153, 3) := by decide +kernel
theorem dX12_one_168 : decode cX12_one 168 = .ok (.return_, 1) := by decide +kernel
theorem dX12_one_169 : decode cX12_one 169 = .ok (.aload_n 0, 1) := by decide +kernel
theorem dX12_one_170 : decode cX12_one 170 = .ok (.invokevirtual 224, 3) := by decide +kernel
theorem dX12_one_173 : decode cX12_one 173 = .ok (.istore_n 2, 1) := by decide +kernel
theorem dX12_one_174 : decode cX12_one 174 = .ok (.iload_n 2, 1) := by decide +kernel
theorem dX12_one_175 : decode cX12_one 175 = .ok (.iconst (-1), 1) := by decide +kernel
theorem dX12_one_176 : decode cX12_one 176 = .ok (.if_icmp .eq 12, 3) := by decide +kernel
theorem dX12_one_179 : decode cX12_one 179 = .ok (.aload_n 0, 1) := by decide +kernel
theorem dX12_one_180 : decode cX12_one 180 = .ok (.iconst 1, 1) := by decide +kernel
theorem dX12_one_181 : decode cX12_one 181 = .ok (.iload_n 2, 1) := by decide +kernel
theorem dX12_one_182 : decode cX12_one 182 = .ok (.invokevirtual 208, 3) := by decide +kernel
theorem dX12_one_185 : decode cX12_one 185 = .ok (.goto 16, 3) := by decide +kernel
theorem dX12_one_188 : decode cX12_one 188 = .ok (.aload_n 0, 1) := by decide +kernel
theorem dX12_one_189 : decode cX12_one 189 = .ok (.iconst 0, 1) := by decide +kernel
theorem dX12_one_190 : decode cX12_one 190 = .ok (.aload_n 0, 1) := by decide +kernel
theorem dX12_one_191 : decode cX12_one 191 = .ok (.iconst 0, 1) := by decide +kernel
theorem dX12_one_192 : decode cX12_one 192 = .ok (.sipush 999, 3) := by decide +kernel
theorem dX12_one_195 : decode cX12_one 195 = .ok (.invokevirtual 159, 3) := by decide +kernel
theorem dX12_one_198 : decode cX12_one 198 = .ok (.invokevirtual 208, 3) := by decide +kernel
theorem dX12_one_201 : decode cX12_one 201 = .ok (.return_, 1) := by decide +kernel
theorem dX12_law_0 : decode cX12_law 0 = .ok (.aload_n 0, 1) := by decide +kernel
theorem dX12_law_1 : decode cX12_law 1 = .ok (.iconst 0, 1) := by decide +kernel
theorem dX12_law_2 : decode cX12_law 2 = .ok (.putfield 94, 3) := by decide +kernel
theorem dX12_law_5 : decode cX12_law 5 = .ok (.aload_n 0, 1) := by decide +kernel
theorem dX12_law_6 : decode cX12_law 6 = .ok (.iload_n 1, 1) := by decide +kernel
theorem dX12_law_7 : decode cX12_law 7 = .ok (.iconst 0, 1) := by decide +kernel
theorem dX12_law_8 : decode cX12_law 8 = .ok (.aload_n 0, 1) := by decide +kernel
theorem dX12_law_9 : decode cX12_law 9 = .ok (.getfield 97, 3) := by decide +kernel
theorem dX12_law_12 : decode cX12_law 12 = .ok (.invokestatic 128, 3) := by decide +kernel
theorem dX12_law_15 : decode cX12_law 15 = .ok (.ifCond .eq 10, 3) := by decide +kernel
theorem dX12_law_18 : decode cX12_law 18 = .ok (.iload_n 1, 1) := by decide +kernel
theorem dX12_law_19 : decode cX12_law 19 = .ok (.sipush 150, 3) := by decide +kernel
theorem dX12_law_22 : decode cX12_law 22 = .ok (.if_icmp .le 7, 3) := by decide +kernel
theorem dX12_law_25 : decode cX12_law 25 = .ok (.iconst 1, 1) := by decide +kernel
theorem dX12_law_26 : decode cX12_law 26 = .ok (.goto 4, 3) := by decide +kernel
theorem dX12_law_29 : decode cX12_law 29 = .ok (.iconst 0, 1) := by decide +kernel
theorem dX12_law_30 : decode cX12_law 30 = .ok (.iconst 1, 1) := by decide +kernel
theorem dX12_law_31 : decode cX12_law 31 = .ok (.iconst 1, 1) := by decide +kernel
theorem dX12_law_32 : decode cX12_law 32 = .ok (.invokevirtual 167, 3) := by decide +kernel
theorem dX12_law_35 : decode cX12_law 35 = .ok (.ifCond .eq 5, 3) := by decide +kernel
theorem dX12_law_38 : decode cX12_law 38 = .ok (.iconst 0, 1) := by decide +kernel
theorem dX12_law_39 : decode cX12_law 39 = .ok (.ireturn, 1) := by decide +kernel
theorem dX12_law_40 : decode cX12_law 40 = .ok (.aload_n 0, 1) := by decide +kernel
theorem dX12_law_41 : decode cX12_law 41 = .ok (.iload_n 1, 1) := by decide +kernel
theorem dX12_law_42 : decode cX12_law 42 = .ok (.invokevirtual 171, 3) := by decide +kernel
theorem dX12_law_45 : decode cX12_law 45 = .ok (.aload_n 0, 1) := by decide +kernel
theorem dX12_law_46 : decode cX12_law 46 = .ok (.iconst 0, 1) := by decide +kernel
theorem dX12_law_47 : decode cX12_law 47 = .ok (.putfield 199, 3) := by decide +kernel
theorem dX12_law_50 : decode cX12_law 50 = .ok (.aload_n 0, 1) := by decide +kernel
theorem dX12_law_51 : decode cX12_law 51 = .ok (.invokevirtual 221, 3) := by decide +kernel
theorem dX12_law_54 : decode cX12_law 54 = .ok (.aload_n 0, 1) := by decide +kernel
theorem dX12_law_55 : decode cX12_law 55 = .ok (.invokevirtual 116, 3) := by decide +kernel
theorem dX12_law_58 : decode cX12_law 58 = .ok (.aload_n 0, 1) := by decide +kernel
theorem dX12_law_59 : decode cX12_law 59 = .ok (.getfield 110, 3) := by decide +kernel
theorem dX12_law_62 : decode cX12_law 62 = .ok (.ifCond .ne 23, 3) := by decide +kernel
theorem dX12_law_65 : decode cX12_law 65 = .ok (.aload_n 0, 1) := by decide +kernel
theorem dX12_law_66 : decode cX12_law 66 = .ok (.getfield 103, 3) := by decide +kernel
theorem dX12_law_69 : decode cX12_law 69 = .ok (.aload_n 0, 1) := by decide +kernel
theorem dX12_law_70 : decode cX12_law 70 = .ok (.getfield 100, 3) := by decide +kernel
theorem dX12_law_73 : decode cX12_law 73 = .ok (.if_icmp .ge 12, 3) := by decide +kernel
theorem dX12_law_76 : decode cX12_law 76 = .ok (.aload_n 0, 1) := by decide +kernel
theorem dX12_law_77 : decode cX12_law 77 = .ok (.iconst 1, 1) := by decide +kernel
theorem dX12_law_78 : decode cX12_law 78 = .ok (.aload_n 0, 1) := by decide +kernel
theorem dX12_law_79 : decode cX12_law 79 = .ok (.getfield 103, 3) := by decide +kernel
theorem dX12_law_82 : decode cX12_law 82 = .ok (.invokevirtual 123, 3) := by decide +kernel
theorem dX12_law_85 : decode cX12_law 85 = .ok (.aload_n 0, 1) := by decide +kernel
theorem dX12_law_86 : decode cX12_law 86 = .ok (.getfield 110, 3) := by decide +kernel
theorem dX12_law_89 : decode cX12_law 89 = .ok (.ifCond .eq 8, 3) := by decide +kernel
theorem dX12_law_92 : decode cX12_law 92 = .ok (.aload_n 0, 1) := by decide +kernel
theorem dX12_law_93 : decode cX12_law 93 = .ok (.invokevirtual 177, 3) := by decide +kernel
theorem dX12_law_96 : decode cX12_law 96 = .ok (.ireturn, 1) := by decide +kernel
theorem dX12_law_97 : decode cX12_law 97 = .ok (.aload_n 0, 1) := by decide +kernel
theorem dX12_law_98 : decode cX12_law 98 = .ok (.iconst (-1), 1) := by decide +kernel
theorem dX12_law_99 : decode cX12_law 99 = .ok (.putfield 9, 3) := by decide +kernel
theorem dX12_law_102 : decode cX12_law 102 = .ok (.aload_n 0, 1) := by decide +kernel
theorem dX12_law_103 : decode cX12_law 103 = .ok (.aload_n 0, 1) := by decide +kernel
theorem dX12_law_104 : decode cX12_law 104 = .ok (.getfield 199, 3) := by decide +kernel
theorem dX12_law_107 : decode cX12_law 107 = .ok (.putfield 184, 3) := by decide +kernel
theorem dX12_law_110 : decode cX12_law 110 = .ok (.aload_n 0, 1) := by decide +kernel
theorem dX12_law_111 : decode cX12_law 111 = .ok (.getfield 43, 3) := by decide +kernel
theorem dX12_law_114 : decode cX12_law 114 = .ok (.aload_n 0, 1) := by decide +kernel
theorem dX12_law_115 : decode cX12_law 115 = .ok (.getfield 40, 3) := by decide +kernel
theorem dX12_law_118 : decode cX12_law 118 = .ok (.aload_n 0, 1) := by decide +kernel
theorem dX12_law_119 : decode cX12_law 119 = .ok (.getfield 184, 3) := by decide +kernel
theorem dX12_law_122 : decode cX12_law 122 = .ok (.invokestatic 180, 3) := by decide +kernel
theorem dX12_law_125 : decode cX12_law 125 = .ok (.iconst 1, 1) := by decide +kernel
theorem dX12_law_126 : decode cX12_law 126 = .ok (.ireturn, 1) := by decide +kernel
theorem dX12_by_0 : decode cX12_by 0 = .ok (.iload_n 0, 1) := by decide +kernel
theorem dX12_by_1 : decode cX12_by 1 = .ok (.tableswitch 96 2 7 #[39, 43, 47, 51, 73, 90], 39) := by decide +kernel
theorem dX12_by_40 : decode cX12_by 40 = .ok (.iload_n 1, 1) := by decide +kernel
theorem dX12_by_41 : decode cX12_by 41 = .ok (.iload_n 2, 1) := by decide +kernel
theorem dX12_by_42 : decode cX12_by 42 = .ok (.iadd, 1) := by decide +kernel
theorem dX12_by_43 : decode cX12_by 43 = .ok (.ireturn, 1) := by decide +kernel
theorem dX12_by_44 : decode cX12_by 44 = .ok (.iload_n 1, 1) := by decide +kernel
theorem dX12_by_45 : decode cX12_by 45 = .ok (.iload_n 2, 1) := by decide +kernel
theorem dX12_by_46 : decode cX12_by 46 = .ok (.isub, 1) := by decide +kernel
theorem dX12_by_47 : decode cX12_by 47 = .ok (.ireturn, 1) := by decide +kernel
theorem dX12_by_48 : decode cX12_by 48 = .ok (.iload_n 1, 1) := by decide +kernel
theorem dX12_by_49 : decode cX12_by 49 = .ok (.iload_n 2, 1) := by decide +kernel
theorem dX12_by_50 : decode cX12_by 50 = .ok (.imul, 1) := by decide +kernel
theorem dX12_by_51 : decode cX12_by 51 = .ok (.ireturn, 1) := by decide +kernel
theorem dX12_by_52 : decode cX12_by 52 = .ok (.iload_n 2, 1) := by decide +kernel
theorem dX12_by_53 : decode cX12_by 53 = .ok (.ifCond .ne 7, 3) := by decide +kernel
theorem dX12_by_56 : decode cX12_by 56 = .ok (.iconst 0, 1) := by decide +kernel
theorem dX12_by_57 : decode cX12_by 57 = .ok (.goto 16, 3) := by decide +kernel
theorem dX12_by_60 : decode cX12_by 60 = .ok (.iload_n 2, 1) := by decide +kernel
theorem dX12_by_61 : decode cX12_by 61 = .ok (.iconst (-1), 1) := by decide +kernel
theorem dX12_by_62 : decode cX12_by 62 = .ok (.if_icmp .ne 8, 3) := by decide +kernel
theorem dX12_by_65 : decode cX12_by 65 = .ok (.iload_n 1, 1) := by decide +kernel
theorem dX12_by_66 : decode cX12_by 66 = .ok (.ineg, 1) := by decide +kernel
theorem dX12_by_67 : decode cX12_by 67 = .ok (.goto 6, 3) := by decide +kernel
theorem dX12_by_70 : decode cX12_by 70 = .ok (.iload_n 1, 1) := by decide +kernel
theorem dX12_by_71 : decode cX12_by 71 = .ok (.iload_n 2, 1) := by decide +kernel
theorem dX12_by_72 : decode cX12_by 72 = .ok (.idiv, 1) := by decide +kernel
theorem dX12_by_73 : decode cX12_by 73 = .ok (.ireturn, 1) := by decide +kernel
theorem dX12_by_74 : decode cX12_by 74 = .ok (.iload_n 2, 1) := by decide +kernel
theorem dX12_by_75 : decode cX12_by 75 = .ok (.ifCond .eq 8, 3) := by decide +kernel
theorem dX12_by_78 : decode cX12_by 78 = .ok (.iload_n 2, 1) := by decide +kernel
theorem dX12_by_79 : decode cX12_by 79 = .ok (.iconst (-1), 1) := by decide +kernel
theorem dX12_by_80 : decode cX12_by 80 = .ok (.if_icmp .ne 7, 3) := by decide +kernel
theorem dX12_by_83 : decode cX12_by 83 = .ok (.iconst 0, 1) := by decide +kernel
theorem dX12_by_84 : decode cX12_by 84 = .ok (.goto 6, 3) := by decide +kernel
theorem dX12_by_87 : decode cX12_by 87 = .ok (.iload_n 1, 1) := by decide +kernel
theorem dX12_by_88 : decode cX12_by 88 = .ok (.iload_n 2, 1) := by decide +kernel
theorem dX12_by_89 : decode cX12_by 89 = .ok (.irem, 1) := by decide +kernel
theorem dX12_by_90 : decode cX12_by 90 = .ok (.ireturn, 1) := by decide +kernel
theorem dX12_by_91 : decode cX12_by 91 = .ok (.iload_n 1, 1) := by decide +kernel
theorem dX12_by_92 : decode cX12_by 92 = .ok (.iload_n 2, 1) := by decide +kernel
theorem dX12_by_93 : decode cX12_by 93 = .ok (.invokestatic 227, 3) := by decide +kernel
theorem dX12_by_96 : decode cX12_by 96 = .ok (.ireturn, 1) := by decide +kernel
theorem dX12_by_97 : decode cX12_by 97 = .ok (.iload_n 1, 1) := by decide +kernel
theorem dX12_by_98 : decode cX12_by 98 = .ok (.iload_n 2, 1) := by decide +kernel
theorem dX12_by_99 : decode cX12_by 99 = .ok (.invokestatic 230, 3) := by decide +kernel
theorem dX12_by_102 : decode cX12_by 102 = .ok (.ireturn, 1) := by decide +kernel
theorem dX12_byLaw_0 : decode cX12_byLaw 0 = .ok (.iconst 0, 1) := by decide +kernel
theorem dX12_byLaw_1 : decode cX12_byLaw 1 = .ok (.istore_n 1, 1) := by decide +kernel
theorem dX12_byLaw_2 : decode cX12_byLaw 2 = .ok (.aload_n 0, 1) := by decide +kernel
theorem dX12_byLaw_3 : decode cX12_byLaw 3 = .ok (.getfield 52, 3) := by decide +kernel
theorem dX12_byLaw_6 : decode cX12_byLaw 6 = .ok (.iconst 0, 1) := by decide +kernel
theorem dX12_byLaw_7 : decode cX12_byLaw 7 = .ok (.aload_n 0, 1) := by decide +kernel
theorem dX12_byLaw_8 : decode cX12_byLaw 8 = .ok (.getfield 55, 3) := by decide +kernel
theorem dX12_byLaw_11 : decode cX12_byLaw 11 = .ok (.iconst 0, 1) := by decide +kernel
theorem dX12_byLaw_12 : decode cX12_byLaw 12 = .ok (.iaload, 1) := by decide +kernel
theorem dX12_byLaw_13 : decode cX12_byLaw 13 = .ok (.aload_n 0, 1) := by decide +kernel
theorem dX12_byLaw_14 : decode cX12_byLaw 14 = .ok (.getfield 55, 3) := by decide +kernel
theorem dX12_byLaw_17 : decode cX12_byLaw 17 = .ok (.iconst 2, 1) := by decide +kernel
theorem dX12_byLaw_18 : decode cX12_byLaw 18 = .ok (.iaload, 1) := by decide +kernel
theorem dX12_byLaw_19 : decode cX12_byLaw 19 = .ok (.iadd, 1) := by decide +kernel
theorem dX12_byLaw_20 : decode cX12_byLaw 20 = .ok (.iastore, 1) := by decide +kernel
theorem dX12_byLaw_21 : decode cX12_byLaw 21 = .ok (.iconst 0, 1) := by decide +kernel
theorem dX12_byLaw_22 : decode cX12_byLaw 22 = .ok (.istore_n 2, 1) := by decide +kernel
theorem dX12_byLaw_23 : decode cX12_byLaw 23 = .ok (.iload_n 2, 1) := by decide +kernel
theorem dX12_byLaw_24 : decode cX12_byLaw 24 = .ok (.aload_n 0, 1) := by decide +kernel
theorem dX12_byLaw_25 : decode cX12_byLaw 25 = .ok (.getfield 184, 3) := by decide +kernel
theorem dX12_byLaw_28 : decode cX12_byLaw 28 = .ok (.if_icmp .ge 104, 3) := by decide +kernel
theorem dX12_byLaw_31 : decode cX12_byLaw 31 = .ok (.aload_n 0, 1) := by decide +kernel
theorem dX12_byLaw_32 : decode cX12_byLaw 32 = .ok (.getfield 40, 3) := by decide +kernel
theorem dX12_byLaw_35 : decode cX12_byLaw 35 = .ok (.iload_n 2, 1) := by decide +kernel
theorem dX12_byLaw_36 : decode cX12_byLaw 36 = .ok (.aaload, 1) := by decide +kernel
theorem dX12_byLaw_37 : decode cX12_byLaw 37 = .ok (.iconst 0, 1) := by decide +kernel
theorem dX12_byLaw_38 : decode cX12_byLaw 38 = .ok (.iaload, 1) := by decide +kernel
theorem dX12_byLaw_39 : decode cX12_byLaw 39 = .ok (.iconst 2, 1) := by decide +kernel
theorem dX12_byLaw_40 : decode cX12_byLaw 40 = .ok (.if_icmp .ge 50, 3) := by decide +kernel
theorem dX12_byLaw_43 : decode cX12_byLaw 43 = .ok (.aload_n 0, 1) := by decide +kernel
theorem dX12_byLaw_44 : decode cX12_byLaw 44 = .ok (.getfield 52, 3) := by decide +kernel
theorem dX12_byLaw_47 : decode cX12_byLaw 47 = .ok (.iload_n 1, 1) := by decide +kernel
theorem dX12_byLaw_48 : decode cX12_byLaw 48 = .ok (.aload_n 0, 1) := by decide +kernel
theorem dX12_byLaw_49 : decode cX12_byLaw 49 = .ok (.getfield 40, 3) := by decide +kernel
theorem dX12_byLaw_52 : decode cX12_byLaw 52 = .ok (.iload_n 2, 1) := by decide +kernel
theorem dX12_byLaw_53 : decode cX12_byLaw 53 = .ok (.aaload, 1) := by decide +kernel
theorem dX12_byLaw_54 : decode cX12_byLaw 54 = .ok (.iconst 0, 1) := by decide +kernel
theorem dX12_byLaw_55 : decode cX12_byLaw 55 = .ok (.iaload, 1) := by decide +kernel
theorem dX12_byLaw_56 : decode cX12_byLaw 56 = .ok (.ifCond .ne 14, 3) := by decide +kernel
theorem dX12_byLaw_59 : decode cX12_byLaw 59 = .ok (.aload_n 0, 1) := by decide +kernel
theorem dX12_byLaw_60 : decode cX12_byLaw 60 = .ok (.getfield 40, 3) := by decide +kernel
theorem dX12_byLaw_63 : decode cX12_byLaw 63 = .ok (.iload_n 2, 1) := by decide +kernel
theorem dX12_byLaw_64 : decode cX12_byLaw 64 = .ok (.aaload, 1) := by decide +kernel
theorem dX12_byLaw_65 : decode cX12_byLaw 65 = .ok (.iconst 1, 1) := by decide +kernel
theorem dX12_byLaw_66 : decode cX12_byLaw 66 = .ok (.iaload, 1) := by decide +kernel
theorem dX12_byLaw_67 : decode cX12_byLaw 67 = .ok (.goto 16, 3) := by decide +kernel
theorem dX12_byLaw_70 : decode cX12_byLaw 70 = .ok (.aload_n 0, 1) := by decide +kernel
theorem dX12_byLaw_71 : decode cX12_byLaw 71 = .ok (.getfield 55, 3) := by decide +kernel
theorem dX12_byLaw_74 : decode cX12_byLaw 74 = .ok (.aload_n 0, 1) := by decide +kernel
theorem dX12_byLaw_75 : decode cX12_byLaw 75 = .ok (.getfield 40, 3) := by decide +kernel
theorem dX12_byLaw_78 : decode cX12_byLaw 78 = .ok (.iload_n 2, 1) := by decide +kernel
theorem dX12_byLaw_79 : decode cX12_byLaw 79 = .ok (.aaload, 1) := by decide +kernel
theorem dX12_byLaw_80 : decode cX12_byLaw 80 = .ok (.iconst 1, 1) := by decide +kernel
theorem dX12_byLaw_81 : decode cX12_byLaw 81 = .ok (.iaload, 1) := by decide +kernel
theorem dX12_byLaw_82 : decode cX12_byLaw 82 = .ok (.iaload, 1) := by decide +kernel
theorem dX12_byLaw_83 : decode cX12_byLaw 83 = .ok (.iastore, 1) := by decide +kernel
theorem dX12_byLaw_84 : decode cX12_byLaw 84 = .ok (.iinc 1 1, 3) := by decide +kernel
theorem dX12_byLaw_87 : decode cX12_byLaw 87 = .ok (.goto 39, 3) := by decide +kernel
theorem dX12_byLaw_90 : decode cX12_byLaw 90 = .ok (.iinc 1 (-1), 3) := by decide +kernel
theorem dX12_byLaw_93 : decode cX12_byLaw 93 = .ok (.aload_n 0, 1) := by decide +kernel
theorem dX12_byLaw_94 : decode cX12_byLaw 94 = .ok (.getfield 52, 3) := by decide +kernel
theorem dX12_byLaw_97 : decode cX12_byLaw 97 = .ok (.iload_n 1, 1) := by decide +kernel
theorem dX12_byLaw_98 : decode cX12_byLaw 98 = .ok (.iconst 1, 1) := by decide +kernel
theorem dX12_byLaw_99 : decode cX12_byLaw 99 = .ok (.isub, 1) := by decide +kernel
theorem dX12_byLaw_100 : decode cX12_byLaw 100 = .ok (.aload_n 0, 1) := by decide +kernel
theorem dX12_byLaw_101 : decode cX12_byLaw 101 = .ok (.getfield 40, 3) := by decide +kernel
theorem dX12_byLaw_104 : decode cX12_byLaw 104 = .ok (.iload_n 2, 1) := by decide +kernel
theorem dX12_byLaw_105 : decode cX12_byLaw 105 = .ok (.aaload, 1) := by decide +kernel
theorem dX12_byLaw_106 : decode cX12_byLaw 106 = .ok (.iconst 0, 1) := by decide +kernel
theorem dX12_byLaw_107 : decode cX12_byLaw 107 = .ok (.iaload, 1) := by decide +kernel
theorem dX12_byLaw_108 : decode cX12_byLaw 108 = .ok (.aload_n 0, 1) := by decide +kernel
theorem dX12_byLaw_109 : decode cX12_byLaw 109 = .ok (.getfield 52, 3) := by decide +kernel
theorem dX12_byLaw_112 : decode cX12_byLaw 112 = .ok (.iload_n 1, 1) := by decide +kernel
theorem dX12_byLaw_113 : decode cX12_byLaw 113 = .ok (.iconst 1, 1) := by decide +kernel
theorem dX12_byLaw_114 : decode cX12_byLaw 114 = .ok (.isub, 1) := by decide +kernel
theorem dX12_byLaw_115 : decode cX12_byLaw 115 = .ok (.iaload, 1) := by decide +kernel
theorem dX12_byLaw_116 : decode cX12_byLaw 116 = .ok (.aload_n 0, 1) := by decide +kernel
theorem dX12_byLaw_117 : decode cX12_byLaw 117 = .ok (.getfield 52, 3) := by decide +kernel
theorem dX12_byLaw_120 : decode cX12_byLaw 120 = .ok (.iload_n 1, 1) := by decide +kernel
theorem dX12_byLaw_121 : decode cX12_byLaw 121 = .ok (.iaload, 1) := by decide +kernel
theorem dX12_byLaw_122 : decode cX12_byLaw 122 = .ok (.invokestatic 233, 3) := by decide +kernel
theorem dX12_byLaw_125 : decode cX12_byLaw 125 = .ok (.iastore, 1) := by decide +kernel
theorem dX12_byLaw_126 : decode cX12_byLaw 126 = .ok (.iinc 2 1, 3) := by decide +kernel
theorem dX12_byLaw_129 : decode cX12_byLaw 129 = .ok (.goto (-106), 3) := by decide +kernel
theorem dX12_byLaw_132 : decode cX12_byLaw 132 = .ok (.bipush 63, 2) := by decide +kernel
theorem dX12_byLaw_134 : decode cX12_byLaw 134 = .ok (.iconst 0, 1) := by decide +kernel
theorem dX12_byLaw_135 : decode cX12_byLaw 135 = .ok (.aload_n 0, 1) := by decide +kernel
theorem dX12_byLaw_136 : decode cX12_byLaw 136 = .ok (.getfield 52, 3) := by decide +kernel
theorem dX12_byLaw_139 : decode cX12_byLaw 139 = .ok (.iconst 0, 1) := by decide +kernel
theorem dX12_byLaw_140 : decode cX12_byLaw 140 = .ok (.iaload, 1) := by decide +kernel
theorem dX12_byLaw_141 : decode cX12_byLaw 141 = .ok (.invokestatic 230, 3) := by decide +kernel
theorem dX12_byLaw_144 : decode cX12_byLaw 144 = .ok (.invokestatic 227, 3) := by decide +kernel
theorem dX12_byLaw_147 : decode cX12_byLaw 147 = .ok (.ireturn, 1) := by decide +kernel
theorem dX12_stepHere_0 : decode cX12_stepHere 0 = .ok (.aload_n 0, 1) := by decide +kernel
theorem dX12_stepHere_1 : decode cX12_stepHere 1 = .ok (.bipush 20, 2) := by decide +kernel
theorem dX12_stepHere_3 : decode cX12_stepHere 3 = .ok (.iconst 1, 1) := by decide +kernel
theorem dX12_stepHere_4 : decode cX12_stepHere 4 = .ok (.bipush 11, 2) := by decide +kernel
theorem dX12_stepHere_6 : decode cX12_stepHere 6 = .ok (.iconst 5, 1) := by decide +kernel
theorem dX12_stepHere_7 : decode cX12_stepHere 7 = .ok (.iconst 0, 1) := by decide +kernel
theorem dX12_stepHere_8 : decode cX12_stepHere 8 = .ok (.iconst 0, 1) := by decide +kernel
theorem dX12_stepHere_9 : decode cX12_stepHere 9 = .ok (.invokevirtual 143, 3) := by decide +kernel
theorem dX12_stepHere_12 : decode cX12_stepHere 12 = .ok (.ifCond .eq 5, 3) := by decide +kernel
theorem dX12_stepHere_15 : decode cX12_stepHere 15 = .ok (.iconst 0, 1) := by decide +kernel
theorem dX12_stepHere_16 : decode cX12_stepHere 16 = .ok (.ireturn, 1) := by decide +kernel
theorem dX12_stepHere_17 : decode cX12_stepHere 17 = .ok (.aload_n 0, 1) := by decide +kernel
theorem dX12_stepHere_18 : decode cX12_stepHere 18 = .ok (.bipush 13, 2) := by decide +kernel
theorem dX12_stepHere_20 : decode cX12_stepHere 20 = .ok (.bipush 15, 2) := by decide +kernel
theorem dX12_stepHere_22 : decode cX12_stepHere 22 = .ok (.bipush 15, 2) := by decide +kernel
theorem dX12_stepHere_24 : decode cX12_stepHere 24 = .ok (.iconst 4, 1) := by decide +kernel
theorem dX12_stepHere_25 : decode cX12_stepHere 25 = .ok (.iconst 0, 1) := by decide +kernel
theorem dX12_stepHere_26 : decode cX12_stepHere 26 = .ok (.iconst 0, 1) := by decide +kernel
theorem dX12_stepHere_27 : decode cX12_stepHere 27 = .ok (.invokevirtual 143, 3) := by decide +kernel
theorem dX12_stepHere_30 : decode cX12_stepHere 30 = .ok (.ifCond .eq 5, 3) := by decide +kernel
theorem dX12_stepHere_33 : decode cX12_stepHere 33 = .ok (.iconst 1, 1) := by decide +kernel
theorem dX12_stepHere_34 : decode cX12_stepHere 34 = .ok (.ireturn, 1) := by decide +kernel
theorem dX12_stepHere_35 : decode cX12_stepHere 35 = .ok (.aload_n 0, 1) := by decide +kernel
theorem dX12_stepHere_36 : decode cX12_stepHere 36 = .ok (.iconst 2, 1) := by decide +kernel
theorem dX12_stepHere_37 : decode cX12_stepHere 37 = .ok (.bipush 21, 2) := by decide +kernel
theorem dX12_stepHere_39 : decode cX12_stepHere 39 = .ok (.bipush 18, 2) := by decide +kernel
theorem dX12_stepHere_41 : decode cX12_stepHere 41 = .ok (.bipush 14, 2) := by decide +kernel
theorem dX12_stepHere_43 : decode cX12_stepHere 43 = .ok (.iconst 0, 1) := by decide +kernel
theorem dX12_stepHere_44 : decode cX12_stepHere 44 = .ok (.iconst 0, 1) := by decide +kernel
theorem dX12_stepHere_45 : decode cX12_stepHere 45 = .ok (.invokevirtual 143, 3) := by decide +kernel
theorem dX12_stepHere_48 : decode cX12_stepHere 48 = .ok (.ifCond .eq 5, 3) := by decide +kernel
theorem dX12_stepHere_51 : decode cX12_stepHere 51 = .ok (.iconst 2, 1) := by decide +kernel
theorem dX12_stepHere_52 : decode cX12_stepHere 52 = .ok (.ireturn, 1) := by decide +kernel
theorem dX12_stepHere_53 : decode cX12_stepHere 53 = .ok (.aload_n 0, 1) := by decide +kernel
theorem dX12_stepHere_54 : decode cX12_stepHere 54 = .ok (.bipush 25, 2) := by decide +kernel
theorem dX12_stepHere_56 : decode cX12_stepHere 56 = .ok (.iconst 5, 1) := by decide +kernel
theorem dX12_stepHere_57 : decode cX12_stepHere 57 = .ok (.iconst 1, 1) := by decide +kernel
theorem dX12_stepHere_58 : decode cX12_stepHere 58 = .ok (.bipush 18, 2) := by decide +kernel
theorem dX12_stepHere_60 : decode cX12_stepHere 60 = .ok (.iconst 0, 1) := by decide +kernel
theorem dX12_stepHere_61 : decode cX12_stepHere 61 = .ok (.iconst 0, 1) := by decide +kernel
theorem dX12_stepHere_62 : decode cX12_stepHere 62 = .ok (.invokevirtual 143, 3) := by decide +kernel
theorem dX12_stepHere_65 : decode cX12_stepHere 65 = .ok (.ifCond .eq 5, 3) := by decide +kernel
theorem dX12_stepHere_68 : decode cX12_stepHere 68 = .ok (.iconst 3, 1) := by decide +kernel
theorem dX12_stepHere_69 : decode cX12_stepHere 69 = .ok (.ireturn, 1) := by decide +kernel
theorem dX12_stepHere_70 : decode cX12_stepHere 70 = .ok (.aload_n 0, 1) := by decide +kernel
theorem dX12_stepHere_71 : decode cX12_stepHere 71 = .ok (.iconst 1, 1) := by decide +kernel
theorem dX12_stepHere_72 : decode cX12_stepHere 72 = .ok (.bipush 7, 2) := by decide +kernel
theorem dX12_stepHere_74 : decode cX12_stepHere 74 = .ok (.iconst 1, 1) := by decide +kernel
theorem dX12_stepHere_75 : decode cX12_stepHere 75 = .ok (.bipush 9, 2) := by decide +kernel
theorem dX12_stepHere_77 : decode cX12_stepHere 77 = .ok (.bipush 14, 2) := by decide +kernel
theorem dX12_stepHere_79 : decode cX12_stepHere 79 = .ok (.iconst 0, 1) := by decide +kernel
theorem dX12_stepHere_80 : decode cX12_stepHere 80 = .ok (.invokevirtual 143, 3) := by decide +kernel
theorem dX12_stepHere_83 : decode cX12_stepHere 83 = .ok (.ifCond .eq 7, 3) := by decide +kernel
theorem dX12_stepHere_86 : decode cX12_stepHere 86 = .ok (.iconst 4, 1) := by decide +kernel
theorem dX12_stepHere_87 : decode cX12_stepHere 87 = .ok (.goto 4, 3) := by decide +kernel
theorem dX12_stepHere_90 : decode cX12_stepHere 90 = .ok (.iconst (-1), 1) := by decide +kernel
theorem dX12_stepHere_91 : decode cX12_stepHere 91 = .ok (.ireturn, 1) := by decide +kernel
theorem dX12_readsStep_0 : decode cX12_readsStep 0 = .ok (.aload_n 0, 1) := by decide +kernel
theorem dX12_readsStep_1 : decode cX12_readsStep 1 = .ok (.invokevirtual 237, 3) := by decide +kernel
theorem dX12_readsStep_4 : decode cX12_readsStep 4 = .ok (.istore_n 1, 1) := by decide +kernel
theorem dX12_readsStep_5 : decode cX12_readsStep 5 = .ok (.iload_n 1, 1) := by decide +kernel
theorem dX12_readsStep_6 : decode cX12_readsStep 6 = .ok (.iconst (-1), 1) := by decide +kernel
theorem dX12_readsStep_7 : decode cX12_readsStep 7 = .ok (.if_icmp .ne 12, 3) := by decide +kernel
theorem dX12_readsStep_10 : decode cX12_readsStep 10 = .ok (.aload_n 0, 1) := by decide +kernel
theorem dX12_readsStep_11 : decode cX12_readsStep 11 = .ok (.iconst 1, 1) := by decide +kernel
theorem dX12_readsStep_12 : decode cX12_readsStep 12 = .ok (.aload_n 0, 1) := by decide +kernel
theorem dX12_readsStep_13 : decode cX12_readsStep 13 = .ok (.getfield 103, 3) := by decide +kernel
theorem dX12_readsStep_16 : decode cX12_readsStep 16 = .ok (.invokevirtual 123, 3) := by decide +kernel
theorem dX12_readsStep_19 : decode cX12_readsStep 19 = .ok (.iload_n 1, 1) := by decide +kernel
theorem dX12_readsStep_20 : decode cX12_readsStep 20 = .ok (.iconst 4, 1) := by decide +kernel
theorem dX12_readsStep_21 : decode cX12_readsStep 21 = .ok (.if_icmp .ne 11, 3) := by decide +kernel
theorem dX12_readsStep_24 : decode cX12_readsStep 24 = .ok (.aload_n 0, 1) := by decide +kernel
theorem dX12_readsStep_25 : decode cX12_readsStep 25 = .ok (.invokevirtual 217, 3) := by decide +kernel
theorem dX12_readsStep_28 : decode cX12_readsStep 28 = .ok (.ifCond .ne 4, 3) := by decide +kernel
theorem dX12_readsStep_31 : decode cX12_readsStep 31 = .ok (.return_, 1) := by decide +kernel
theorem dX12_readsStep_32 : decode cX12_readsStep 32 = .ok (.aload_n 0, 1) := by decide +kernel
theorem dX12_readsStep_33 : decode cX12_readsStep 33 = .ok (.getfield 110, 3) := by decide +kernel
theorem dX12_readsStep_36 : decode cX12_readsStep 36 = .ok (.ifCond .eq 4, 3) := by decide +kernel
theorem dX12_readsStep_39 : decode cX12_readsStep 39 = .ok (.return_, 1) := by decide +kernel
theorem dX12_readsStep_40 : decode cX12_readsStep 40 = .ok (.aload_n 0, 1) := by decide +kernel
theorem dX12_readsStep_41 : decode cX12_readsStep 41 = .ok (.invokevirtual 147, 3) := by decide +kernel
theorem dX12_readsStep_44 : decode cX12_readsStep 44 = .ok (.aload_n 0, 1) := by decide +kernel
theorem dX12_readsStep_45 : decode cX12_readsStep 45 = .ok (.getfield 58, 3) := by decide +kernel
theorem dX12_readsStep_48 : decode cX12_readsStep 48 = .ok (.aload_n 0, 1) := by decide +kernel
theorem dX12_readsStep_49 : decode cX12_readsStep 49 = .ok (.getfield 240, 3) := by decide +kernel
theorem dX12_readsStep_52 : decode cX12_readsStep 52 = .ok (.aaload, 1) := by decide +kernel
theorem dX12_readsStep_53 : decode cX12_readsStep 53 = .ok (.astore_n 2, 1) := by decide +kernel
theorem dX12_readsStep_54 : decode cX12_readsStep 54 = .ok (.aload_n 0, 1) := by decide +kernel
theorem dX12_readsStep_55 : decode cX12_readsStep 55 = .ok (.dup, 1) := by decide +kernel
theorem dX12_readsStep_56 : decode cX12_readsStep 56 = .ok (.getfield 240, 3) := by decide +kernel
theorem dX12_readsStep_59 : decode cX12_readsStep 59 = .ok (.iconst 1, 1) := by decide +kernel
theorem dX12_readsStep_60 : decode cX12_readsStep 60 = .ok (.iadd, 1) := by decide +kernel
theorem dX12_readsStep_61 : decode cX12_readsStep 61 = .ok (.putfield 240, 3) := by decide +kernel
theorem dX12_readsStep_64 : decode cX12_readsStep 64 = .ok (.aload_n 2, 1) := by decide +kernel
theorem dX12_readsStep_65 : decode cX12_readsStep 65 = .ok (.iconst 0, 1) := by decide +kernel
theorem dX12_readsStep_66 : decode cX12_readsStep 66 = .ok (.iload_n 1, 1) := by decide +kernel
theorem dX12_readsStep_67 : decode cX12_readsStep 67 = .ok (.iastore, 1) := by decide +kernel
theorem dX12_readsStep_68 : decode cX12_readsStep 68 = .ok (.iload_n 1, 1) := by decide +kernel
theorem dX12_readsStep_69 : decode cX12_readsStep 69 = .ok (.iconst 2, 1) := by decide +kernel
theorem dX12_readsStep_70 : decode cX12_readsStep 70 = .ok (.if_icmp .ge 19, 3) := by decide +kernel
theorem dX12_readsStep_73 : decode cX12_readsStep 73 = .ok (.aload_n 2, 1) := by decide +kernel
theorem dX12_readsStep_74 : decode cX12_readsStep 74 = .ok (.iconst 1, 1) := by decide +kernel
theorem dX12_readsStep_75 : decode cX12_readsStep 75 = .ok (.aload_n 0, 1) := by decide +kernel
theorem dX12_readsStep_76 : decode cX12_readsStep 76 = .ok (.iconst 0, 1) := by decide +kernel
theorem dX12_readsStep_77 : decode cX12_readsStep 77 = .ok (.aload_n 0, 1) := by decide +kernel
theorem dX12_readsStep_78 : decode cX12_readsStep 78 = .ok (.getfield 23, 3) := by decide +kernel
theorem dX12_readsStep_81 : decode cX12_readsStep 81 = .ok (.iconst 0, 1) := by decide +kernel
theorem dX12_readsStep_82 : decode cX12_readsStep 82 = .ok (.iaload, 1) := by decide +kernel
theorem dX12_readsStep_83 : decode cX12_readsStep 83 = .ok (.iconst 1, 1) := by decide +kernel
theorem dX12_readsStep_84 : decode cX12_readsStep 84 = .ok (.isub, 1) := by decide +kernel
theorem dX12_readsStep_85 : decode cX12_readsStep 85 = .ok (.invokevirtual 159, 3) := by decide +kernel
theorem dX12_readsStep_88 : decode cX12_readsStep 88 = .ok (.iastore, 1) := by decide +kernel
theorem dX12_readsStep_89 : decode cX12_readsStep 89 = .ok (.iload_n 1, 1) := by decide +kernel
theorem dX12_readsStep_90 : decode cX12_readsStep 90 = .ok (.ifCond .ne 19, 3) := by decide +kernel
theorem dX12_readsStep_93 : decode cX12_readsStep 93 = .ok (.aload_n 2, 1) := by decide +kernel
theorem dX12_readsStep_94 : decode cX12_readsStep 94 = .ok (.iconst 2, 1) := by decide +kernel
theorem dX12_readsStep_95 : decode cX12_readsStep 95 = .ok (.aload_n 0, 1) := by decide +kernel
theorem dX12_readsStep_96 : decode cX12_readsStep 96 = .ok (.iconst 0, 1) := by decide +kernel
theorem dX12_readsStep_97 : decode cX12_readsStep 97 = .ok (.aload_n 0, 1) := by decide +kernel
theorem dX12_readsStep_98 : decode cX12_readsStep 98 = .ok (.getfield 23, 3) := by decide +kernel
theorem dX12_readsStep_101 : decode cX12_readsStep 101 = .ok (.iconst 0, 1) := by decide +kernel
theorem dX12_readsStep_102 : decode cX12_readsStep 102 = .ok (.iaload, 1) := by decide +kernel
theorem dX12_readsStep_103 : decode cX12_readsStep 103 = .ok (.iconst 1, 1) := by decide +kernel
theorem dX12_readsStep_104 : decode cX12_readsStep 104 = .ok (.isub, 1) := by decide +kernel
theorem dX12_readsStep_105 : decode cX12_readsStep 105 = .ok (.invokevirtual 159, 3) := by decide +kernel
theorem dX12_readsStep_108 : decode cX12_readsStep 108 = .ok (.iastore, 1) := by decide +kernel
theorem dX12_readsStep_109 : decode cX12_readsStep 109 = .ok (.iload_n 1, 1) := by decide +kernel
theorem dX12_readsStep_110 : decode cX12_readsStep 110 = .ok (.iconst 1, 1) := by decide +kernel
theorem dX12_readsStep_111 : decode cX12_readsStep 111 = .ok (.if_icmp .ne 13, 3) := by decide +kernel
theorem dX12_readsStep_114 : decode cX12_readsStep 114 = .ok (.aload_n 2, 1) := by decide +kernel
theorem dX12_readsStep_115 : decode cX12_readsStep 115 = .ok (.iconst 2, 1) := by decide +kernel
theorem dX12_readsStep_116 : decode cX12_readsStep 116 = .ok (.aload_n 0, 1) := by decide +kernel
theorem dX12_readsStep_117 : decode cX12_readsStep 117 = .ok (.iconst 0, 1) := by decide +kernel
theorem dX12_readsStep_118 : decode cX12_readsStep 118 = .ok (.bipush 9, 2) := by decide +kernel
theorem dX12_readsStep_120 : decode cX12_readsStep 120 = .ok (.invokevirtual 159, 3) := by decide +kernel
theorem dX12_readsStep_123 : decode cX12_readsStep 123 = .ok (.iastore, 1) := by decide +kernel
theorem dX12_readsStep_124 : decode cX12_readsStep 124 = .ok (.iload_n 1, 1) := by decide +kernel
theorem dX12_readsStep_125 : decode cX12_readsStep 125 = .ok (.ifCond .eq 8, 3) := by decide +kernel
theorem dX12_readsStep_128 : decode cX12_readsStep 128 = .ok (.iload_n 1, 1) := by decide +kernel
theorem dX12_readsStep_129 : decode cX12_readsStep 129 = .ok (.iconst 2, 1) := by decide +kernel
theorem dX12_readsStep_130 : decode cX12_readsStep 130 = .ok (.if_icmp .ne 12, 3) := by decide +kernel
theorem dX12_readsStep_133 : decode cX12_readsStep 133 = .ok (.aload_n 2, 1) := by decide +kernel
theorem dX12_readsStep_134 : decode cX12_readsStep 134 = .ok (.iconst 3, 1) := by decide +kernel
theorem dX12_readsStep_135 : decode cX12_readsStep 135 = .ok (.aload_n 0, 1) := by decide +kernel
theorem dX12_readsStep_136 : decode cX12_readsStep 136 = .ok (.iconst 0, 1) := by decide +kernel
theorem dX12_readsStep_137 : decode cX12_readsStep 137 = .ok (.iconst 5, 1) := by decide +kernel
theorem dX12_readsStep_138 : decode cX12_readsStep 138 = .ok (.invokevirtual 159, 3) := by decide +kernel
theorem dX12_readsStep_141 : decode cX12_readsStep 141 = .ok (.iastore, 1) := by decide +kernel
theorem dX12_readsStep_142 : decode cX12_readsStep 142 = .ok (.iload_n 1, 1) := by decide +kernel
theorem dX12_readsStep_143 : decode cX12_readsStep 143 = .ok (.iconst 4, 1) := by decide +kernel
theorem dX12_readsStep_144 : decode cX12_readsStep 144 = .ok (.if_icmp .ne 70, 3) := by decide +kernel
theorem dX12_readsStep_147 : decode cX12_readsStep 147 = .ok (.aload_n 2, 1) := by decide +kernel
theorem dX12_readsStep_148 : decode cX12_readsStep 148 = .ok (.iconst 1, 1) := by decide +kernel
theorem dX12_readsStep_149 : decode cX12_readsStep 149 = .ok (.aload_n 0, 1) := by decide +kernel
theorem dX12_readsStep_150 : decode cX12_readsStep 150 = .ok (.iconst 0, 1) := by decide +kernel
theorem dX12_readsStep_151 : decode cX12_readsStep 151 = .ok (.bipush 30, 2) := by decide +kernel
theorem dX12_readsStep_153 : decode cX12_readsStep 153 = .ok (.invokevirtual 159, 3) := by decide +kernel
theorem dX12_readsStep_156 : decode cX12_readsStep 156 = .ok (.iastore, 1) := by decide +kernel
theorem dX12_readsStep_157 : decode cX12_readsStep 157 = .ok (.aload_n 0, 1) := by decide +kernel
theorem dX12_readsStep_158 : decode cX12_readsStep 158 = .ok (.bipush 91, 2) := by decide +kernel
theorem dX12_readsStep_160 : decode cX12_readsStep 160 = .ok (.invokevirtual 163, 3) := by decide +kernel
theorem dX12_readsStep_163 : decode cX12_readsStep 163 = .ok (.aload_n 0, 1) := by decide +kernel
theorem dX12_readsStep_164 : decode cX12_readsStep 164 = .ok (.invokevirtual 116, 3) := by decide +kernel
theorem dX12_readsStep_167 : decode cX12_readsStep 167 = .ok (.aload_n 0, 1) := by decide +kernel
theorem dX12_readsStep_168 : decode cX12_readsStep 168 = .ok (.getfield 110, 3) := by decide +kernel
theorem dX12_readsStep_171 : decode cX12_readsStep 171 = .ok (.ifCond .ne 27, 3) := by decide +kernel
theorem dX12_readsStep_174 : decode cX12_readsStep 174 = .ok (.aload_n 0, 1) := by decide +kernel
theorem dX12_readsStep_175 : decode cX12_readsStep 175 = .ok (.aload_n 0, 1) := by decide +kernel
theorem dX12_readsStep_176 : decode cX12_readsStep 176 = .ok (.getfield 103, 3) := by decide +kernel
theorem dX12_readsStep_179 : decode cX12_readsStep 179 = .ok (.invokevirtual 106, 3) := by decide +kernel
theorem dX12_readsStep_182 : decode cX12_readsStep 182 = .ok (.bipush 93, 2) := by decide +kernel
theorem dX12_readsStep_184 : decode cX12_readsStep 184 = .ok (.if_icmp .eq 14, 3) := by decide +kernel
theorem dX12_readsStep_187 : decode cX12_readsStep 187 = .ok (.aload_n 0, 1) := by decide +kernel
theorem dX12_readsStep_188 : decode cX12_readsStep 188 = .ok (.invokevirtual 243, 3) := by decide +kernel
theorem dX12_readsStep_191 : decode cX12_readsStep 191 = .ok (.aload_n 0, 1) := by decide +kernel
theorem dX12_readsStep_192 : decode cX12_readsStep 192 = .ok (.invokevirtual 116, 3) := by decide +kernel
theorem dX12_readsStep_195 : decode cX12_readsStep 195 = .ok (.goto (-28), 3) := by decide +kernel
theorem dX12_readsStep_198 : decode cX12_readsStep 198 = .ok (.aload_n 0, 1) := by decide +kernel
theorem dX12_readsStep_199 : decode cX12_readsStep 199 = .ok (.bipush 93, 2) := by decide +kernel
theorem dX12_readsStep_201 : decode cX12_readsStep 201 = .ok (.invokevirtual 163, 3) := by decide +kernel
theorem dX12_readsStep_204 : decode cX12_readsStep 204 = .ok (.aload_n 0, 1) := by decide +kernel
theorem dX12_readsStep_205 : decode cX12_readsStep 205 = .ok (.dup, 1) := by decide +kernel
theorem dX12_readsStep_206 : decode cX12_readsStep 206 = .ok (.getfield 153, 3) := by decide +kernel
theorem dX12_readsStep_209 : decode cX12_readsStep 209 = .ok (.iconst 1, 1) := by decide +kernel
theorem dX12_readsStep_210 : decode cX12_readsStep 210 = .ok (.isub, 1) := by decide +kernel
theorem dX12_readsStep_211 : decode cX12_readsStep 211 = .ok (.putfield 153, 3) := by decide +kernel
theorem dX12_readsStep_214 : decode cX12_readsStep 214 = .ok (.aload_n 2, 1) := by decide +kernel
theorem dX12_readsStep_215 : decode cX12_readsStep 215 = .ok (.iconst 4, 1) := by decide +kernel
theorem dX12_readsStep_216 : decode cX12_readsStep 216 = .ok (.aload_n 0, 1) := by decide +kernel
theorem dX12_readsStep_217 : decode cX12_readsStep 217 = .ok (.getfield 240, 3) := by decide +kernel
theorem dX12_readsStep_220 : decode cX12_readsStep 220 = .ok (.iastore, 1) := by decide +kernel
theorem dX12_readsStep_221 : decode cX12_readsStep 221 = .ok (.aload_n 0, 1) := by decide +kernel
theorem dX12_readsStep_222 : decode cX12_readsStep 222 = .ok (.bipush 59, 2) := by decide +kernel
theorem dX12_readsStep_224 : decode cX12_readsStep 224 = .ok (.invokevirtual 163, 3) := by decide +kernel
theorem dX12_readsStep_227 : decode cX12_readsStep 227 = .ok (.return_, 1) := by decide +kernel
theorem dX12_words_0 : decode cX12_words 0 = .ok (.aload_n 0, 1) := by decide +kernel
theorem dX12_words_1 : decode cX12_words 1 = .ok (.iconst 0, 1) := by decide +kernel
theorem dX12_words_2 : decode cX12_words 2 = .ok (.putfield 94, 3) := by decide +kernel
theorem dX12_words_5 : decode cX12_words 5 = .ok (.aload_n 0, 1) := by decide +kernel
theorem dX12_words_6 : decode cX12_words 6 = .ok (.iload_n 1, 1) := by decide +kernel
theorem dX12_words_7 : decode cX12_words 7 = .ok (.iconst 0, 1) := by decide +kernel
theorem dX12_words_8 : decode cX12_words 8 = .ok (.aload_n 0, 1) := by decide +kernel
theorem dX12_words_9 : decode cX12_words 9 = .ok (.getfield 97, 3) := by decide +kernel
theorem dX12_words_12 : decode cX12_words 12 = .ok (.invokestatic 128, 3) := by decide +kernel
theorem dX12_words_15 : decode cX12_words 15 = .ok (.ifCond .eq 9, 3) := by decide +kernel
theorem dX12_words_18 : decode cX12_words 18 = .ok (.iload_n 1, 1) := by decide +kernel
theorem dX12_words_19 : decode cX12_words 19 = .ok (.bipush 60, 2) := by decide +kernel
theorem dX12_words_21 : decode cX12_words 21 = .ok (.if_icmp .le 7, 3) := by decide +kernel
theorem dX12_words_24 : decode cX12_words 24 = .ok (.iconst 1, 1) := by decide +kernel
theorem dX12_words_25 : decode cX12_words 25 = .ok (.goto 4, 3) := by decide +kernel
theorem dX12_words_28 : decode cX12_words 28 = .ok (.iconst 0, 1) := by decide +kernel
theorem dX12_words_29 : decode cX12_words 29 = .ok (.iconst 1, 1) := by decide +kernel
theorem dX12_words_30 : decode cX12_words 30 = .ok (.iconst 1, 1) := by decide +kernel
theorem dX12_words_31 : decode cX12_words 31 = .ok (.invokevirtual 167, 3) := by decide +kernel
theorem dX12_words_34 : decode cX12_words 34 = .ok (.ifCond .eq 5, 3) := by decide +kernel
theorem dX12_words_37 : decode cX12_words 37 = .ok (.iconst 0, 1) := by decide +kernel
theorem dX12_words_38 : decode cX12_words 38 = .ok (.ireturn, 1) := by decide +kernel
theorem dX12_words_39 : decode cX12_words 39 = .ok (.aload_n 0, 1) := by decide +kernel
theorem dX12_words_40 : decode cX12_words 40 = .ok (.iload_n 1, 1) := by decide +kernel
theorem dX12_words_41 : decode cX12_words 41 = .ok (.invokevirtual 171, 3) := by decide +kernel
theorem dX12_words_44 : decode cX12_words 44 = .ok (.iconst 0, 1) := by decide +kernel
theorem dX12_words_45 : decode cX12_words 45 = .ok (.istore_n 2, 1) := by decide +kernel
theorem dX12_words_46 : decode cX12_words 46 = .ok (.iconst 0, 1) := by decide +kernel
theorem dX12_words_47 : decode cX12_words 47 = .ok (.istore_n 3, 1) := by decide +kernel
theorem dX12_words_48 : decode cX12_words 48 = .ok (.aload_n 0, 1) := by decide +kernel
theorem dX12_words_49 : decode cX12_words 49 = .ok (.getfield 110, 3) := by decide +kernel
theorem dX12_words_52 : decode cX12_words 52 = .ok (.ifCond .ne 117, 3) := by decide +kernel
theorem dX12_words_55 : decode cX12_words 55 = .ok (.aload_n 0, 1) := by decide +kernel
theorem dX12_words_56 : decode cX12_words 56 = .ok (.getfield 103, 3) := by decide +kernel
theorem dX12_words_59 : decode cX12_words 59 = .ok (.aload_n 0, 1) := by decide +kernel
theorem dX12_words_60 : decode cX12_words 60 = .ok (.getfield 100, 3) := by decide +kernel
theorem dX12_words_63 : decode cX12_words 63 = .ok (.if_icmp .ge 106, 3) := by decide +kernel
theorem dX12_words_66 : decode cX12_words 66 = .ok (.aload_n 0, 1) := by decide +kernel
theorem dX12_words_67 : decode cX12_words 67 = .ok (.getfield 103, 3) := by decide +kernel
theorem dX12_words_70 : decode cX12_words 70 = .ok (.istore 4, 2) := by decide +kernel
theorem dX12_words_72 : decode cX12_words 72 = .ok (.aload_n 0, 1) := by decide +kernel
theorem dX12_words_73 : decode cX12_words 73 = .ok (.iconst 0, 1) := by decide +kernel
theorem dX12_words_74 : decode cX12_words 74 = .ok (.aload_n 0, 1) := by decide +kernel
theorem dX12_words_75 : decode cX12_words 75 = .ok (.getfield 23, 3) := by decide +kernel
theorem dX12_words_78 : decode cX12_words 78 = .ok (.iconst 0, 1) := by decide +kernel
theorem dX12_words_79 : decode cX12_words 79 = .ok (.iaload, 1) := by decide +kernel
theorem dX12_words_80 : decode cX12_words 80 = .ok (.iconst 1, 1) := by decide +kernel
theorem dX12_words_81 : decode cX12_words 81 = .ok (.isub, 1) := by decide +kernel
theorem dX12_words_82 : decode cX12_words 82 = .ok (.invokevirtual 159, 3) := by decide +kernel
theorem dX12_words_85 : decode cX12_words 85 = .ok (.istore 5, 2) := by decide +kernel
theorem dX12_words_87 : decode cX12_words 87 = .ok (.aload_n 0, 1) := by decide +kernel
theorem dX12_words_88 : decode cX12_words 88 = .ok (.getfield 110, 3) := by decide +kernel
theorem dX12_words_91 : decode cX12_words 91 = .ok (.ifCond .ne 19, 3) := by decide +kernel
theorem dX12_words_94 : decode cX12_words 94 = .ok (.iload_n 3, 1) := by decide +kernel
theorem dX12_words_95 : decode cX12_words 95 = .ok (.iload 5, 2) := by decide +kernel
theorem dX12_words_97 : decode cX12_words 97 = .ok (.invokestatic 246, 3) := by decide +kernel
theorem dX12_words_100 : decode cX12_words 100 = .ok (.ifCond .eq 10, 3) := by decide +kernel
theorem dX12_words_103 : decode cX12_words 103 = .ok (.aload_n 0, 1) := by decide +kernel
theorem dX12_words_104 : decode cX12_words 104 = .ok (.iconst 2, 1) := by decide +kernel
theorem dX12_words_105 : decode cX12_words 105 = .ok (.iload 4, 2) := by decide +kernel
theorem dX12_words_107 : decode cX12_words 107 = .ok (.invokevirtual 123, 3) := by decide +kernel
theorem dX12_words_110 : decode cX12_words 110 = .ok (.aload_n 0, 1) := by decide +kernel
theorem dX12_words_111 : decode cX12_words 111 = .ok (.iconst 0, 1) := by decide +kernel
theorem dX12_words_112 : decode cX12_words 112 = .ok (.bipush 6, 2) := by decide +kernel
theorem dX12_words_114 : decode cX12_words 114 = .ok (.invokevirtual 159, 3) := by decide +kernel
theorem dX12_words_117 : decode cX12_words 117 = .ok (.istore 6, 2) := by decide +kernel
theorem dX12_words_119 : decode cX12_words 119 = .ok (.aload_n 0, 1) := by decide +kernel
theorem dX12_words_120 : decode cX12_words 120 = .ok (.bipush 59, 2) := by decide +kernel
theorem dX12_words_122 : decode cX12_words 122 = .ok (.invokevirtual 163, 3) := by decide +kernel
theorem dX12_words_125 : decode cX12_words 125 = .ok (.aload_n 0, 1) := by decide +kernel
theorem dX12_words_126 : decode cX12_words 126 = .ok (.getfield 110, 3) := by decide +kernel
theorem dX12_words_129 : decode cX12_words 129 = .ok (.ifCond .ne 33, 3) := by decide +kernel
theorem dX12_words_132 : decode cX12_words 132 = .ok (.iload_n 3, 1) := by decide +kernel
theorem dX12_words_133 : decode cX12_words 133 = .ok (.iconst 1, 1) := by decide +kernel
theorem dX12_words_134 : decode cX12_words 134 = .ok (.iload 5, 2) := by decide +kernel
theorem dX12_words_136 : decode cX12_words 136 = .ok (.ishl, 1) := by decide +kernel
theorem dX12_words_137 : decode cX12_words 137 = .ok (.ior, 1) := by decide +kernel
theorem dX12_words_138 : decode cX12_words 138 = .ok (.istore_n 3, 1) := by decide +kernel
theorem dX12_words_139 : decode cX12_words 139 = .ok (.aload_n 0, 1) := by decide +kernel
theorem dX12_words_140 : decode cX12_words 140 = .ok (.getfield 49, 3) := by decide +kernel
theorem dX12_words_143 : decode cX12_words 143 = .ok (.iload_n 2, 1) := by decide +kernel
theorem dX12_words_144 : decode cX12_words 144 = .ok (.aaload, 1) := by decide +kernel
theorem dX12_words_145 : decode cX12_words 145 = .ok (.iconst 0, 1) := by decide +kernel
theorem dX12_words_146 : decode cX12_words 146 = .ok (.iload 5, 2) := by decide +kernel
theorem dX12_words_148 : decode cX12_words 148 = .ok (.iastore, 1) := by decide +kernel
theorem dX12_words_149 : decode cX12_words 149 = .ok (.aload_n 0, 1) := by decide +kernel
theorem dX12_words_150 : decode cX12_words 150 = .ok (.getfield 49, 3) := by decide +kernel
theorem dX12_words_153 : decode cX12_words 153 = .ok (.iload_n 2, 1) := by decide +kernel
theorem dX12_words_154 : decode cX12_words 154 = .ok (.aaload, 1) := by decide +kernel
theorem dX12_words_155 : decode cX12_words 155 = .ok (.iconst 1, 1) := by decide +kernel
theorem dX12_words_156 : decode cX12_words 156 = .ok (.iload 6, 2) := by decide +kernel
theorem dX12_words_158 : decode cX12_words 158 = .ok (.iastore, 1) := by decide +kernel
theorem dX12_words_159 : decode cX12_words 159 = .ok (.iinc 2 1, 3) := by decide +kernel
theorem dX12_words_162 : decode cX12_words 162 = .ok (.aload_n 0, 1) := by decide +kernel
theorem dX12_words_163 : decode cX12_words 163 = .ok (.invokevirtual 116, 3) := by decide +kernel
theorem dX12_words_166 : decode cX12_words 166 = .ok (.goto (-118), 3) := by decide +kernel
theorem dX12_words_169 : decode cX12_words 169 = .ok (.aload_n 0, 1) := by decide +kernel
theorem dX12_words_170 : decode cX12_words 170 = .ok (.getfield 110, 3) := by decide +kernel
theorem dX12_words_173 : decode cX12_words 173 = .ok (.ifCond .eq 8, 3) := by decide +kernel
theorem dX12_words_176 : decode cX12_words 176 = .ok (.aload_n 0, 1) := by decide +kernel
theorem dX12_words_177 : decode cX12_words 177 = .ok (.invokevirtual 177, 3) := by decide +kernel
theorem dX12_words_180 : decode cX12_words 180 = .ok (.ireturn, 1) := by decide +kernel
theorem dX12_words_181 : decode cX12_words 181 = .ok (.aload_n 0, 1) := by decide +kernel
theorem dX12_words_182 : decode cX12_words 182 = .ok (.iconst (-1), 1) := by decide +kernel
theorem dX12_words_183 : decode cX12_words 183 = .ok (.putfield 9, 3) := by decide +kernel
theorem dX12_words_186 : decode cX12_words 186 = .ok (.aload_n 0, 1) := by decide +kernel
theorem dX12_words_187 : decode cX12_words 187 = .ok (.iload_n 2, 1) := by decide +kernel
theorem dX12_words_188 : decode cX12_words 188 = .ok (.putfield 187, 3) := by decide +kernel
theorem dX12_words_191 : decode cX12_words 191 = .ok (.aload_n 0, 1) := by decide +kernel
theorem dX12_words_192 : decode cX12_words 192 = .ok (.getfield 49, 3) := by decide +kernel
theorem dX12_words_195 : decode cX12_words 195 = .ok (.aload_n 0, 1) := by decide +kernel
theorem dX12_words_196 : decode cX12_words 196 = .ok (.getfield 46, 3) := by decide +kernel
theorem dX12_words_199 : decode cX12_words 199 = .ok (.iload_n 2, 1) := by decide +kernel
theorem dX12_words_200 : decode cX12_words 200 = .ok (.invokestatic 180, 3) := by decide +kernel
theorem dX12_words_203 : decode cX12_words 203 = .ok (.iload_n 2, 1) := by decide +kernel
theorem dX12_words_204 : decode cX12_words 204 = .ok (.ireturn, 1) := by decide +kernel
theorem dX12_fault_0 : decode cX12_fault 0 = .ok (.aload_n 0, 1) := by decide +kernel
theorem dX12_fault_1 : decode cX12_fault 1 = .ok (.iconst 0, 1) := by decide +kernel
theorem dX12_fault_2 : decode cX12_fault 2 = .ok (.putfield 94, 3) := by decide +kernel
theorem dX12_fault_5 : decode cX12_fault 5 = .ok (.aload_n 0, 1) := by decide +kernel
theorem dX12_fault_6 : decode cX12_fault 6 = .ok (.getfield 9, 3) := by decide +kernel
theorem dX12_fault_9 : decode cX12_fault 9 = .ok (.ireturn, 1) := by decide +kernel
theorem dX12_ones_0 : decode cX12_ones 0 = .ok (.iconst 0, 1) := by decide +kernel
theorem dX12_ones_1 : decode cX12_ones 1 = .ok (.istore_n 1, 1) := by decide +kernel
theorem dX12_ones_2 : decode cX12_ones 2 = .ok (.iconst 0, 1) := by decide +kernel
theorem dX12_ones_3 : decode cX12_ones 3 = .ok (.istore_n 2, 1) := by decide +kernel
theorem dX12_ones_4 : decode cX12_ones 4 = .ok (.iload_n 2, 1) := by decide +kernel
theorem dX12_ones_5 : decode cX12_ones 5 = .ok (.bipush 8, 2) := by decide +kernel
theorem dX12_ones_7 : decode cX12_ones 7 = .ok (.if_icmp .ge 17, 3) := by decide +kernel
theorem dX12_ones_10 : decode cX12_ones 10 = .ok (.iload_n 1, 1) := by decide +kernel
theorem dX12_ones_11 : decode cX12_ones 11 = .ok (.iload_n 0, 1) := by decide +kernel
theorem dX12_ones_12 : decode cX12_ones 12 = .ok (.iload_n 2, 1) := by decide +kernel
theorem dX12_ones_13 : decode cX12_ones 13 = .ok (.ishr, 1) := by decide +kernel
theorem dX12_ones_14 : decode cX12_ones 14 = .ok (.iconst 1, 1) := by decide +kernel
theorem dX12_ones_15 : decode cX12_ones 15 = .ok (.iand, 1) := by decide +kernel
theorem dX12_ones_16 : decode cX12_ones 16 = .ok (.iadd, 1) := by decide +kernel
theorem dX12_ones_17 : decode cX12_ones 17 = .ok (.istore_n 1, 1) := by decide +kernel
theorem dX12_ones_18 : decode cX12_ones 18 = .ok (.iinc 2 1, 3) := by decide +kernel
theorem dX12_ones_21 : decode cX12_ones 21 = .ok (.goto (-17), 3) := by decide +kernel
theorem dX12_ones_24 : decode cX12_ones 24 = .ok (.iload_n 1, 1) := by decide +kernel
theorem dX12_ones_25 : decode cX12_ones 25 = .ok (.ireturn, 1) := by decide +kernel
theorem dX12_faceOf_0 : decode cX12_faceOf 0 = .ok (.aload_n 0, 1) := by decide +kernel
theorem dX12_faceOf_1 : decode cX12_faceOf 1 = .ok (.getfield 37, 3) := by decide +kernel
theorem dX12_faceOf_4 : decode cX12_faceOf 4 = .ok (.iload_n 1, 1) := by decide +kernel
theorem dX12_faceOf_5 : decode cX12_faceOf 5 = .ok (.aaload, 1) := by decide +kernel
theorem dX12_faceOf_6 : decode cX12_faceOf 6 = .ok (.iconst 0, 1) := by decide +kernel
theorem dX12_faceOf_7 : decode cX12_faceOf 7 = .ok (.iaload, 1) := by decide +kernel
theorem dX12_faceOf_8 : decode cX12_faceOf 8 = .ok (.ireturn, 1) := by decide +kernel
theorem dX12_isAlike_0 : decode cX12_isAlike 0 = .ok (.iload_n 1, 1) := by decide +kernel
theorem dX12_isAlike_1 : decode cX12_isAlike 1 = .ok (.iload_n 2, 1) := by decide +kernel
theorem dX12_isAlike_2 : decode cX12_isAlike 2 = .ok (.ixor, 1) := by decide +kernel
theorem dX12_isAlike_3 : decode cX12_isAlike 3 = .ok (.invokestatic 250, 3) := by decide +kernel
theorem dX12_isAlike_6 : decode cX12_isAlike 6 = .ok (.aload_n 0, 1) := by decide +kernel
theorem dX12_isAlike_7 : decode cX12_isAlike 7 = .ok (.getfield 23, 3) := by decide +kernel
theorem dX12_isAlike_10 : decode cX12_isAlike 10 = .ok (.iconst 1, 1) := by decide +kernel
theorem dX12_isAlike_11 : decode cX12_isAlike 11 = .ok (.iaload, 1) := by decide +kernel
theorem dX12_isAlike_12 : decode cX12_isAlike 12 = .ok (.if_icmp .gt 7, 3) := by decide +kernel
theorem dX12_isAlike_15 : decode cX12_isAlike 15 = .ok (.iconst 1, 1) := by decide +kernel
theorem dX12_isAlike_16 : decode cX12_isAlike 16 = .ok (.goto 4, 3) := by decide +kernel
theorem dX12_isAlike_19 : decode cX12_isAlike 19 = .ok (.iconst 0, 1) := by decide +kernel
theorem dX12_isAlike_20 : decode cX12_isAlike 20 = .ok (.ireturn, 1) := by decide +kernel
theorem dX12_plateOf_0 : decode cX12_plateOf 0 = .ok (.aload_n 0, 1) := by decide +kernel
theorem dX12_plateOf_1 : decode cX12_plateOf 1 = .ok (.bipush 28, 2) := by decide +kernel
theorem dX12_plateOf_3 : decode cX12_plateOf 3 = .ok (.iconst 5, 1) := by decide +kernel
theorem dX12_plateOf_4 : decode cX12_plateOf 4 = .ok (.iload_n 1, 1) := by decide +kernel
theorem dX12_plateOf_5 : decode cX12_plateOf 5 = .ok (.imul, 1) := by decide +kernel
theorem dX12_plateOf_6 : decode cX12_plateOf 6 = .ok (.iadd, 1) := by decide +kernel
theorem dX12_plateOf_7 : decode cX12_plateOf 7 = .ok (.iload_n 2, 1) := by decide +kernel
theorem dX12_plateOf_8 : decode cX12_plateOf 8 = .ok (.iadd, 1) := by decide +kernel
theorem dX12_plateOf_9 : decode cX12_plateOf 9 = .ok (.iaload, 1) := by decide +kernel
theorem dX12_plateOf_10 : decode cX12_plateOf 10 = .ok (.ireturn, 1) := by decide +kernel
theorem dX12_shownBy_0 : decode cX12_shownBy 0 = .ok (.aload_n 0, 1) := by decide +kernel
theorem dX12_shownBy_1 : decode cX12_shownBy 1 = .ok (.getfield 55, 3) := by decide +kernel
theorem dX12_shownBy_4 : decode cX12_shownBy 4 = .ok (.iconst 0, 1) := by decide +kernel
theorem dX12_shownBy_5 : decode cX12_shownBy 5 = .ok (.aload_n 0, 1) := by decide +kernel
theorem dX12_shownBy_6 : decode cX12_shownBy 6 = .ok (.iload_n 2, 1) := by decide +kernel
theorem dX12_shownBy_7 : decode cX12_shownBy 7 = .ok (.invokevirtual 253, 3) := by decide +kernel
theorem dX12_shownBy_10 : decode cX12_shownBy 10 = .ok (.iastore, 1) := by decide +kernel
theorem dX12_shownBy_11 : decode cX12_shownBy 11 = .ok (.aload_n 0, 1) := by decide +kernel
theorem dX12_shownBy_12 : decode cX12_shownBy 12 = .ok (.getfield 55, 3) := by decide +kernel
theorem dX12_shownBy_15 : decode cX12_shownBy 15 = .ok (.iconst 1, 1) := by decide +kernel
theorem dX12_shownBy_16 : decode cX12_shownBy 16 = .ok (.aload_n 0, 1) := by decide +kernel
theorem dX12_shownBy_17 : decode cX12_shownBy 17 = .ok (.getfield 37, 3) := by decide +kernel
theorem dX12_shownBy_20 : decode cX12_shownBy 20 = .ok (.iload_n 2, 1) := by decide +kernel
theorem dX12_shownBy_21 : decode cX12_shownBy 21 = .ok (.aaload, 1) := by decide +kernel
theorem dX12_shownBy_22 : decode cX12_shownBy 22 = .ok (.iconst 1, 1) := by decide +kernel
theorem dX12_shownBy_23 : decode cX12_shownBy 23 = .ok (.iaload, 1) := by decide +kernel
theorem dX12_shownBy_24 : decode cX12_shownBy 24 = .ok (.iastore, 1) := by decide +kernel
theorem dX12_shownBy_25 : decode cX12_shownBy 25 = .ok (.aload_n 0, 1) := by decide +kernel
theorem dX12_shownBy_26 : decode cX12_shownBy 26 = .ok (.getfield 55, 3) := by decide +kernel
theorem dX12_shownBy_29 : decode cX12_shownBy 29 = .ok (.iconst 2, 1) := by decide +kernel
theorem dX12_shownBy_30 : decode cX12_shownBy 30 = .ok (.aload_n 1, 1) := by decide +kernel
theorem dX12_shownBy_31 : decode cX12_shownBy 31 = .ok (.iconst 0, 1) := by decide +kernel
theorem dX12_shownBy_32 : decode cX12_shownBy 32 = .ok (.iload_n 2, 1) := by decide +kernel
theorem dX12_shownBy_33 : decode cX12_shownBy 33 = .ok (.iadd, 1) := by decide +kernel
theorem dX12_shownBy_34 : decode cX12_shownBy 34 = .ok (.iaload, 1) := by decide +kernel
theorem dX12_shownBy_35 : decode cX12_shownBy 35 = .ok (.iastore, 1) := by decide +kernel
theorem dX12_shownBy_36 : decode cX12_shownBy 36 = .ok (.aload_n 0, 1) := by decide +kernel
theorem dX12_shownBy_37 : decode cX12_shownBy 37 = .ok (.getfield 55, 3) := by decide +kernel
theorem dX12_shownBy_40 : decode cX12_shownBy 40 = .ok (.iconst 3, 1) := by decide +kernel
theorem dX12_shownBy_41 : decode cX12_shownBy 41 = .ok (.aload_n 0, 1) := by decide +kernel
theorem dX12_shownBy_42 : decode cX12_shownBy 42 = .ok (.iload_n 3, 1) := by decide +kernel
theorem dX12_shownBy_43 : decode cX12_shownBy 43 = .ok (.invokevirtual 253, 3) := by decide +kernel
theorem dX12_shownBy_46 : decode cX12_shownBy 46 = .ok (.iastore, 1) := by decide +kernel
theorem dX12_shownBy_47 : decode cX12_shownBy 47 = .ok (.aload_n 0, 1) := by decide +kernel
theorem dX12_shownBy_48 : decode cX12_shownBy 48 = .ok (.getfield 55, 3) := by decide +kernel
theorem dX12_shownBy_51 : decode cX12_shownBy 51 = .ok (.iconst 4, 1) := by decide +kernel
theorem dX12_shownBy_52 : decode cX12_shownBy 52 = .ok (.iload_n 2, 1) := by decide +kernel
theorem dX12_shownBy_53 : decode cX12_shownBy 53 = .ok (.iload_n 3, 1) := by decide +kernel
theorem dX12_shownBy_54 : decode cX12_shownBy 54 = .ok (.if_icmp .ne 7, 3) := by decide +kernel
theorem dX12_shownBy_57 : decode cX12_shownBy 57 = .ok (.iconst 1, 1) := by decide +kernel
theorem dX12_shownBy_58 : decode cX12_shownBy 58 = .ok (.goto 4, 3) := by decide +kernel
theorem dX12_shownBy_61 : decode cX12_shownBy 61 = .ok (.iconst 0, 1) := by decide +kernel
theorem dX12_shownBy_62 : decode cX12_shownBy 62 = .ok (.iastore, 1) := by decide +kernel
theorem dX12_shownBy_63 : decode cX12_shownBy 63 = .ok (.aload_n 0, 1) := by decide +kernel
theorem dX12_shownBy_64 : decode cX12_shownBy 64 = .ok (.getfield 55, 3) := by decide +kernel
theorem dX12_shownBy_67 : decode cX12_shownBy 67 = .ok (.iconst 5, 1) := by decide +kernel
theorem dX12_shownBy_68 : decode cX12_shownBy 68 = .ok (.aload_n 1, 1) := by decide +kernel
theorem dX12_shownBy_69 : decode cX12_shownBy 69 = .ok (.bipush 27, 2) := by decide +kernel
theorem dX12_shownBy_71 : decode cX12_shownBy 71 = .ok (.iaload, 1) := by decide +kernel
theorem dX12_shownBy_72 : decode cX12_shownBy 72 = .ok (.iastore, 1) := by decide +kernel
theorem dX12_shownBy_73 : decode cX12_shownBy 73 = .ok (.aload_n 0, 1) := by decide +kernel
theorem dX12_shownBy_74 : decode cX12_shownBy 74 = .ok (.getfield 55, 3) := by decide +kernel
theorem dX12_shownBy_77 : decode cX12_shownBy 77 = .ok (.bipush 6, 2) := by decide +kernel
theorem dX12_shownBy_79 : decode cX12_shownBy 79 = .ok (.aload_n 1, 1) := by decide +kernel
theorem dX12_shownBy_80 : decode cX12_shownBy 80 = .ok (.bipush 8, 2) := by decide +kernel
theorem dX12_shownBy_82 : decode cX12_shownBy 82 = .ok (.iload_n 2, 1) := by decide +kernel
theorem dX12_shownBy_83 : decode cX12_shownBy 83 = .ok (.iadd, 1) := by decide +kernel
theorem dX12_shownBy_84 : decode cX12_shownBy 84 = .ok (.iaload, 1) := by decide +kernel
theorem dX12_shownBy_85 : decode cX12_shownBy 85 = .ok (.iastore, 1) := by decide +kernel
theorem dX12_shownBy_86 : decode cX12_shownBy 86 = .ok (.aload_n 0, 1) := by decide +kernel
theorem dX12_shownBy_87 : decode cX12_shownBy 87 = .ok (.getfield 55, 3) := by decide +kernel
theorem dX12_shownBy_90 : decode cX12_shownBy 90 = .ok (.bipush 7, 2) := by decide +kernel
theorem dX12_shownBy_92 : decode cX12_shownBy 92 = .ok (.iload 4, 2) := by decide +kernel
theorem dX12_shownBy_94 : decode cX12_shownBy 94 = .ok (.iastore, 1) := by decide +kernel
theorem dX12_shownBy_95 : decode cX12_shownBy 95 = .ok (.aload_n 0, 1) := by decide +kernel
theorem dX12_shownBy_96 : decode cX12_shownBy 96 = .ok (.invokevirtual 256, 3) := by decide +kernel
theorem dX12_shownBy_99 : decode cX12_shownBy 99 = .ok (.ireturn, 1) := by decide +kernel
theorem dX12_takesOne_0 : decode cX12_takesOne 0 = .ok (.aload_n 0, 1) := by decide +kernel
theorem dX12_takesOne_1 : decode cX12_takesOne 1 = .ok (.getfield 29, 3) := by decide +kernel
theorem dX12_takesOne_4 : decode cX12_takesOne 4 = .ok (.iload_n 2, 1) := by decide +kernel
theorem dX12_takesOne_5 : decode cX12_takesOne 5 = .ok (.iaload, 1) := by decide +kernel
theorem dX12_takesOne_6 : decode cX12_takesOne 6 = .ok (.iload_n 3, 1) := by decide +kernel
theorem dX12_takesOne_7 : decode cX12_takesOne 7 = .ok (.invokestatic 246, 3) := by decide +kernel
theorem dX12_takesOne_10 : decode cX12_takesOne 10 = .ok (.ifCond .ne 12, 3) := by decide +kernel
theorem dX12_takesOne_13 : decode cX12_takesOne 13 = .ok (.aload_n 1, 1) := by decide +kernel
theorem dX12_takesOne_14 : decode cX12_takesOne 14 = .ok (.bipush 24, 2) := by decide +kernel
theorem dX12_takesOne_16 : decode cX12_takesOne 16 = .ok (.iaload, 1) := by decide +kernel
theorem dX12_takesOne_17 : decode cX12_takesOne 17 = .ok (.bipush 40, 2) := by decide +kernel
theorem dX12_takesOne_19 : decode cX12_takesOne 19 = .ok (.if_icmp .ne 5, 3) := by decide +kernel
theorem dX12_takesOne_22 : decode cX12_takesOne 22 = .ok (.iconst 0, 1) := by decide +kernel
theorem dX12_takesOne_23 : decode cX12_takesOne 23 = .ok (.ireturn, 1) := by decide +kernel
theorem dX12_takesOne_24 : decode cX12_takesOne 24 = .ok (.bipush 28, 2) := by decide +kernel
theorem dX12_takesOne_26 : decode cX12_takesOne 26 = .ok (.iconst 5, 1) := by decide +kernel
theorem dX12_takesOne_27 : decode cX12_takesOne 27 = .ok (.aload_n 1, 1) := by decide +kernel
theorem dX12_takesOne_28 : decode cX12_takesOne 28 = .ok (.bipush 24, 2) := by decide +kernel
theorem dX12_takesOne_30 : decode cX12_takesOne 30 = .ok (.iaload, 1) := by decide +kernel
theorem dX12_takesOne_31 : decode cX12_takesOne 31 = .ok (.imul, 1) := by decide +kernel
theorem dX12_takesOne_32 : decode cX12_takesOne 32 = .ok (.iadd, 1) := by decide +kernel
theorem dX12_takesOne_33 : decode cX12_takesOne 33 = .ok (.istore 5, 2) := by decide +kernel
theorem dX12_takesOne_35 : decode cX12_takesOne 35 = .ok (.aload_n 1, 1) := by decide +kernel
theorem dX12_takesOne_36 : decode cX12_takesOne 36 = .ok (.iload 5, 2) := by decide +kernel
theorem dX12_takesOne_38 : decode cX12_takesOne 38 = .ok (.iconst 3, 1) := by decide +kernel
theorem dX12_takesOne_39 : decode cX12_takesOne 39 = .ok (.iadd, 1) := by decide +kernel
theorem dX12_takesOne_40 : decode cX12_takesOne 40 = .ok (.aload_n 0, 1) := by decide +kernel
theorem dX12_takesOne_41 : decode cX12_takesOne 41 = .ok (.aload_n 1, 1) := by decide +kernel
theorem dX12_takesOne_42 : decode cX12_takesOne 42 = .ok (.iload_n 2, 1) := by decide +kernel
theorem dX12_takesOne_43 : decode cX12_takesOne 43 = .ok (.iload_n 3, 1) := by decide +kernel
theorem dX12_takesOne_44 : decode cX12_takesOne 44 = .ok (.iload 4, 2) := by decide +kernel
theorem dX12_takesOne_46 : decode cX12_takesOne 46 = .ok (.invokevirtual 259, 3) := by decide +kernel
theorem dX12_takesOne_49 : decode cX12_takesOne 49 = .ok (.iastore, 1) := by decide +kernel
theorem dX12_takesOne_50 : decode cX12_takesOne 50 = .ok (.aload_n 1, 1) := by decide +kernel
theorem dX12_takesOne_51 : decode cX12_takesOne 51 = .ok (.iload 5, 2) := by decide +kernel
theorem dX12_takesOne_53 : decode cX12_takesOne 53 = .ok (.iload_n 2, 1) := by decide +kernel
theorem dX12_takesOne_54 : decode cX12_takesOne 54 = .ok (.iastore, 1) := by decide +kernel
theorem dX12_takesOne_55 : decode cX12_takesOne 55 = .ok (.aload_n 1, 1) := by decide +kernel
theorem dX12_takesOne_56 : decode cX12_takesOne 56 = .ok (.iload 5, 2) := by decide +kernel
theorem dX12_takesOne_58 : decode cX12_takesOne 58 = .ok (.iconst 1, 1) := by decide +kernel
theorem dX12_takesOne_59 : decode cX12_takesOne 59 = .ok (.iadd, 1) := by decide +kernel
theorem dX12_takesOne_60 : decode cX12_takesOne 60 = .ok (.iload_n 3, 1) := by decide +kernel
theorem dX12_takesOne_61 : decode cX12_takesOne 61 = .ok (.iastore, 1) := by decide +kernel
theorem dX12_takesOne_62 : decode cX12_takesOne 62 = .ok (.aload_n 1, 1) := by decide +kernel
theorem dX12_takesOne_63 : decode cX12_takesOne 63 = .ok (.iload 5, 2) := by decide +kernel
theorem dX12_takesOne_65 : decode cX12_takesOne 65 = .ok (.iconst 2, 1) := by decide +kernel
theorem dX12_takesOne_66 : decode cX12_takesOne 66 = .ok (.iadd, 1) := by decide +kernel
theorem dX12_takesOne_67 : decode cX12_takesOne 67 = .ok (.iload 4, 2) := by decide +kernel
theorem dX12_takesOne_69 : decode cX12_takesOne 69 = .ok (.iastore, 1) := by decide +kernel
theorem dX12_takesOne_70 : decode cX12_takesOne 70 = .ok (.aload_n 1, 1) := by decide +kernel
theorem dX12_takesOne_71 : decode cX12_takesOne 71 = .ok (.iload 5, 2) := by decide +kernel
theorem dX12_takesOne_73 : decode cX12_takesOne 73 = .ok (.iconst 4, 1) := by decide +kernel
theorem dX12_takesOne_74 : decode cX12_takesOne 74 = .ok (.iadd, 1) := by decide +kernel
theorem dX12_takesOne_75 : decode cX12_takesOne 75 = .ok (.aload_n 1, 1) := by decide +kernel
theorem dX12_takesOne_76 : decode cX12_takesOne 76 = .ok (.bipush 27, 2) := by decide +kernel
theorem dX12_takesOne_78 : decode cX12_takesOne 78 = .ok (.iaload, 1) := by decide +kernel
theorem dX12_takesOne_79 : decode cX12_takesOne 79 = .ok (.iastore, 1) := by decide +kernel
theorem dX12_takesOne_80 : decode cX12_takesOne 80 = .ok (.aload_n 1, 1) := by decide +kernel
theorem dX12_takesOne_81 : decode cX12_takesOne 81 = .ok (.bipush 8, 2) := by decide +kernel
theorem dX12_takesOne_83 : decode cX12_takesOne 83 = .ok (.iload_n 2, 1) := by decide +kernel
theorem dX12_takesOne_84 : decode cX12_takesOne 84 = .ok (.iadd, 1) := by decide +kernel
theorem dX12_takesOne_85 : decode cX12_takesOne 85 = .ok (.dup2, 1) := by decide +kernel
theorem dX12_takesOne_86 : decode cX12_takesOne 86 = .ok (.iaload, 1) := by decide +kernel
theorem dX12_takesOne_87 : decode cX12_takesOne 87 = .ok (.iconst 1, 1) := by decide +kernel
theorem dX12_takesOne_88 : decode cX12_takesOne 88 = .ok (.iadd, 1) := by decide +kernel
theorem dX12_takesOne_89 : decode cX12_takesOne 89 = .ok (.iastore, 1) := by decide +kernel
theorem dX12_takesOne_90 : decode cX12_takesOne 90 = .ok (.aload_n 1, 1) := by decide +kernel
theorem dX12_takesOne_91 : decode cX12_takesOne 91 = .ok (.bipush 16, 2) := by decide +kernel
theorem dX12_takesOne_93 : decode cX12_takesOne 93 = .ok (.iload_n 3, 1) := by decide +kernel
theorem dX12_takesOne_94 : decode cX12_takesOne 94 = .ok (.iadd, 1) := by decide +kernel
theorem dX12_takesOne_95 : decode cX12_takesOne 95 = .ok (.dup2, 1) := by decide +kernel
theorem dX12_takesOne_96 : decode cX12_takesOne 96 = .ok (.iaload, 1) := by decide +kernel
theorem dX12_takesOne_97 : decode cX12_takesOne 97 = .ok (.iconst 1, 1) := by decide +kernel
theorem dX12_takesOne_98 : decode cX12_takesOne 98 = .ok (.iadd, 1) := by decide +kernel
theorem dX12_takesOne_99 : decode cX12_takesOne 99 = .ok (.iastore, 1) := by decide +kernel
theorem dX12_takesOne_100 : decode cX12_takesOne 100 = .ok (.aload_n 1, 1) := by decide +kernel
theorem dX12_takesOne_101 : decode cX12_takesOne 101 = .ok (.bipush 24, 2) := by decide +kernel
theorem dX12_takesOne_103 : decode cX12_takesOne 103 = .ok (.dup2, 1) := by decide +kernel
theorem dX12_takesOne_104 : decode cX12_takesOne 104 = .ok (.iaload, 1) := by decide +kernel
theorem dX12_takesOne_105 : decode cX12_takesOne 105 = .ok (.iconst 1, 1) := by decide +kernel
theorem dX12_takesOne_106 : decode cX12_takesOne 106 = .ok (.iadd, 1) := by decide +kernel
theorem dX12_takesOne_107 : decode cX12_takesOne 107 = .ok (.iastore, 1) := by decide +kernel
theorem dX12_takesOne_108 : decode cX12_takesOne 108 = .ok (.aload_n 1, 1) := by decide +kernel
theorem dX12_takesOne_109 : decode cX12_takesOne 109 = .ok (.bipush 25, 2) := by decide +kernel
theorem dX12_takesOne_111 : decode cX12_takesOne 111 = .ok (.dup2, 1) := by decide +kernel
theorem dX12_takesOne_112 : decode cX12_takesOne 112 = .ok (.iaload, 1) := by decide +kernel
theorem dX12_takesOne_113 : decode cX12_takesOne 113 = .ok (.iconst 1, 1) := by decide +kernel
theorem dX12_takesOne_114 : decode cX12_takesOne 114 = .ok (.iadd, 1) := by decide +kernel
theorem dX12_takesOne_115 : decode cX12_takesOne 115 = .ok (.iastore, 1) := by decide +kernel
theorem dX12_takesOne_116 : decode cX12_takesOne 116 = .ok (.iconst 1, 1) := by decide +kernel
theorem dX12_takesOne_117 : decode cX12_takesOne 117 = .ok (.ireturn, 1) := by decide +kernel
theorem dX12_burns_0 : decode cX12_burns 0 = .ok (.iconst 0, 1) := by decide +kernel
theorem dX12_burns_1 : decode cX12_burns 1 = .ok (.istore_n 2, 1) := by decide +kernel
theorem dX12_burns_2 : decode cX12_burns 2 = .ok (.iconst 0, 1) := by decide +kernel
theorem dX12_burns_3 : decode cX12_burns 3 = .ok (.istore_n 3, 1) := by decide +kernel
theorem dX12_burns_4 : decode cX12_burns 4 = .ok (.iload_n 3, 1) := by decide +kernel
theorem dX12_burns_5 : decode cX12_burns 5 = .ok (.aload_n 0, 1) := by decide +kernel
theorem dX12_burns_6 : decode cX12_burns 6 = .ok (.bipush 24, 2) := by decide +kernel
theorem dX12_burns_8 : decode cX12_burns 8 = .ok (.iaload, 1) := by decide +kernel
theorem dX12_burns_9 : decode cX12_burns 9 = .ok (.if_icmp .ge 58, 3) := by decide +kernel
theorem dX12_burns_12 : decode cX12_burns 12 = .ok (.aload_n 0, 1) := by decide +kernel
theorem dX12_burns_13 : decode cX12_burns 13 = .ok (.iload_n 3, 1) := by decide +kernel
theorem dX12_burns_14 : decode cX12_burns 14 = .ok (.iconst 2, 1) := by decide +kernel
theorem dX12_burns_15 : decode cX12_burns 15 = .ok (.invokestatic 263, 3) := by decide +kernel
theorem dX12_burns_18 : decode cX12_burns 18 = .ok (.iload_n 1, 1) := by decide +kernel
theorem dX12_burns_19 : decode cX12_burns 19 = .ok (.if_icmp .ne 6, 3) := by decide +kernel
theorem dX12_burns_22 : decode cX12_burns 22 = .ok (.goto 39, 3) := by decide +kernel
theorem dX12_burns_25 : decode cX12_burns 25 = .ok (.iconst 0, 1) := by decide +kernel
theorem dX12_burns_26 : decode cX12_burns 26 = .ok (.istore 4, 2) := by decide +kernel
theorem dX12_burns_28 : decode cX12_burns 28 = .ok (.iload 4, 2) := by decide +kernel
theorem dX12_burns_30 : decode cX12_burns 30 = .ok (.iconst 5, 1) := by decide +kernel
theorem dX12_burns_31 : decode cX12_burns 31 = .ok (.if_icmp .ge 27, 3) := by decide +kernel
theorem dX12_burns_34 : decode cX12_burns 34 = .ok (.aload_n 0, 1) := by decide +kernel
theorem dX12_burns_35 : decode cX12_burns 35 = .ok (.bipush 28, 2) := by decide +kernel
theorem dX12_burns_37 : decode cX12_burns 37 = .ok (.iconst 5, 1) := by decide +kernel
theorem dX12_burns_38 : decode cX12_burns 38 = .ok (.iload_n 2, 1) := by decide +kernel
theorem dX12_burns_39 : decode cX12_burns 39 = .ok (.imul, 1) := by decide +kernel
theorem dX12_burns_40 : decode cX12_burns 40 = .ok (.iadd, 1) := by decide +kernel
theorem dX12_burns_41 : decode cX12_burns 41 = .ok (.iload 4, 2) := by decide +kernel
theorem dX12_burns_43 : decode cX12_burns 43 = .ok (.iadd, 1) := by decide +kernel
theorem dX12_burns_44 : decode cX12_burns 44 = .ok (.aload_n 0, 1) := by decide +kernel
theorem dX12_burns_45 : decode cX12_burns 45 = .ok (.iload_n 3, 1) := by decide +kernel
theorem dX12_burns_46 : decode cX12_burns 46 = .ok (.iload 4, 2) := by decide +kernel
theorem dX12_burns_48 : decode cX12_burns 48 = .ok (.invokestatic 263, 3) := by decide +kernel
theorem dX12_burns_51 : decode cX12_burns 51 = .ok (.iastore, 1) := by decide +kernel
theorem dX12_burns_52 : decode cX12_burns 52 = .ok (.iinc 4 1, 3) := by decide +kernel
theorem dX12_burns_55 : decode cX12_burns 55 = .ok (.goto (-27), 3) := by decide +kernel
theorem dX12_burns_58 : decode cX12_burns 58 = .ok (.iinc 2 1, 3) := by decide +kernel
theorem dX12_burns_61 : decode cX12_burns 61 = .ok (.iinc 3 1, 3) := by decide +kernel
theorem dX12_burns_64 : decode cX12_burns 64 = .ok (.goto (-60), 3) := by decide +kernel
theorem dX12_burns_67 : decode cX12_burns 67 = .ok (.aload_n 0, 1) := by decide +kernel
theorem dX12_burns_68 : decode cX12_burns 68 = .ok (.bipush 24, 2) := by decide +kernel
theorem dX12_burns_70 : decode cX12_burns 70 = .ok (.iaload, 1) := by decide +kernel
theorem dX12_burns_71 : decode cX12_burns 71 = .ok (.iload_n 2, 1) := by decide +kernel
theorem dX12_burns_72 : decode cX12_burns 72 = .ok (.isub, 1) := by decide +kernel
theorem dX12_burns_73 : decode cX12_burns 73 = .ok (.istore_n 3, 1) := by decide +kernel
theorem dX12_burns_74 : decode cX12_burns 74 = .ok (.aload_n 0, 1) := by decide +kernel
theorem dX12_burns_75 : decode cX12_burns 75 = .ok (.bipush 26, 2) := by decide +kernel
theorem dX12_burns_77 : decode cX12_burns 77 = .ok (.dup2, 1) := by decide +kernel
theorem dX12_burns_78 : decode cX12_burns 78 = .ok (.iaload, 1) := by decide +kernel
theorem dX12_burns_79 : decode cX12_burns 79 = .ok (.iload_n 3, 1) := by decide +kernel
theorem dX12_burns_80 : decode cX12_burns 80 = .ok (.iadd, 1) := by decide +kernel
theorem dX12_burns_81 : decode cX12_burns 81 = .ok (.iastore, 1) := by decide +kernel
theorem dX12_burns_82 : decode cX12_burns 82 = .ok (.aload_n 0, 1) := by decide +kernel
theorem dX12_burns_83 : decode cX12_burns 83 = .ok (.bipush 24, 2) := by decide +kernel
theorem dX12_burns_85 : decode cX12_burns 85 = .ok (.iload_n 2, 1) := by decide +kernel
theorem dX12_burns_86 : decode cX12_burns 86 = .ok (.iastore, 1) := by decide +kernel
theorem dX12_burns_87 : decode cX12_burns 87 = .ok (.iload_n 3, 1) := by decide +kernel
theorem dX12_burns_88 : decode cX12_burns 88 = .ok (.ifCond .le 7, 3) := by decide +kernel
theorem dX12_burns_91 : decode cX12_burns 91 = .ok (.iconst 1, 1) := by decide +kernel
theorem dX12_burns_92 : decode cX12_burns 92 = .ok (.goto 4, 3) := by decide +kernel
theorem dX12_burns_95 : decode cX12_burns 95 = .ok (.iconst 0, 1) := by decide +kernel
theorem dX12_burns_96 : decode cX12_burns 96 = .ok (.ireturn, 1) := by decide +kernel
theorem dX12_yearEnds_0 : decode cX12_yearEnds 0 = .ok (.aload_n 0, 1) := by decide +kernel
theorem dX12_yearEnds_1 : decode cX12_yearEnds 1 = .ok (.bipush 27, 2) := by decide +kernel
theorem dX12_yearEnds_3 : decode cX12_yearEnds 3 = .ok (.dup2, 1) := by decide +kernel
theorem dX12_yearEnds_4 : decode cX12_yearEnds 4 = .ok (.iaload, 1) := by decide +kernel
theorem dX12_yearEnds_5 : decode cX12_yearEnds 5 = .ok (.iconst 1, 1) := by decide +kernel
theorem dX12_yearEnds_6 : decode cX12_yearEnds 6 = .ok (.iadd, 1) := by decide +kernel
theorem dX12_yearEnds_7 : decode cX12_yearEnds 7 = .ok (.iastore, 1) := by decide +kernel
theorem dX12_yearEnds_8 : decode cX12_yearEnds 8 = .ok (.iconst 0, 1) := by decide +kernel
theorem dX12_yearEnds_9 : decode cX12_yearEnds 9 = .ok (.istore_n 1, 1) := by decide +kernel
theorem dX12_yearEnds_10 : decode cX12_yearEnds 10 = .ok (.iload_n 1, 1) := by decide +kernel
theorem dX12_yearEnds_11 : decode cX12_yearEnds 11 = .ok (.bipush 8, 2) := by decide +kernel
theorem dX12_yearEnds_13 : decode cX12_yearEnds 13 = .ok (.if_icmp .ge 15, 3) := by decide +kernel
theorem dX12_yearEnds_16 : decode cX12_yearEnds 16 = .ok (.aload_n 0, 1) := by decide +kernel
theorem dX12_yearEnds_17 : decode cX12_yearEnds 17 = .ok (.iconst 0, 1) := by decide +kernel
theorem dX12_yearEnds_18 : decode cX12_yearEnds 18 = .ok (.iload_n 1, 1) := by decide +kernel
theorem dX12_yearEnds_19 : decode cX12_yearEnds 19 = .ok (.iadd, 1) := by decide +kernel
theorem dX12_yearEnds_20 : decode cX12_yearEnds 20 = .ok (.iconst 0, 1) := by decide +kernel
theorem dX12_yearEnds_21 : decode cX12_yearEnds 21 = .ok (.iastore, 1) := by decide +kernel
theorem dX12_yearEnds_22 : decode cX12_yearEnds 22 = .ok (.iinc 1 1, 3) := by decide +kernel
theorem dX12_yearEnds_25 : decode cX12_yearEnds 25 = .ok (.goto (-15), 3) := by decide +kernel
theorem dX12_yearEnds_28 : decode cX12_yearEnds 28 = .ok (.return_, 1) := by decide +kernel
theorem dX12_does_0 : decode cX12_does 0 = .ok (.aload_n 2, 1) := by decide +kernel
theorem dX12_does_1 : decode cX12_does 1 = .ok (.iconst 0, 1) := by decide +kernel
theorem dX12_does_2 : decode cX12_does 2 = .ok (.iaload, 1) := by decide +kernel
theorem dX12_does_3 : decode cX12_does 3 = .ok (.tableswitch 75 0 2 #[25, 40, 67], 25) := by decide +kernel
theorem dX12_does_28 : decode cX12_does 28 = .ok (.aload_n 0, 1) := by decide +kernel
theorem dX12_does_29 : decode cX12_does 29 = .ok (.aload_n 1, 1) := by decide +kernel
theorem dX12_does_30 : decode cX12_does 30 = .ok (.aload_n 2, 1) := by decide +kernel
theorem dX12_does_31 : decode cX12_does 31 = .ok (.iconst 1, 1) := by decide +kernel
theorem dX12_does_32 : decode cX12_does 32 = .ok (.iaload, 1) := by decide +kernel
theorem dX12_does_33 : decode cX12_does 33 = .ok (.aload_n 2, 1) := by decide +kernel
theorem dX12_does_34 : decode cX12_does 34 = .ok (.iconst 2, 1) := by decide +kernel
theorem dX12_does_35 : decode cX12_does 35 = .ok (.iaload, 1) := by decide +kernel
theorem dX12_does_36 : decode cX12_does 36 = .ok (.aload_n 2, 1) := by decide +kernel
theorem dX12_does_37 : decode cX12_does 37 = .ok (.iconst 3, 1) := by decide +kernel
theorem dX12_does_38 : decode cX12_does 38 = .ok (.iaload, 1) := by decide +kernel
theorem dX12_does_39 : decode cX12_does 39 = .ok (.invokevirtual 267, 3) := by decide +kernel
theorem dX12_does_42 : decode cX12_does 42 = .ok (.ireturn, 1) := by decide +kernel
theorem dX12_does_43 : decode cX12_does 43 = .ok (.aload_n 1, 1) := by decide +kernel
theorem dX12_does_44 : decode cX12_does 44 = .ok (.iconst 0, 1) := by decide +kernel
theorem dX12_does_45 : decode cX12_does 45 = .ok (.aload_n 2, 1) := by decide +kernel
theorem dX12_does_46 : decode cX12_does 46 = .ok (.iconst 1, 1) := by decide +kernel
theorem dX12_does_47 : decode cX12_does 47 = .ok (.iaload, 1) := by decide +kernel
theorem dX12_does_48 : decode cX12_does 48 = .ok (.iadd, 1) := by decide +kernel
theorem dX12_does_49 : decode cX12_does 49 = .ok (.iaload, 1) := by decide +kernel
theorem dX12_does_50 : decode cX12_does 50 = .ok (.aload_n 2, 1) := by decide +kernel
theorem dX12_does_51 : decode cX12_does 51 = .ok (.iconst 2, 1) := by decide +kernel
theorem dX12_does_52 : decode cX12_does 52 = .ok (.iaload, 1) := by decide +kernel
theorem dX12_does_53 : decode cX12_does 53 = .ok (.if_icmp .ne 5, 3) := by decide +kernel
theorem dX12_does_56 : decode cX12_does 56 = .ok (.iconst 0, 1) := by decide +kernel
theorem dX12_does_57 : decode cX12_does 57 = .ok (.ireturn, 1) := by decide +kernel
theorem dX12_does_58 : decode cX12_does 58 = .ok (.aload_n 1, 1) := by decide +kernel
theorem dX12_does_59 : decode cX12_does 59 = .ok (.iconst 0, 1) := by decide +kernel
theorem dX12_does_60 : decode cX12_does 60 = .ok (.aload_n 2, 1) := by decide +kernel
theorem dX12_does_61 : decode cX12_does 61 = .ok (.iconst 1, 1) := by decide +kernel
theorem dX12_does_62 : decode cX12_does 62 = .ok (.iaload, 1) := by decide +kernel
theorem dX12_does_63 : decode cX12_does 63 = .ok (.iadd, 1) := by decide +kernel
theorem dX12_does_64 : decode cX12_does 64 = .ok (.aload_n 2, 1) := by decide +kernel
theorem dX12_does_65 : decode cX12_does 65 = .ok (.iconst 2, 1) := by decide +kernel
theorem dX12_does_66 : decode cX12_does 66 = .ok (.iaload, 1) := by decide +kernel
theorem dX12_does_67 : decode cX12_does 67 = .ok (.iastore, 1) := by decide +kernel
theorem dX12_does_68 : decode cX12_does 68 = .ok (.iconst 1, 1) := by decide +kernel
theorem dX12_does_69 : decode cX12_does 69 = .ok (.ireturn, 1) := by decide +kernel
theorem dX12_does_70 : decode cX12_does 70 = .ok (.aload_n 1, 1) := by decide +kernel
theorem dX12_does_71 : decode cX12_does 71 = .ok (.aload_n 2, 1) := by decide +kernel
theorem dX12_does_72 : decode cX12_does 72 = .ok (.iconst 3, 1) := by decide +kernel
theorem dX12_does_73 : decode cX12_does 73 = .ok (.iaload, 1) := by decide +kernel
theorem dX12_does_74 : decode cX12_does 74 = .ok (.invokestatic 271, 3) := by decide +kernel
theorem dX12_does_77 : decode cX12_does 77 = .ok (.ireturn, 1) := by decide +kernel
theorem dX12_does_78 : decode cX12_does 78 = .ok (.aload_n 1, 1) := by decide +kernel
theorem dX12_does_79 : decode cX12_does 79 = .ok (.bipush 27, 2) := by decide +kernel
theorem dX12_does_81 : decode cX12_does 81 = .ok (.iaload, 1) := by decide +kernel
theorem dX12_does_82 : decode cX12_does 82 = .ok (.sipush 200, 3) := by decide +kernel
theorem dX12_does_85 : decode cX12_does 85 = .ok (.if_icmp .lt 5, 3) := by decide +kernel
theorem dX12_does_88 : decode cX12_does 88 = .ok (.iconst 0, 1) := by decide +kernel
theorem dX12_does_89 : decode cX12_does 89 = .ok (.ireturn, 1) := by decide +kernel
theorem dX12_does_90 : decode cX12_does 90 = .ok (.aload_n 1, 1) := by decide +kernel
theorem dX12_does_91 : decode cX12_does 91 = .ok (.invokestatic 275, 3) := by decide +kernel
theorem dX12_does_94 : decode cX12_does 94 = .ok (.iconst 1, 1) := by decide +kernel
theorem dX12_does_95 : decode cX12_does 95 = .ok (.ireturn, 1) := by decide +kernel
theorem dX12_goes_0 : decode cX12_goes 0 = .ok (.iload_n 1, 1) := by decide +kernel
theorem dX12_goes_1 : decode cX12_goes 1 = .ok (.istore_n 3, 1) := by decide +kernel
theorem dX12_goes_2 : decode cX12_goes 2 = .ok (.iload_n 3, 1) := by decide +kernel
theorem dX12_goes_3 : decode cX12_goes 3 = .ok (.iload_n 2, 1) := by decide +kernel
theorem dX12_goes_4 : decode cX12_goes 4 = .ok (.if_icmp .ge 151, 3) := by decide +kernel
theorem dX12_goes_7 : decode cX12_goes 7 = .ok (.aload_n 0, 1) := by decide +kernel
theorem dX12_goes_8 : decode cX12_goes 8 = .ok (.getfield 279, 3) := by decide +kernel
theorem dX12_goes_11 : decode cX12_goes 11 = .ok (.sipush 200, 3) := by decide +kernel
theorem dX12_goes_14 : decode cX12_goes 14 = .ok (.if_icmp .ge 141, 3) := by decide +kernel
theorem dX12_goes_17 : decode cX12_goes 17 = .ok (.aload_n 0, 1) := by decide +kernel
theorem dX12_goes_18 : decode cX12_goes 18 = .ok (.dup, 1) := by decide +kernel
theorem dX12_goes_19 : decode cX12_goes 19 = .ok (.getfield 279, 3) := by decide +kernel
theorem dX12_goes_22 : decode cX12_goes 22 = .ok (.iconst 1, 1) := by decide +kernel
theorem dX12_goes_23 : decode cX12_goes 23 = .ok (.iadd, 1) := by decide +kernel
theorem dX12_goes_24 : decode cX12_goes 24 = .ok (.putfield 279, 3) := by decide +kernel
theorem dX12_goes_27 : decode cX12_goes 27 = .ok (.aload_n 0, 1) := by decide +kernel
theorem dX12_goes_28 : decode cX12_goes 28 = .ok (.getfield 58, 3) := by decide +kernel
theorem dX12_goes_31 : decode cX12_goes 31 = .ok (.iload_n 3, 1) := by decide +kernel
theorem dX12_goes_32 : decode cX12_goes 32 = .ok (.aaload, 1) := by decide +kernel
theorem dX12_goes_33 : decode cX12_goes 33 = .ok (.iconst 0, 1) := by decide +kernel
theorem dX12_goes_34 : decode cX12_goes 34 = .ok (.iaload, 1) := by decide +kernel
theorem dX12_goes_35 : decode cX12_goes 35 = .ok (.iconst 4, 1) := by decide +kernel
theorem dX12_goes_36 : decode cX12_goes 36 = .ok (.if_icmp .ne 53, 3) := by decide +kernel
theorem dX12_goes_39 : decode cX12_goes 39 = .ok (.iconst 0, 1) := by decide +kernel
theorem dX12_goes_40 : decode cX12_goes 40 = .ok (.istore 4, 2) := by decide +kernel
theorem dX12_goes_42 : decode cX12_goes 42 = .ok (.iload 4, 2) := by decide +kernel
theorem dX12_goes_44 : decode cX12_goes 44 = .ok (.aload_n 0, 1) := by decide +kernel
theorem dX12_goes_45 : decode cX12_goes 45 = .ok (.getfield 58, 3) := by decide +kernel
theorem dX12_goes_48 : decode cX12_goes 48 = .ok (.iload_n 3, 1) := by decide +kernel
theorem dX12_goes_49 : decode cX12_goes 49 = .ok (.aaload, 1) := by decide +kernel
theorem dX12_goes_50 : decode cX12_goes 50 = .ok (.iconst 1, 1) := by decide +kernel
theorem dX12_goes_51 : decode cX12_goes 51 = .ok (.iaload, 1) := by decide +kernel
theorem dX12_goes_52 : decode cX12_goes 52 = .ok (.if_icmp .ge 34, 3) := by decide +kernel
theorem dX12_goes_55 : decode cX12_goes 55 = .ok (.aload_n 0, 1) := by decide +kernel
theorem dX12_goes_56 : decode cX12_goes 56 = .ok (.getfield 279, 3) := by decide +kernel
theorem dX12_goes_59 : decode cX12_goes 59 = .ok (.sipush 200, 3) := by decide +kernel
theorem dX12_goes_62 : decode cX12_goes 62 = .ok (.if_icmp .ge 24, 3) := by decide +kernel
theorem dX12_goes_65 : decode cX12_goes 65 = .ok (.aload_n 0, 1) := by decide +kernel
theorem dX12_goes_66 : decode cX12_goes 66 = .ok (.iload_n 3, 1) := by decide +kernel
theorem dX12_goes_67 : decode cX12_goes 67 = .ok (.iconst 1, 1) := by decide +kernel
theorem dX12_goes_68 : decode cX12_goes 68 = .ok (.iadd, 1) := by decide +kernel
theorem dX12_goes_69 : decode cX12_goes 69 = .ok (.aload_n 0, 1) := by decide +kernel
theorem dX12_goes_70 : decode cX12_goes 70 = .ok (.getfield 58, 3) := by decide +kernel
theorem dX12_goes_73 : decode cX12_goes 73 = .ok (.iload_n 3, 1) := by decide +kernel
theorem dX12_goes_74 : decode cX12_goes 74 = .ok (.aaload, 1) := by decide +kernel
theorem dX12_goes_75 : decode cX12_goes 75 = .ok (.iconst 4, 1) := by decide +kernel
theorem dX12_goes_76 : decode cX12_goes 76 = .ok (.iaload, 1) := by decide +kernel
theorem dX12_goes_77 : decode cX12_goes 77 = .ok (.invokevirtual 282, 3) := by decide +kernel
theorem dX12_goes_80 : decode cX12_goes 80 = .ok (.iinc 4 1, 3) := by decide +kernel
theorem dX12_goes_83 : decode cX12_goes 83 = .ok (.goto (-41), 3) := by decide +kernel
theorem dX12_goes_86 : decode cX12_goes 86 = .ok (.goto 57, 3) := by decide +kernel
theorem dX12_goes_89 : decode cX12_goes 89 = .ok (.aload_n 0, 1) := by decide +kernel
theorem dX12_goes_90 : decode cX12_goes 90 = .ok (.aload_n 0, 1) := by decide +kernel
theorem dX12_goes_91 : decode cX12_goes 91 = .ok (.getfield 61, 3) := by decide +kernel
theorem dX12_goes_94 : decode cX12_goes 94 = .ok (.aload_n 0, 1) := by decide +kernel
theorem dX12_goes_95 : decode cX12_goes 95 = .ok (.getfield 58, 3) := by decide +kernel
theorem dX12_goes_98 : decode cX12_goes 98 = .ok (.iload_n 3, 1) := by decide +kernel
theorem dX12_goes_99 : decode cX12_goes 99 = .ok (.aaload, 1) := by decide +kernel
theorem dX12_goes_100 : decode cX12_goes 100 = .ok (.invokevirtual 285, 3) := by decide +kernel
theorem dX12_goes_103 : decode cX12_goes 103 = .ok (.istore 4, 2) := by decide +kernel
theorem dX12_goes_105 : decode cX12_goes 105 = .ok (.aload_n 0, 1) := by decide +kernel
theorem dX12_goes_106 : decode cX12_goes 106 = .ok (.dup, 1) := by decide +kernel
theorem dX12_goes_107 : decode cX12_goes 107 = .ok (.getfield 289, 3) := by decide +kernel
theorem dX12_goes_110 : decode cX12_goes 110 = .ok (.iload 4, 2) := by decide +kernel
theorem dX12_goes_112 : decode cX12_goes 112 = .ok (.ifCond .eq 7, 3) := by decide +kernel
theorem dX12_goes_115 : decode cX12_goes 115 = .ok (.iconst 1, 1) := by decide +kernel
theorem dX12_goes_116 : decode cX12_goes 116 = .ok (.goto 4, 3) := by decide +kernel
theorem dX12_goes_119 : decode cX12_goes 119 = .ok (.iconst 0, 1) := by decide +kernel
theorem dX12_goes_120 : decode cX12_goes 120 = .ok (.iadd, 1) := by decide +kernel
theorem dX12_goes_121 : decode cX12_goes 121 = .ok (.putfield 289, 3) := by decide +kernel
theorem dX12_goes_124 : decode cX12_goes 124 = .ok (.aload_n 0, 1) := by decide +kernel
theorem dX12_goes_125 : decode cX12_goes 125 = .ok (.dup, 1) := by decide +kernel
theorem dX12_goes_126 : decode cX12_goes 126 = .ok (.getfield 193, 3) := by decide +kernel
theorem dX12_goes_129 : decode cX12_goes 129 = .ok (.iload 4, 2) := by decide +kernel
theorem dX12_goes_131 : decode cX12_goes 131 = .ok (.ifCond .eq 7, 3) := by decide +kernel
theorem dX12_goes_134 : decode cX12_goes 134 = .ok (.iconst 0, 1) := by decide +kernel
theorem dX12_goes_135 : decode cX12_goes 135 = .ok (.goto 4, 3) := by decide +kernel
theorem dX12_goes_138 : decode cX12_goes 138 = .ok (.iconst 1, 1) := by decide +kernel
theorem dX12_goes_139 : decode cX12_goes 139 = .ok (.iadd, 1) := by decide +kernel
theorem dX12_goes_140 : decode cX12_goes 140 = .ok (.putfield 193, 3) := by decide +kernel
theorem dX12_goes_143 : decode cX12_goes 143 = .ok (.aload_n 0, 1) := by decide +kernel
theorem dX12_goes_144 : decode cX12_goes 144 = .ok (.getfield 58, 3) := by decide +kernel
theorem dX12_goes_147 : decode cX12_goes 147 = .ok (.iload_n 3, 1) := by decide +kernel
theorem dX12_goes_148 : decode cX12_goes 148 = .ok (.aaload, 1) := by decide +kernel
theorem dX12_goes_149 : decode cX12_goes 149 = .ok (.iconst 4, 1) := by decide +kernel
theorem dX12_goes_150 : decode cX12_goes 150 = .ok (.iaload, 1) := by decide +kernel
theorem dX12_goes_151 : decode cX12_goes 151 = .ok (.istore_n 3, 1) := by decide +kernel
theorem dX12_goes_152 : decode cX12_goes 152 = .ok (.goto (-150), 3) := by decide +kernel
theorem dX12_goes_155 : decode cX12_goes 155 = .ok (.return_, 1) := by decide +kernel
theorem dX12_work_0 : decode cX12_work 0 = .ok (.aload_n 0, 1) := by decide +kernel
theorem dX12_work_1 : decode cX12_work 1 = .ok (.iconst 0, 1) := by decide +kernel
theorem dX12_work_2 : decode cX12_work 2 = .ok (.putfield 94, 3) := by decide +kernel
theorem dX12_work_5 : decode cX12_work 5 = .ok (.aload_n 0, 1) := by decide +kernel
theorem dX12_work_6 : decode cX12_work 6 = .ok (.iload_n 1, 1) := by decide +kernel
theorem dX12_work_7 : decode cX12_work 7 = .ok (.iconst 0, 1) := by decide +kernel
theorem dX12_work_8 : decode cX12_work 8 = .ok (.aload_n 0, 1) := by decide +kernel
theorem dX12_work_9 : decode cX12_work 9 = .ok (.getfield 97, 3) := by decide +kernel
theorem dX12_work_12 : decode cX12_work 12 = .ok (.invokestatic 128, 3) := by decide +kernel
theorem dX12_work_15 : decode cX12_work 15 = .ok (.ifCond .eq 10, 3) := by decide +kernel
theorem dX12_work_18 : decode cX12_work 18 = .ok (.iload_n 1, 1) := by decide +kernel
theorem dX12_work_19 : decode cX12_work 19 = .ok (.sipush 150, 3) := by decide +kernel
theorem dX12_work_22 : decode cX12_work 22 = .ok (.if_icmp .le 7, 3) := by decide +kernel
theorem dX12_work_25 : decode cX12_work 25 = .ok (.iconst 1, 1) := by decide +kernel
theorem dX12_work_26 : decode cX12_work 26 = .ok (.goto 4, 3) := by decide +kernel
theorem dX12_work_29 : decode cX12_work 29 = .ok (.iconst 0, 1) := by decide +kernel
theorem dX12_work_30 : decode cX12_work 30 = .ok (.iconst 1, 1) := by decide +kernel
theorem dX12_work_31 : decode cX12_work 31 = .ok (.iconst 1, 1) := by decide +kernel
theorem dX12_work_32 : decode cX12_work 32 = .ok (.invokevirtual 167, 3) := by decide +kernel
theorem dX12_work_35 : decode cX12_work 35 = .ok (.ifCond .eq 5, 3) := by decide +kernel
theorem dX12_work_38 : decode cX12_work 38 = .ok (.iconst 0, 1) := by decide +kernel
theorem dX12_work_39 : decode cX12_work 39 = .ok (.ireturn, 1) := by decide +kernel
theorem dX12_work_40 : decode cX12_work 40 = .ok (.aload_n 0, 1) := by decide +kernel
theorem dX12_work_41 : decode cX12_work 41 = .ok (.getfield 190, 3) := by decide +kernel
theorem dX12_work_44 : decode cX12_work 44 = .ok (.bipush 16, 2) := by decide +kernel
theorem dX12_work_46 : decode cX12_work 46 = .ok (.if_icmp .ne 16, 3) := by decide +kernel
theorem dX12_work_49 : decode cX12_work 49 = .ok (.aload_n 0, 1) := by decide +kernel
theorem dX12_work_50 : decode cX12_work 50 = .ok (.iconst 0, 1) := by decide +kernel
theorem dX12_work_51 : decode cX12_work 51 = .ok (.putfield 97, 3) := by decide +kernel
theorem dX12_work_54 : decode cX12_work 54 = .ok (.aload_n 0, 1) := by decide +kernel
theorem dX12_work_55 : decode cX12_work 55 = .ok (.iconst (-1), 1) := by decide +kernel
theorem dX12_work_56 : decode cX12_work 56 = .ok (.putfield 9, 3) := by decide +kernel
theorem dX12_work_59 : decode cX12_work 59 = .ok (.bipush (-20), 2) := by decide +kernel
theorem dX12_work_61 : decode cX12_work 61 = .ok (.ireturn, 1) := by decide +kernel
theorem dX12_work_62 : decode cX12_work 62 = .ok (.aload_n 0, 1) := by decide +kernel
theorem dX12_work_63 : decode cX12_work 63 = .ok (.iload_n 1, 1) := by decide +kernel
theorem dX12_work_64 : decode cX12_work 64 = .ok (.invokevirtual 171, 3) := by decide +kernel
theorem dX12_work_67 : decode cX12_work 67 = .ok (.aload_n 0, 1) := by decide +kernel
theorem dX12_work_68 : decode cX12_work 68 = .ok (.iconst 0, 1) := by decide +kernel
theorem dX12_work_69 : decode cX12_work 69 = .ok (.putfield 240, 3) := by decide +kernel
theorem dX12_work_72 : decode cX12_work 72 = .ok (.aload_n 0, 1) := by decide +kernel
theorem dX12_work_73 : decode cX12_work 73 = .ok (.getfield 110, 3) := by decide +kernel
theorem dX12_work_76 : decode cX12_work 76 = .ok (.ifCond .ne 25, 3) := by decide +kernel
theorem dX12_work_79 : decode cX12_work 79 = .ok (.aload_n 0, 1) := by decide +kernel
theorem dX12_work_80 : decode cX12_work 80 = .ok (.getfield 103, 3) := by decide +kernel
theorem dX12_work_83 : decode cX12_work 83 = .ok (.aload_n 0, 1) := by decide +kernel
theorem dX12_work_84 : decode cX12_work 84 = .ok (.getfield 100, 3) := by decide +kernel
theorem dX12_work_87 : decode cX12_work 87 = .ok (.if_icmp .ge 14, 3) := by decide +kernel
theorem dX12_work_90 : decode cX12_work 90 = .ok (.aload_n 0, 1) := by decide +kernel
theorem dX12_work_91 : decode cX12_work 91 = .ok (.invokevirtual 243, 3) := by decide +kernel
theorem dX12_work_94 : decode cX12_work 94 = .ok (.aload_n 0, 1) := by decide +kernel
theorem dX12_work_95 : decode cX12_work 95 = .ok (.invokevirtual 116, 3) := by decide +kernel
theorem dX12_work_98 : decode cX12_work 98 = .ok (.goto (-26), 3) := by decide +kernel
theorem dX12_work_101 : decode cX12_work 101 = .ok (.aload_n 0, 1) := by decide +kernel
theorem dX12_work_102 : decode cX12_work 102 = .ok (.getfield 110, 3) := by decide +kernel
theorem dX12_work_105 : decode cX12_work 105 = .ok (.ifCond .eq 8, 3) := by decide +kernel
theorem dX12_work_108 : decode cX12_work 108 = .ok (.aload_n 0, 1) := by decide +kernel
theorem dX12_work_109 : decode cX12_work 109 = .ok (.invokevirtual 177, 3) := by decide +kernel
theorem dX12_work_112 : decode cX12_work 112 = .ok (.ireturn, 1) := by decide +kernel
theorem dX12_work_113 : decode cX12_work 113 = .ok (.aload_n 0, 1) := by decide +kernel
theorem dX12_work_114 : decode cX12_work 114 = .ok (.iconst (-1), 1) := by decide +kernel
theorem dX12_work_115 : decode cX12_work 115 = .ok (.putfield 9, 3) := by decide +kernel
theorem dX12_work_118 : decode cX12_work 118 = .ok (.aload_n 0, 1) := by decide +kernel
theorem dX12_work_119 : decode cX12_work 119 = .ok (.getfield 61, 3) := by decide +kernel
theorem dX12_work_122 : decode cX12_work 122 = .ok (.aload_n 0, 1) := by decide +kernel
theorem dX12_work_123 : decode cX12_work 123 = .ok (.getfield 67, 3) := by decide +kernel
theorem dX12_work_126 : decode cX12_work 126 = .ok (.aload_n 0, 1) := by decide +kernel
theorem dX12_work_127 : decode cX12_work 127 = .ok (.getfield 190, 3) := by decide +kernel
theorem dX12_work_130 : decode cX12_work 130 = .ok (.aaload, 1) := by decide +kernel
theorem dX12_work_131 : decode cX12_work 131 = .ok (.invokestatic 292, 3) := by decide +kernel
theorem dX12_work_134 : decode cX12_work 134 = .ok (.aload_n 0, 1) := by decide +kernel
theorem dX12_work_135 : decode cX12_work 135 = .ok (.dup, 1) := by decide +kernel
theorem dX12_work_136 : decode cX12_work 136 = .ok (.getfield 190, 3) := by decide +kernel
theorem dX12_work_139 : decode cX12_work 139 = .ok (.iconst 1, 1) := by decide +kernel
theorem dX12_work_140 : decode cX12_work 140 = .ok (.iadd, 1) := by decide +kernel
theorem dX12_work_141 : decode cX12_work 141 = .ok (.putfield 190, 3) := by decide +kernel
theorem dX12_work_144 : decode cX12_work 144 = .ok (.aload_n 0, 1) := by decide +kernel
theorem dX12_work_145 : decode cX12_work 145 = .ok (.iconst 0, 1) := by decide +kernel
theorem dX12_work_146 : decode cX12_work 146 = .ok (.putfield 279, 3) := by decide +kernel
theorem dX12_work_149 : decode cX12_work 149 = .ok (.aload_n 0, 1) := by decide +kernel
theorem dX12_work_150 : decode cX12_work 150 = .ok (.iconst 0, 1) := by decide +kernel
theorem dX12_work_151 : decode cX12_work 151 = .ok (.putfield 289, 3) := by decide +kernel
theorem dX12_work_154 : decode cX12_work 154 = .ok (.aload_n 0, 1) := by decide +kernel
theorem dX12_work_155 : decode cX12_work 155 = .ok (.iconst 0, 1) := by decide +kernel
theorem dX12_work_156 : decode cX12_work 156 = .ok (.putfield 193, 3) := by decide +kernel
theorem dX12_work_159 : decode cX12_work 159 = .ok (.aload_n 0, 1) := by decide +kernel
theorem dX12_work_160 : decode cX12_work 160 = .ok (.iconst 0, 1) := by decide +kernel
theorem dX12_work_161 : decode cX12_work 161 = .ok (.aload_n 0, 1) := by decide +kernel
theorem dX12_work_162 : decode cX12_work 162 = .ok (.getfield 240, 3) := by decide +kernel
theorem dX12_work_165 : decode cX12_work 165 = .ok (.invokevirtual 282, 3) := by decide +kernel
theorem dX12_work_168 : decode cX12_work 168 = .ok (.aload_n 0, 1) := by decide +kernel
theorem dX12_work_169 : decode cX12_work 169 = .ok (.getfield 289, 3) := by decide +kernel
theorem dX12_work_172 : decode cX12_work 172 = .ok (.ireturn, 1) := by decide +kernel
theorem dX12_undo_0 : decode cX12_undo 0 = .ok (.aload_n 0, 1) := by decide +kernel
theorem dX12_undo_1 : decode cX12_undo 1 = .ok (.iconst 0, 1) := by decide +kernel
theorem dX12_undo_2 : decode cX12_undo 2 = .ok (.putfield 94, 3) := by decide +kernel
theorem dX12_undo_5 : decode cX12_undo 5 = .ok (.aload_n 0, 1) := by decide +kernel
theorem dX12_undo_6 : decode cX12_undo 6 = .ok (.getfield 190, 3) := by decide +kernel
theorem dX12_undo_9 : decode cX12_undo 9 = .ok (.ifCond .ne 5, 3) := by decide +kernel
theorem dX12_undo_12 : decode cX12_undo 12 = .ok (.iconst (-1), 1) := by decide +kernel
theorem dX12_undo_13 : decode cX12_undo 13 = .ok (.ireturn, 1) := by decide +kernel
theorem dX12_undo_14 : decode cX12_undo 14 = .ok (.aload_n 0, 1) := by decide +kernel
theorem dX12_undo_15 : decode cX12_undo 15 = .ok (.dup, 1) := by decide +kernel
theorem dX12_undo_16 : decode cX12_undo 16 = .ok (.getfield 190, 3) := by decide +kernel
theorem dX12_undo_19 : decode cX12_undo 19 = .ok (.iconst 1, 1) := by decide +kernel
theorem dX12_undo_20 : decode cX12_undo 20 = .ok (.isub, 1) := by decide +kernel
theorem dX12_undo_21 : decode cX12_undo 21 = .ok (.putfield 190, 3) := by decide +kernel
theorem dX12_undo_24 : decode cX12_undo 24 = .ok (.aload_n 0, 1) := by decide +kernel
theorem dX12_undo_25 : decode cX12_undo 25 = .ok (.getfield 67, 3) := by decide +kernel
theorem dX12_undo_28 : decode cX12_undo 28 = .ok (.aload_n 0, 1) := by decide +kernel
theorem dX12_undo_29 : decode cX12_undo 29 = .ok (.getfield 190, 3) := by decide +kernel
theorem dX12_undo_32 : decode cX12_undo 32 = .ok (.aaload, 1) := by decide +kernel
theorem dX12_undo_33 : decode cX12_undo 33 = .ok (.aload_n 0, 1) := by decide +kernel
theorem dX12_undo_34 : decode cX12_undo 34 = .ok (.getfield 61, 3) := by decide +kernel
theorem dX12_undo_37 : decode cX12_undo 37 = .ok (.invokestatic 292, 3) := by decide +kernel
theorem dX12_undo_40 : decode cX12_undo 40 = .ok (.aload_n 0, 1) := by decide +kernel
theorem dX12_undo_41 : decode cX12_undo 41 = .ok (.iconst 0, 1) := by decide +kernel
theorem dX12_undo_42 : decode cX12_undo 42 = .ok (.putfield 193, 3) := by decide +kernel
theorem dX12_undo_45 : decode cX12_undo 45 = .ok (.aload_n 0, 1) := by decide +kernel
theorem dX12_undo_46 : decode cX12_undo 46 = .ok (.getfield 190, 3) := by decide +kernel
theorem dX12_undo_49 : decode cX12_undo 49 = .ok (.ireturn, 1) := by decide +kernel
theorem dX12_told_0 : decode cX12_told 0 = .ok (.aload_n 0, 1) := by decide +kernel
theorem dX12_told_1 : decode cX12_told 1 = .ok (.iconst 0, 1) := by decide +kernel
theorem dX12_told_2 : decode cX12_told 2 = .ok (.putfield 94, 3) := by decide +kernel
theorem dX12_told_5 : decode cX12_told 5 = .ok (.aload_n 0, 1) := by decide +kernel
theorem dX12_told_6 : decode cX12_told 6 = .ok (.iload_n 1, 1) := by decide +kernel
theorem dX12_told_7 : decode cX12_told 7 = .ok (.iconst 0, 1) := by decide +kernel
theorem dX12_told_8 : decode cX12_told 8 = .ok (.bipush 8, 2) := by decide +kernel
theorem dX12_told_10 : decode cX12_told 10 = .ok (.invokestatic 128, 3) := by decide +kernel
theorem dX12_told_13 : decode cX12_told 13 = .ok (.ifCond .ne 7, 3) := by decide +kernel
theorem dX12_told_16 : decode cX12_told 16 = .ok (.iconst 1, 1) := by decide +kernel
theorem dX12_told_17 : decode cX12_told 17 = .ok (.goto 4, 3) := by decide +kernel
theorem dX12_told_20 : decode cX12_told 20 = .ok (.iconst 0, 1) := by decide +kernel
theorem dX12_told_21 : decode cX12_told 21 = .ok (.iconst 1, 1) := by decide +kernel
theorem dX12_told_22 : decode cX12_told 22 = .ok (.iconst 1, 1) := by decide +kernel
theorem dX12_told_23 : decode cX12_told 23 = .ok (.invokevirtual 167, 3) := by decide +kernel
theorem dX12_told_26 : decode cX12_told 26 = .ok (.ifCond .eq 5, 3) := by decide +kernel
theorem dX12_told_29 : decode cX12_told 29 = .ok (.iconst 0, 1) := by decide +kernel
theorem dX12_told_30 : decode cX12_told 30 = .ok (.ireturn, 1) := by decide +kernel
theorem dX12_told_31 : decode cX12_told 31 = .ok (.iload_n 1, 1) := by decide +kernel
theorem dX12_told_32 : decode cX12_told 32 = .ok (.tableswitch 104 0 7 #[48, 55, 63, 71, 78, 83, 88, 96], 48) := by decide +kernel
theorem dX12_told_80 : decode cX12_told 80 = .ok (.aload_n 0, 1) := by decide +kernel
theorem dX12_told_81 : decode cX12_told 81 = .ok (.getfield 23, 3) := by decide +kernel
theorem dX12_told_84 : decode cX12_told 84 = .ok (.iconst 0, 1) := by decide +kernel
theorem dX12_told_85 : decode cX12_told 85 = .ok (.iaload, 1) := by decide +kernel
theorem dX12_told_86 : decode cX12_told 86 = .ok (.ireturn, 1) := by decide +kernel
theorem dX12_told_87 : decode cX12_told 87 = .ok (.aload_n 0, 1) := by decide +kernel
theorem dX12_told_88 : decode cX12_told 88 = .ok (.getfield 61, 3) := by decide +kernel
theorem dX12_told_91 : decode cX12_told 91 = .ok (.bipush 24, 2) := by decide +kernel
theorem dX12_told_93 : decode cX12_told 93 = .ok (.iaload, 1) := by decide +kernel
theorem dX12_told_94 : decode cX12_told 94 = .ok (.ireturn, 1) := by decide +kernel
theorem dX12_told_95 : decode cX12_told 95 = .ok (.aload_n 0, 1) := by decide +kernel
theorem dX12_told_96 : decode cX12_told 96 = .ok (.getfield 61, 3) := by decide +kernel
theorem dX12_told_99 : decode cX12_told 99 = .ok (.bipush 27, 2) := by decide +kernel
theorem dX12_told_101 : decode cX12_told 101 = .ok (.iaload, 1) := by decide +kernel
theorem dX12_told_102 : decode cX12_told 102 = .ok (.ireturn, 1) := by decide +kernel
theorem dX12_told_103 : decode cX12_told 103 = .ok (.aload_n 0, 1) := by decide +kernel
theorem dX12_told_104 : decode cX12_told 104 = .ok (.getfield 23, 3) := by decide +kernel
theorem dX12_told_107 : decode cX12_told 107 = .ok (.iconst 1, 1) := by decide +kernel
theorem dX12_told_108 : decode cX12_told 108 = .ok (.iaload, 1) := by decide +kernel
theorem dX12_told_109 : decode cX12_told 109 = .ok (.ireturn, 1) := by decide +kernel
theorem dX12_told_110 : decode cX12_told 110 = .ok (.aload_n 0, 1) := by decide +kernel
theorem dX12_told_111 : decode cX12_told 111 = .ok (.getfield 187, 3) := by decide +kernel
theorem dX12_told_114 : decode cX12_told 114 = .ok (.ireturn, 1) := by decide +kernel
theorem dX12_told_115 : decode cX12_told 115 = .ok (.aload_n 0, 1) := by decide +kernel
theorem dX12_told_116 : decode cX12_told 116 = .ok (.getfield 193, 3) := by decide +kernel
theorem dX12_told_119 : decode cX12_told 119 = .ok (.ireturn, 1) := by decide +kernel
theorem dX12_told_120 : decode cX12_told 120 = .ok (.aload_n 0, 1) := by decide +kernel
theorem dX12_told_121 : decode cX12_told 121 = .ok (.getfield 61, 3) := by decide +kernel
theorem dX12_told_124 : decode cX12_told 124 = .ok (.bipush 25, 2) := by decide +kernel
theorem dX12_told_126 : decode cX12_told 126 = .ok (.iaload, 1) := by decide +kernel
theorem dX12_told_127 : decode cX12_told 127 = .ok (.ireturn, 1) := by decide +kernel
theorem dX12_told_128 : decode cX12_told 128 = .ok (.aload_n 0, 1) := by decide +kernel
theorem dX12_told_129 : decode cX12_told 129 = .ok (.getfield 61, 3) := by decide +kernel
theorem dX12_told_132 : decode cX12_told 132 = .ok (.bipush 26, 2) := by decide +kernel
theorem dX12_told_134 : decode cX12_told 134 = .ok (.iaload, 1) := by decide +kernel
theorem dX12_told_135 : decode cX12_told 135 = .ok (.ireturn, 1) := by decide +kernel
theorem dX12_told_136 : decode cX12_told 136 = .ok (.iconst 0, 1) := by decide +kernel
theorem dX12_told_137 : decode cX12_told 137 = .ok (.istore_n 2, 1) := by decide +kernel
theorem dX12_told_138 : decode cX12_told 138 = .ok (.iconst 0, 1) := by decide +kernel
theorem dX12_told_139 : decode cX12_told 139 = .ok (.istore_n 3, 1) := by decide +kernel
theorem dX12_told_140 : decode cX12_told 140 = .ok (.iload_n 3, 1) := by decide +kernel
theorem dX12_told_141 : decode cX12_told 141 = .ok (.aload_n 0, 1) := by decide +kernel
theorem dX12_told_142 : decode cX12_told 142 = .ok (.getfield 23, 3) := by decide +kernel
theorem dX12_told_145 : decode cX12_told 145 = .ok (.iconst 0, 1) := by decide +kernel
theorem dX12_told_146 : decode cX12_told 146 = .ok (.iaload, 1) := by decide +kernel
theorem dX12_told_147 : decode cX12_told 147 = .ok (.if_icmp .ge 21, 3) := by decide +kernel
theorem dX12_told_150 : decode cX12_told 150 = .ok (.iload_n 2, 1) := by decide +kernel
theorem dX12_told_151 : decode cX12_told 151 = .ok (.aload_n 0, 1) := by decide +kernel
theorem dX12_told_152 : decode cX12_told 152 = .ok (.getfield 29, 3) := by decide +kernel
theorem dX12_told_155 : decode cX12_told 155 = .ok (.iload_n 3, 1) := by decide +kernel
theorem dX12_told_156 : decode cX12_told 156 = .ok (.iaload, 1) := by decide +kernel
theorem dX12_told_157 : decode cX12_told 157 = .ok (.invokestatic 250, 3) := by decide +kernel
theorem dX12_told_160 : decode cX12_told 160 = .ok (.iadd, 1) := by decide +kernel
theorem dX12_told_161 : decode cX12_told 161 = .ok (.istore_n 2, 1) := by decide +kernel
theorem dX12_told_162 : decode cX12_told 162 = .ok (.iinc 3 1, 3) := by decide +kernel
theorem dX12_told_165 : decode cX12_told 165 = .ok (.goto (-25), 3) := by decide +kernel
theorem dX12_told_168 : decode cX12_told 168 = .ok (.iload_n 2, 1) := by decide +kernel
theorem dX12_told_169 : decode cX12_told 169 = .ok (.ireturn, 1) := by decide +kernel
theorem dX12_isPerson_0 : decode cX12_isPerson 0 = .ok (.iload_n 1, 1) := by decide +kernel
theorem dX12_isPerson_1 : decode cX12_isPerson 1 = .ok (.iconst 0, 1) := by decide +kernel
theorem dX12_isPerson_2 : decode cX12_isPerson 2 = .ok (.aload_n 0, 1) := by decide +kernel
theorem dX12_isPerson_3 : decode cX12_isPerson 3 = .ok (.getfield 23, 3) := by decide +kernel
theorem dX12_isPerson_6 : decode cX12_isPerson 6 = .ok (.iconst 0, 1) := by decide +kernel
theorem dX12_isPerson_7 : decode cX12_isPerson 7 = .ok (.iaload, 1) := by decide +kernel
theorem dX12_isPerson_8 : decode cX12_isPerson 8 = .ok (.iconst 1, 1) := by decide +kernel
theorem dX12_isPerson_9 : decode cX12_isPerson 9 = .ok (.isub, 1) := by decide +kernel
theorem dX12_isPerson_10 : decode cX12_isPerson 10 = .ok (.invokestatic 128, 3) := by decide +kernel
theorem dX12_isPerson_13 : decode cX12_isPerson 13 = .ok (.ireturn, 1) := by decide +kernel
theorem dX12_isHall_0 : decode cX12_isHall 0 = .ok (.iload_n 0, 1) := by decide +kernel
theorem dX12_isHall_1 : decode cX12_isHall 1 = .ok (.iconst 0, 1) := by decide +kernel
theorem dX12_isHall_2 : decode cX12_isHall 2 = .ok (.iconst 5, 1) := by decide +kernel
theorem dX12_isHall_3 : decode cX12_isHall 3 = .ok (.invokestatic 128, 3) := by decide +kernel
theorem dX12_isHall_6 : decode cX12_isHall 6 = .ok (.ireturn, 1) := by decide +kernel
theorem dX12_isPlate_0 : decode cX12_isPlate 0 = .ok (.iload_n 1, 1) := by decide +kernel
theorem dX12_isPlate_1 : decode cX12_isPlate 1 = .ok (.iconst 0, 1) := by decide +kernel
theorem dX12_isPlate_2 : decode cX12_isPlate 2 = .ok (.aload_n 0, 1) := by decide +kernel
theorem dX12_isPlate_3 : decode cX12_isPlate 3 = .ok (.getfield 61, 3) := by decide +kernel
theorem dX12_isPlate_6 : decode cX12_isPlate 6 = .ok (.bipush 24, 2) := by decide +kernel
theorem dX12_isPlate_8 : decode cX12_isPlate 8 = .ok (.iaload, 1) := by decide +kernel
theorem dX12_isPlate_9 : decode cX12_isPlate 9 = .ok (.iconst 1, 1) := by decide +kernel
theorem dX12_isPlate_10 : decode cX12_isPlate 10 = .ok (.isub, 1) := by decide +kernel
theorem dX12_isPlate_11 : decode cX12_isPlate 11 = .ok (.invokestatic 128, 3) := by decide +kernel
theorem dX12_isPlate_14 : decode cX12_isPlate 14 = .ok (.ireturn, 1) := by decide +kernel
theorem dX12_isFace_0 : decode cX12_isFace 0 = .ok (.iload_n 0, 1) := by decide +kernel
theorem dX12_isFace_1 : decode cX12_isFace 1 = .ok (.iconst 0, 1) := by decide +kernel
theorem dX12_isFace_2 : decode cX12_isFace 2 = .ok (.bipush 63, 2) := by decide +kernel
theorem dX12_isFace_4 : decode cX12_isFace 4 = .ok (.invokestatic 128, 3) := by decide +kernel
theorem dX12_isFace_7 : decode cX12_isFace 7 = .ok (.ireturn, 1) := by decide +kernel
theorem dX12_arePersons_0 : decode cX12_arePersons 0 = .ok (.iload_n 1, 1) := by decide +kernel
theorem dX12_arePersons_1 : decode cX12_arePersons 1 = .ok (.iconst 0, 1) := by decide +kernel
theorem dX12_arePersons_2 : decode cX12_arePersons 2 = .ok (.iconst 1, 1) := by decide +kernel
theorem dX12_arePersons_3 : decode cX12_arePersons 3 = .ok (.aload_n 0, 1) := by decide +kernel
theorem dX12_arePersons_4 : decode cX12_arePersons 4 = .ok (.getfield 23, 3) := by decide +kernel
theorem dX12_arePersons_7 : decode cX12_arePersons 7 = .ok (.iconst 0, 1) := by decide +kernel
theorem dX12_arePersons_8 : decode cX12_arePersons 8 = .ok (.iaload, 1) := by decide +kernel
theorem dX12_arePersons_9 : decode cX12_arePersons 9 = .ok (.ishl, 1) := by decide +kernel
theorem dX12_arePersons_10 : decode cX12_arePersons 10 = .ok (.iconst 1, 1) := by decide +kernel
theorem dX12_arePersons_11 : decode cX12_arePersons 11 = .ok (.isub, 1) := by decide +kernel
theorem dX12_arePersons_12 : decode cX12_arePersons 12 = .ok (.invokestatic 128, 3) := by decide +kernel
theorem dX12_arePersons_15 : decode cX12_arePersons 15 = .ok (.ireturn, 1) := by decide +kernel
theorem dX12_person_0 : decode cX12_person 0 = .ok (.aload_n 0, 1) := by decide +kernel
theorem dX12_person_1 : decode cX12_person 1 = .ok (.iconst 0, 1) := by decide +kernel
theorem dX12_person_2 : decode cX12_person 2 = .ok (.putfield 94, 3) := by decide +kernel
theorem dX12_person_5 : decode cX12_person 5 = .ok (.aload_n 0, 1) := by decide +kernel
theorem dX12_person_6 : decode cX12_person 6 = .ok (.aload_n 0, 1) := by decide +kernel
theorem dX12_person_7 : decode cX12_person 7 = .ok (.iload_n 1, 1) := by decide +kernel
theorem dX12_person_8 : decode cX12_person 8 = .ok (.invokevirtual 296, 3) := by decide +kernel
theorem dX12_person_11 : decode cX12_person 11 = .ok (.ifCond .ne 7, 3) := by decide +kernel
theorem dX12_person_14 : decode cX12_person 14 = .ok (.iconst 1, 1) := by decide +kernel
theorem dX12_person_15 : decode cX12_person 15 = .ok (.goto 4, 3) := by decide +kernel
theorem dX12_person_18 : decode cX12_person 18 = .ok (.iconst 0, 1) := by decide +kernel
theorem dX12_person_19 : decode cX12_person 19 = .ok (.iconst 1, 1) := by decide +kernel
theorem dX12_person_20 : decode cX12_person 20 = .ok (.iconst 0, 1) := by decide +kernel
theorem dX12_person_21 : decode cX12_person 21 = .ok (.invokevirtual 167, 3) := by decide +kernel
theorem dX12_person_24 : decode cX12_person 24 = .ok (.ifCond .ne 27, 3) := by decide +kernel
theorem dX12_person_27 : decode cX12_person 27 = .ok (.aload_n 0, 1) := by decide +kernel
theorem dX12_person_28 : decode cX12_person 28 = .ok (.iload_n 2, 1) := by decide +kernel
theorem dX12_person_29 : decode cX12_person 29 = .ok (.iconst 0, 1) := by decide +kernel
theorem dX12_person_30 : decode cX12_person 30 = .ok (.bipush 6, 2) := by decide +kernel
theorem dX12_person_32 : decode cX12_person 32 = .ok (.invokestatic 128, 3) := by decide +kernel
theorem dX12_person_35 : decode cX12_person 35 = .ok (.ifCond .ne 7, 3) := by decide +kernel
theorem dX12_person_38 : decode cX12_person 38 = .ok (.iconst 1, 1) := by decide +kernel
theorem dX12_person_39 : decode cX12_person 39 = .ok (.goto 4, 3) := by decide +kernel
theorem dX12_person_42 : decode cX12_person 42 = .ok (.iconst 0, 1) := by decide +kernel
theorem dX12_person_43 : decode cX12_person 43 = .ok (.iconst 2, 1) := by decide +kernel
theorem dX12_person_44 : decode cX12_person 44 = .ok (.iconst 1, 1) := by decide +kernel
theorem dX12_person_45 : decode cX12_person 45 = .ok (.invokevirtual 167, 3) := by decide +kernel
theorem dX12_person_48 : decode cX12_person 48 = .ok (.ifCond .eq 5, 3) := by decide +kernel
theorem dX12_person_51 : decode cX12_person 51 = .ok (.iconst 0, 1) := by decide +kernel
theorem dX12_person_52 : decode cX12_person 52 = .ok (.ireturn, 1) := by decide +kernel
theorem dX12_person_53 : decode cX12_person 53 = .ok (.iload_n 2, 1) := by decide +kernel
theorem dX12_person_54 : decode cX12_person 54 = .ok (.tableswitch 66 3 6 #[30, 39, 49, 59], 30) := by decide +kernel
theorem dX12_person_84 : decode cX12_person 84 = .ok (.aload_n 0, 1) := by decide +kernel
theorem dX12_person_85 : decode cX12_person 85 = .ok (.getfield 61, 3) := by decide +kernel
theorem dX12_person_88 : decode cX12_person 88 = .ok (.iconst 0, 1) := by decide +kernel
theorem dX12_person_89 : decode cX12_person 89 = .ok (.iload_n 1, 1) := by decide +kernel
theorem dX12_person_90 : decode cX12_person 90 = .ok (.iadd, 1) := by decide +kernel
theorem dX12_person_91 : decode cX12_person 91 = .ok (.iaload, 1) := by decide +kernel
theorem dX12_person_92 : decode cX12_person 92 = .ok (.ireturn, 1) := by decide +kernel
theorem dX12_person_93 : decode cX12_person 93 = .ok (.aload_n 0, 1) := by decide +kernel
theorem dX12_person_94 : decode cX12_person 94 = .ok (.getfield 61, 3) := by decide +kernel
theorem dX12_person_97 : decode cX12_person 97 = .ok (.bipush 8, 2) := by decide +kernel
theorem dX12_person_99 : decode cX12_person 99 = .ok (.iload_n 1, 1) := by decide +kernel
theorem dX12_person_100 : decode cX12_person 100 = .ok (.iadd, 1) := by decide +kernel
theorem dX12_person_101 : decode cX12_person 101 = .ok (.iaload, 1) := by decide +kernel
theorem dX12_person_102 : decode cX12_person 102 = .ok (.ireturn, 1) := by decide +kernel
theorem dX12_person_103 : decode cX12_person 103 = .ok (.aload_n 0, 1) := by decide +kernel
theorem dX12_person_104 : decode cX12_person 104 = .ok (.getfield 61, 3) := by decide +kernel
theorem dX12_person_107 : decode cX12_person 107 = .ok (.bipush 16, 2) := by decide +kernel
theorem dX12_person_109 : decode cX12_person 109 = .ok (.iload_n 1, 1) := by decide +kernel
theorem dX12_person_110 : decode cX12_person 110 = .ok (.iadd, 1) := by decide +kernel
theorem dX12_person_111 : decode cX12_person 111 = .ok (.iaload, 1) := by decide +kernel
theorem dX12_person_112 : decode cX12_person 112 = .ok (.ireturn, 1) := by decide +kernel
theorem dX12_person_113 : decode cX12_person 113 = .ok (.aload_n 0, 1) := by decide +kernel
theorem dX12_person_114 : decode cX12_person 114 = .ok (.getfield 29, 3) := by decide +kernel
theorem dX12_person_117 : decode cX12_person 117 = .ok (.iload_n 1, 1) := by decide +kernel
theorem dX12_person_118 : decode cX12_person 118 = .ok (.iaload, 1) := by decide +kernel
theorem dX12_person_119 : decode cX12_person 119 = .ok (.ireturn, 1) := by decide +kernel
theorem dX12_person_120 : decode cX12_person 120 = .ok (.aload_n 0, 1) := by decide +kernel
theorem dX12_person_121 : decode cX12_person 121 = .ok (.getfield 37, 3) := by decide +kernel
theorem dX12_person_124 : decode cX12_person 124 = .ok (.iload_n 1, 1) := by decide +kernel
theorem dX12_person_125 : decode cX12_person 125 = .ok (.aaload, 1) := by decide +kernel
theorem dX12_person_126 : decode cX12_person 126 = .ok (.iload_n 2, 1) := by decide +kernel
theorem dX12_person_127 : decode cX12_person 127 = .ok (.iaload, 1) := by decide +kernel
theorem dX12_person_128 : decode cX12_person 128 = .ok (.ireturn, 1) := by decide +kernel
theorem dX12_looksOf_0 : decode cX12_looksOf 0 = .ok (.iconst 0, 1) := by decide +kernel
theorem dX12_looksOf_1 : decode cX12_looksOf 1 = .ok (.istore_n 2, 1) := by decide +kernel
theorem dX12_looksOf_2 : decode cX12_looksOf 2 = .ok (.iconst 1, 1) := by decide +kernel
theorem dX12_looksOf_3 : decode cX12_looksOf 3 = .ok (.istore_n 3, 1) := by decide +kernel
theorem dX12_looksOf_4 : decode cX12_looksOf 4 = .ok (.iload_n 3, 1) := by decide +kernel
theorem dX12_looksOf_5 : decode cX12_looksOf 5 = .ok (.aload_n 0, 1) := by decide +kernel
theorem dX12_looksOf_6 : decode cX12_looksOf 6 = .ok (.getfield 23, 3) := by decide +kernel
theorem dX12_looksOf_9 : decode cX12_looksOf 9 = .ok (.iconst 0, 1) := by decide +kernel
theorem dX12_looksOf_10 : decode cX12_looksOf 10 = .ok (.iaload, 1) := by decide +kernel
theorem dX12_looksOf_11 : decode cX12_looksOf 11 = .ok (.if_icmp .ge 38, 3) := by decide +kernel
theorem dX12_looksOf_14 : decode cX12_looksOf 14 = .ok (.iload_n 1, 1) := by decide +kernel
theorem dX12_looksOf_15 : decode cX12_looksOf 15 = .ok (.aload_n 0, 1) := by decide +kernel
theorem dX12_looksOf_16 : decode cX12_looksOf 16 = .ok (.iload_n 3, 1) := by decide +kernel
theorem dX12_looksOf_17 : decode cX12_looksOf 17 = .ok (.invokevirtual 253, 3) := by decide +kernel
theorem dX12_looksOf_20 : decode cX12_looksOf 20 = .ok (.ixor, 1) := by decide +kernel
theorem dX12_looksOf_21 : decode cX12_looksOf 21 = .ok (.invokestatic 250, 3) := by decide +kernel
theorem dX12_looksOf_24 : decode cX12_looksOf 24 = .ok (.iload_n 1, 1) := by decide +kernel
theorem dX12_looksOf_25 : decode cX12_looksOf 25 = .ok (.aload_n 0, 1) := by decide +kernel
theorem dX12_looksOf_26 : decode cX12_looksOf 26 = .ok (.iload_n 2, 1) := by decide +kernel
theorem dX12_looksOf_27 : decode cX12_looksOf 27 = .ok (.invokevirtual 253, 3) := by decide +kernel
theorem dX12_looksOf_30 : decode cX12_looksOf 30 = .ok (.ixor, 1) := by decide +kernel
theorem dX12_looksOf_31 : decode cX12_looksOf 31 = .ok (.invokestatic 250, 3) := by decide +kernel
theorem dX12_looksOf_34 : decode cX12_looksOf 34 = .ok (.if_icmp .ge 7, 3) := by decide +kernel
theorem dX12_looksOf_37 : decode cX12_looksOf 37 = .ok (.iload_n 3, 1) := by decide +kernel
theorem dX12_looksOf_38 : decode cX12_looksOf 38 = .ok (.goto 4, 3) := by decide +kernel
theorem dX12_looksOf_41 : decode cX12_looksOf 41 = .ok (.iload_n 2, 1) := by decide +kernel
theorem dX12_looksOf_42 : decode cX12_looksOf 42 = .ok (.istore_n 2, 1) := by decide +kernel
theorem dX12_looksOf_43 : decode cX12_looksOf 43 = .ok (.iinc 3 1, 3) := by decide +kernel
theorem dX12_looksOf_46 : decode cX12_looksOf 46 = .ok (.goto (-42), 3) := by decide +kernel
theorem dX12_looksOf_49 : decode cX12_looksOf 49 = .ok (.iload_n 2, 1) := by decide +kernel
theorem dX12_looksOf_50 : decode cX12_looksOf 50 = .ok (.ireturn, 1) := by decide +kernel
theorem dX12_plate_0 : decode cX12_plate 0 = .ok (.aload_n 0, 1) := by decide +kernel
theorem dX12_plate_1 : decode cX12_plate 1 = .ok (.iconst 0, 1) := by decide +kernel
theorem dX12_plate_2 : decode cX12_plate 2 = .ok (.putfield 94, 3) := by decide +kernel
theorem dX12_plate_5 : decode cX12_plate 5 = .ok (.aload_n 0, 1) := by decide +kernel
theorem dX12_plate_6 : decode cX12_plate 6 = .ok (.aload_n 0, 1) := by decide +kernel
