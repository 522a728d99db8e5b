theorem dX8_init_0 : decode cX8_init 0 = .ok (.aload_n 0, 1) := by decide +kernel
theorem dX8_init_1 : decode cX8_init 1 = .ok (.invokespecial 3, 3) := by decide +kernel
theorem dX8_init_4 : decode cX8_init 4 = .ok (.aload_n 0, 1) := by decide +kernel
theorem dX8_init_5 : decode cX8_init 5 = .ok (.sipush 600, 3) := by decide +kernel
theorem dX8_init_8 : decode cX8_init 8 = .ok (.newarray .byte, 2) := by decide +kernel
theorem dX8_init_10 : decode cX8_init 10 = .ok (.putfield 9, 3) := by decide +kernel
theorem dX8_init_13 : decode cX8_init 13 = .ok (.aload_n 0, 1) := by decide +kernel
theorem dX8_init_14 : decode cX8_init 14 = .ok (.iconst (-1), 1) := by decide +kernel
theorem dX8_init_15 : decode cX8_init 15 = .ok (.putfield 15, 3) := by decide +kernel
theorem dX8_init_18 : decode cX8_init 18 = .ok (.return_, 1) := by decide +kernel
theorem dX8_add_0 : decode cX8_add 0 = .ok (.bipush 24, 2) := by decide +kernel
theorem dX8_add_2 : decode cX8_add 2 = .ok (.istore_n 2, 1) := by decide +kernel
theorem dX8_add_3 : decode cX8_add 3 = .ok (.iload_n 2, 1) := by decide +kernel
theorem dX8_add_4 : decode cX8_add 4 = .ok (.ifCond .lt 44, 3) := by decide +kernel
theorem dX8_add_7 : decode cX8_add 7 = .ok (.aload_n 0, 1) := by decide +kernel
theorem dX8_add_8 : decode cX8_add 8 = .ok (.getfield 19, 3) := by decide +kernel
theorem dX8_add_11 : decode cX8_add 11 = .ok (.aload_n 0, 1) := by decide +kernel
theorem dX8_add_12 : decode cX8_add 12 = .ok (.getfield 9, 3) := by decide +kernel
theorem dX8_add_15 : decode cX8_add 15 = .ok (.arraylength, 1) := by decide +kernel
theorem dX8_add_16 : decode cX8_add 16 = .ok (.if_icmp .ge 32, 3) := by decide +kernel
theorem dX8_add_19 : decode cX8_add 19 = .ok (.aload_n 0, 1) := by decide +kernel
theorem dX8_add_20 : decode cX8_add 20 = .ok (.getfield 9, 3) := by decide +kernel
theorem dX8_add_23 : decode cX8_add 23 = .ok (.aload_n 0, 1) := by decide +kernel
theorem dX8_add_24 : decode cX8_add 24 = .ok (.getfield 19, 3) := by decide +kernel
theorem dX8_add_27 : decode cX8_add 27 = .ok (.iload_n 1, 1) := by decide +kernel
theorem dX8_add_28 : decode cX8_add 28 = .ok (.iload_n 2, 1) := by decide +kernel
theorem dX8_add_29 : decode cX8_add 29 = .ok (.ishr, 1) := by decide +kernel
theorem dX8_add_30 : decode cX8_add 30 = .ok (.i2b, 1) := by decide +kernel
theorem dX8_add_31 : decode cX8_add 31 = .ok (.bastore, 1) := by decide +kernel
theorem dX8_add_32 : decode cX8_add 32 = .ok (.aload_n 0, 1) := by decide +kernel
theorem dX8_add_33 : decode cX8_add 33 = .ok (.dup, 1) := by decide +kernel
theorem dX8_add_34 : decode cX8_add 34 = .ok (.getfield 19, 3) := by decide +kernel
theorem dX8_add_37 : decode cX8_add 37 = .ok (.iconst 1, 1) := by decide +kernel
theorem dX8_add_38 : decode cX8_add 38 = .ok (.iadd, 1) := by decide +kernel
theorem dX8_add_39 : decode cX8_add 39 = .ok (.putfield 19, 3) := by decide +kernel
theorem dX8_add_42 : decode cX8_add 42 = .ok (.iinc 2 (-8), 3) := by decide +kernel
theorem dX8_add_45 : decode cX8_add 45 = .ok (.goto (-42), 3) := by decide +kernel
theorem dX8_add_48 : decode cX8_add 48 = .ok (.return_, 1) := by decide +kernel
theorem dX8_open_0 : decode cX8_open 0 = .ok (.aload_n 0, 1) := by decide +kernel
theorem dX8_open_1 : decode cX8_open 1 = .ok (.iload_n 1, 1) := by decide +kernel
theorem dX8_open_2 : decode cX8_open 2 = .ok (.aload_n 0, 1) := by decide +kernel
theorem dX8_open_3 : decode cX8_open 3 = .ok (.getfield 9, 3) := by decide +kernel
theorem dX8_open_6 : decode cX8_open 6 = .ok (.arraylength, 1) := by decide +kernel
theorem dX8_open_7 : decode cX8_open 7 = .ok (.invokestatic 22, 3) := by decide +kernel
theorem dX8_open_10 : decode cX8_open 10 = .ok (.putfield 28, 3) := by decide +kernel
theorem dX8_open_13 : decode cX8_open 13 = .ok (.aload_n 0, 1) := by decide +kernel
theorem dX8_open_14 : decode cX8_open 14 = .ok (.iconst 0, 1) := by decide +kernel
theorem dX8_open_15 : decode cX8_open 15 = .ok (.putfield 19, 3) := by decide +kernel
theorem dX8_open_18 : decode cX8_open 18 = .ok (.aload_n 0, 1) := by decide +kernel
theorem dX8_open_19 : decode cX8_open 19 = .ok (.iconst 0, 1) := by decide +kernel
theorem dX8_open_20 : decode cX8_open 20 = .ok (.putfield 31, 3) := by decide +kernel
theorem dX8_open_23 : decode cX8_open 23 = .ok (.aload_n 0, 1) := by decide +kernel
theorem dX8_open_24 : decode cX8_open 24 = .ok (.iconst 0, 1) := by decide +kernel
theorem dX8_open_25 : decode cX8_open 25 = .ok (.putfield 34, 3) := by decide +kernel
theorem dX8_open_28 : decode cX8_open 28 = .ok (.aload_n 0, 1) := by decide +kernel
theorem dX8_open_29 : decode cX8_open 29 = .ok (.iconst 0, 1) := by decide +kernel
theorem dX8_open_30 : decode cX8_open 30 = .ok (.putfield 37, 3) := by decide +kernel
theorem dX8_open_33 : decode cX8_open 33 = .ok (.aload_n 0, 1) := by decide +kernel
theorem dX8_open_34 : decode cX8_open 34 = .ok (.iconst (-1), 1) := by decide +kernel
theorem dX8_open_35 : decode cX8_open 35 = .ok (.putfield 15, 3) := by decide +kernel
theorem dX8_open_38 : decode cX8_open 38 = .ok (.return_, 1) := by decide +kernel
theorem dX8_faultAnswer_0 : decode cX8_faultAnswer 0 = .ok (.aload_n 0, 1) := by decide +kernel
theorem dX8_faultAnswer_1 : decode cX8_faultAnswer 1 = .ok (.getfield 37, 3) := by decide +kernel
theorem dX8_faultAnswer_4 : decode cX8_faultAnswer 4 = .ok (.bipush 10, 2) := by decide +kernel
theorem dX8_faultAnswer_6 : decode cX8_faultAnswer 6 = .ok (.isub, 1) := by decide +kernel
theorem dX8_faultAnswer_7 : decode cX8_faultAnswer 7 = .ok (.ireturn, 1) := by decide +kernel
theorem dX8_fail_0 : decode cX8_fail 0 = .ok (.aload_n 0, 1) := by decide +kernel
theorem dX8_fail_1 : decode cX8_fail 1 = .ok (.iload_n 1, 1) := by decide +kernel
theorem dX8_fail_2 : decode cX8_fail 2 = .ok (.putfield 37, 3) := by decide +kernel
theorem dX8_fail_5 : decode cX8_fail 5 = .ok (.aload_n 0, 1) := by decide +kernel
theorem dX8_fail_6 : decode cX8_fail 6 = .ok (.iload_n 2, 1) := by decide +kernel
theorem dX8_fail_7 : decode cX8_fail 7 = .ok (.putfield 15, 3) := by decide +kernel
theorem dX8_fail_10 : decode cX8_fail 10 = .ok (.iconst 0, 1) := by decide +kernel
theorem dX8_fail_11 : decode cX8_fail 11 = .ok (.ireturn, 1) := by decide +kernel
theorem dX8_atEnd_0 : decode cX8_atEnd 0 = .ok (.aload_n 0, 1) := by decide +kernel
theorem dX8_atEnd_1 : decode cX8_atEnd 1 = .ok (.invokevirtual 40, 3) := by decide +kernel
theorem dX8_atEnd_4 : decode cX8_atEnd 4 = .ok (.aload_n 0, 1) := by decide +kernel
theorem dX8_atEnd_5 : decode cX8_atEnd 5 = .ok (.getfield 31, 3) := by decide +kernel
theorem dX8_atEnd_8 : decode cX8_atEnd 8 = .ok (.aload_n 0, 1) := by decide +kernel
theorem dX8_atEnd_9 : decode cX8_atEnd 9 = .ok (.getfield 28, 3) := by decide +kernel
theorem dX8_atEnd_12 : decode cX8_atEnd 12 = .ok (.if_icmp .lt 7, 3) := by decide +kernel
theorem dX8_atEnd_15 : decode cX8_atEnd 15 = .ok (.iconst 1, 1) := by decide +kernel
theorem dX8_atEnd_16 : decode cX8_atEnd 16 = .ok (.goto 4, 3) := by decide +kernel
theorem dX8_atEnd_19 : decode cX8_atEnd 19 = .ok (.iconst 0, 1) := by decide +kernel
theorem dX8_atEnd_20 : decode cX8_atEnd 20 = .ok (.ireturn, 1) := by decide +kernel
theorem dX8_nextIs_0 : decode cX8_nextIs 0 = .ok (.aload_n 0, 1) := by decide +kernel
theorem dX8_nextIs_1 : decode cX8_nextIs 1 = .ok (.invokevirtual 40, 3) := by decide +kernel
theorem dX8_nextIs_4 : decode cX8_nextIs 4 = .ok (.aload_n 0, 1) := by decide +kernel
theorem dX8_nextIs_5 : decode cX8_nextIs 5 = .ok (.getfield 31, 3) := by decide +kernel
theorem dX8_nextIs_8 : decode cX8_nextIs 8 = .ok (.aload_n 0, 1) := by decide +kernel
theorem dX8_nextIs_9 : decode cX8_nextIs 9 = .ok (.getfield 28, 3) := by decide +kernel
theorem dX8_nextIs_12 : decode cX8_nextIs 12 = .ok (.if_icmp .ge 20, 3) := by decide +kernel
theorem dX8_nextIs_15 : decode cX8_nextIs 15 = .ok (.aload_n 0, 1) := by decide +kernel
theorem dX8_nextIs_16 : decode cX8_nextIs 16 = .ok (.getfield 9, 3) := by decide +kernel
theorem dX8_nextIs_19 : decode cX8_nextIs 19 = .ok (.aload_n 0, 1) := by decide +kernel
theorem dX8_nextIs_20 : decode cX8_nextIs 20 = .ok (.getfield 31, 3) := by decide +kernel
theorem dX8_nextIs_23 : decode cX8_nextIs 23 = .ok (.baload, 1) := by decide +kernel
theorem dX8_nextIs_24 : decode cX8_nextIs 24 = .ok (.iload_n 1, 1) := by decide +kernel
theorem dX8_nextIs_25 : decode cX8_nextIs 25 = .ok (.if_icmp .ne 7, 3) := by decide +kernel
theorem dX8_nextIs_28 : decode cX8_nextIs 28 = .ok (.iconst 1, 1) := by decide +kernel
theorem dX8_nextIs_29 : decode cX8_nextIs 29 = .ok (.goto 4, 3) := by decide +kernel
theorem dX8_nextIs_32 : decode cX8_nextIs 32 = .ok (.iconst 0, 1) := by decide +kernel
theorem dX8_nextIs_33 : decode cX8_nextIs 33 = .ok (.ireturn, 1) := by decide +kernel
theorem dX8_nextIsDigit_0 : decode cX8_nextIsDigit 0 = .ok (.aload_n 0, 1) := by decide +kernel
theorem dX8_nextIsDigit_1 : decode cX8_nextIsDigit 1 = .ok (.invokevirtual 40, 3) := by decide +kernel
theorem dX8_nextIsDigit_4 : decode cX8_nextIsDigit 4 = .ok (.aload_n 0, 1) := by decide +kernel
theorem dX8_nextIsDigit_5 : decode cX8_nextIsDigit 5 = .ok (.getfield 31, 3) := by decide +kernel
theorem dX8_nextIsDigit_8 : decode cX8_nextIsDigit 8 = .ok (.aload_n 0, 1) := by decide +kernel
theorem dX8_nextIsDigit_9 : decode cX8_nextIsDigit 9 = .ok (.getfield 28, 3) := by decide +kernel
theorem dX8_nextIsDigit_12 : decode cX8_nextIsDigit 12 = .ok (.if_icmp .ge 22, 3) := by decide +kernel
theorem dX8_nextIsDigit_15 : decode cX8_nextIsDigit 15 = .ok (.aload_n 0, 1) := by decide +kernel
theorem dX8_nextIsDigit_16 : decode cX8_nextIsDigit 16 = .ok (.getfield 9, 3) := by decide +kernel
theorem dX8_nextIsDigit_19 : decode cX8_nextIsDigit 19 = .ok (.aload_n 0, 1) := by decide +kernel
theorem dX8_nextIsDigit_20 : decode cX8_nextIsDigit 20 = .ok (.getfield 31, 3) := by decide +kernel
theorem dX8_nextIsDigit_23 : decode cX8_nextIsDigit 23 = .ok (.baload, 1) := by decide +kernel
theorem dX8_nextIsDigit_24 : decode cX8_nextIsDigit 24 = .ok (.invokestatic 43, 3) := by decide +kernel
theorem dX8_nextIsDigit_27 : decode cX8_nextIsDigit 27 = .ok (.ifCond .eq 7, 3) := by decide +kernel
theorem dX8_nextIsDigit_30 : decode cX8_nextIsDigit 30 = .ok (.iconst 1, 1) := by decide +kernel
theorem dX8_nextIsDigit_31 : decode cX8_nextIsDigit 31 = .ok (.goto 4, 3) := by decide +kernel
theorem dX8_nextIsDigit_34 : decode cX8_nextIsDigit 34 = .ok (.iconst 0, 1) := by decide +kernel
theorem dX8_nextIsDigit_35 : decode cX8_nextIsDigit 35 = .ok (.ireturn, 1) := by decide +kernel
theorem dX8_accept_0 : decode cX8_accept 0 = .ok (.aload_n 0, 1) := by decide +kernel
theorem dX8_accept_1 : decode cX8_accept 1 = .ok (.iload_n 1, 1) := by decide +kernel
theorem dX8_accept_2 : decode cX8_accept 2 = .ok (.invokevirtual 47, 3) := by decide +kernel
theorem dX8_accept_5 : decode cX8_accept 5 = .ok (.istore_n 2, 1) := by decide +kernel
theorem dX8_accept_6 : decode cX8_accept 6 = .ok (.iload_n 2, 1) := by decide +kernel
theorem dX8_accept_7 : decode cX8_accept 7 = .ok (.ifCond .eq 13, 3) := by decide +kernel
theorem dX8_accept_10 : decode cX8_accept 10 = .ok (.aload_n 0, 1) := by decide +kernel
theorem dX8_accept_11 : decode cX8_accept 11 = .ok (.dup, 1) := by decide +kernel
theorem dX8_accept_12 : decode cX8_accept 12 = .ok (.getfield 31, 3) := by decide +kernel
theorem dX8_accept_15 : decode cX8_accept 15 = .ok (.iconst 1, 1) := by decide +kernel
theorem dX8_accept_16 : decode cX8_accept 16 = .ok (.iadd, 1) := by decide +kernel
theorem dX8_accept_17 : decode cX8_accept 17 = .ok (.putfield 31, 3) := by decide +kernel
theorem dX8_accept_20 : decode cX8_accept 20 = .ok (.iload_n 2, 1) := by decide +kernel
theorem dX8_accept_21 : decode cX8_accept 21 = .ok (.ireturn, 1) := by decide +kernel
theorem dX8_need_0 : decode cX8_need 0 = .ok (.aload_n 0, 1) := by decide +kernel
theorem dX8_need_1 : decode cX8_need 1 = .ok (.invokevirtual 40, 3) := by decide +kernel
theorem dX8_need_4 : decode cX8_need 4 = .ok (.aload_n 0, 1) := by decide +kernel
theorem dX8_need_5 : decode cX8_need 5 = .ok (.getfield 31, 3) := by decide +kernel
theorem dX8_need_8 : decode cX8_need 8 = .ok (.aload_n 0, 1) := by decide +kernel
theorem dX8_need_9 : decode cX8_need 9 = .ok (.getfield 28, 3) := by decide +kernel
theorem dX8_need_12 : decode cX8_need 12 = .ok (.if_icmp .ge 16, 3) := by decide +kernel
theorem dX8_need_15 : decode cX8_need 15 = .ok (.aload_n 0, 1) := by decide +kernel
theorem dX8_need_16 : decode cX8_need 16 = .ok (.getfield 9, 3) := by decide +kernel
theorem dX8_need_19 : decode cX8_need 19 = .ok (.aload_n 0, 1) := by decide +kernel
theorem dX8_need_20 : decode cX8_need 20 = .ok (.getfield 31, 3) := by decide +kernel
theorem dX8_need_23 : decode cX8_need 23 = .ok (.baload, 1) := by decide +kernel
theorem dX8_need_24 : decode cX8_need 24 = .ok (.iload_n 1, 1) := by decide +kernel
theorem dX8_need_25 : decode cX8_need 25 = .ok (.if_icmp .eq 13, 3) := by decide +kernel
theorem dX8_need_28 : decode cX8_need 28 = .ok (.aload_n 0, 1) := by decide +kernel
theorem dX8_need_29 : decode cX8_need 29 = .ok (.iconst 1, 1) := by decide +kernel
theorem dX8_need_30 : decode cX8_need 30 = .ok (.aload_n 0, 1) := by decide +kernel
theorem dX8_need_31 : decode cX8_need 31 = .ok (.getfield 31, 3) := by decide +kernel
theorem dX8_need_34 : decode cX8_need 34 = .ok (.invokevirtual 50, 3) := by decide +kernel
theorem dX8_need_37 : decode cX8_need 37 = .ok (.ireturn, 1) := by decide +kernel
theorem dX8_need_38 : decode cX8_need 38 = .ok (.aload_n 0, 1) := by decide +kernel
theorem dX8_need_39 : decode cX8_need 39 = .ok (.dup, 1) := by decide +kernel
theorem dX8_need_40 : decode cX8_need 40 = .ok (.getfield 31, 3) := by decide +kernel
theorem dX8_need_43 : decode cX8_need 43 = .ok (.iconst 1, 1) := by decide +kernel
theorem dX8_need_44 : decode cX8_need 44 = .ok (.iadd, 1) := by decide +kernel
theorem dX8_need_45 : decode cX8_need 45 = .ok (.putfield 31, 3) := by decide +kernel
theorem dX8_need_48 : decode cX8_need 48 = .ok (.iconst 1, 1) := by decide +kernel
theorem dX8_need_49 : decode cX8_need 49 = .ok (.ireturn, 1) := by decide +kernel
theorem dX8_number_0 : decode cX8_number 0 = .ok (.aload_n 0, 1) := by decide +kernel
theorem dX8_number_1 : decode cX8_number 1 = .ok (.invokevirtual 40, 3) := by decide +kernel
theorem dX8_number_4 : decode cX8_number 4 = .ok (.aload_n 0, 1) := by decide +kernel
theorem dX8_number_5 : decode cX8_number 5 = .ok (.aload_n 0, 1) := by decide +kernel
theorem dX8_number_6 : decode cX8_number 6 = .ok (.getfield 31, 3) := by decide +kernel
theorem dX8_number_9 : decode cX8_number 9 = .ok (.putfield 34, 3) := by decide +kernel
theorem dX8_number_12 : decode cX8_number 12 = .ok (.iconst 0, 1) := by decide +kernel
theorem dX8_number_13 : decode cX8_number 13 = .ok (.istore_n 2, 1) := by decide +kernel
theorem dX8_number_14 : decode cX8_number 14 = .ok (.aload_n 0, 1) := by decide +kernel
theorem dX8_number_15 : decode cX8_number 15 = .ok (.getfield 31, 3) := by decide +kernel
theorem dX8_number_18 : decode cX8_number 18 = .ok (.aload_n 0, 1) := by decide +kernel
theorem dX8_number_19 : decode cX8_number 19 = .ok (.getfield 28, 3) := by decide +kernel
theorem dX8_number_22 : decode cX8_number 22 = .ok (.if_icmp .ge 56, 3) := by decide +kernel
theorem dX8_number_25 : decode cX8_number 25 = .ok (.aload_n 0, 1) := by decide +kernel
theorem dX8_number_26 : decode cX8_number 26 = .ok (.getfield 9, 3) := by decide +kernel
theorem dX8_number_29 : decode cX8_number 29 = .ok (.aload_n 0, 1) := by decide +kernel
theorem dX8_number_30 : decode cX8_number 30 = .ok (.getfield 31, 3) := by decide +kernel
theorem dX8_number_33 : decode cX8_number 33 = .ok (.baload, 1) := by decide +kernel
theorem dX8_number_34 : decode cX8_number 34 = .ok (.invokestatic 43, 3) := by decide +kernel
theorem dX8_number_37 : decode cX8_number 37 = .ok (.ifCond .eq 41, 3) := by decide +kernel
theorem dX8_number_40 : decode cX8_number 40 = .ok (.iload_n 2, 1) := by decide +kernel
theorem dX8_number_41 : decode cX8_number 41 = .ok (.sipush 10000, 3) := by decide +kernel
theorem dX8_number_44 : decode cX8_number 44 = .ok (.if_icmp .ge 21, 3) := by decide +kernel
theorem dX8_number_47 : decode cX8_number 47 = .ok (.iload_n 2, 1) := by decide +kernel
theorem dX8_number_48 : decode cX8_number 48 = .ok (.bipush 10, 2) := by decide +kernel
theorem dX8_number_50 : decode cX8_number 50 = .ok (.imul, 1) := by decide +kernel
theorem dX8_number_51 : decode cX8_number 51 = .ok (.aload_n 0, 1) := by decide +kernel
theorem dX8_number_52 : decode cX8_number 52 = .ok (.getfield 9, 3) := by decide +kernel
theorem dX8_number_55 : decode cX8_number 55 = .ok (.aload_n 0, 1) := by decide +kernel
theorem dX8_number_56 : decode cX8_number 56 = .ok (.getfield 31, 3) := by decide +kernel
theorem dX8_number_59 : decode cX8_number 59 = .ok (.baload, 1) := by decide +kernel
theorem dX8_number_60 : decode cX8_number 60 = .ok (.iadd, 1) := by decide +kernel
theorem dX8_number_61 : decode cX8_number 61 = .ok (.bipush 48, 2) := by decide +kernel
theorem dX8_number_63 : decode cX8_number 63 = .ok (.isub, 1) := by decide +kernel
theorem dX8_number_64 : decode cX8_number 64 = .ok (.istore_n 2, 1) := by decide +kernel
theorem dX8_number_65 : decode cX8_number 65 = .ok (.aload_n 0, 1) := by decide +kernel
theorem dX8_number_66 : decode cX8_number 66 = .ok (.dup, 1) := by decide +kernel
theorem dX8_number_67 : decode cX8_number 67 = .ok (.getfield 31, 3) := by decide +kernel
theorem dX8_number_70 : decode cX8_number 70 = .ok (.iconst 1, 1) := by decide +kernel
theorem dX8_number_71 : decode cX8_number 71 = .ok (.iadd, 1) := by decide +kernel
theorem dX8_number_72 : decode cX8_number 72 = .ok (.putfield 31, 3) := by decide +kernel
theorem dX8_number_75 : decode cX8_number 75 = .ok (.goto (-61), 3) := by decide +kernel
theorem dX8_number_78 : decode cX8_number 78 = .ok (.aload_n 0, 1) := by decide +kernel
theorem dX8_number_79 : decode cX8_number 79 = .ok (.getfield 31, 3) := by decide +kernel
theorem dX8_number_82 : decode cX8_number 82 = .ok (.aload_n 0, 1) := by decide +kernel
theorem dX8_number_83 : decode cX8_number 83 = .ok (.getfield 34, 3) := by decide +kernel
theorem dX8_number_86 : decode cX8_number 86 = .ok (.if_icmp .ne 15, 3) := by decide +kernel
theorem dX8_number_89 : decode cX8_number 89 = .ok (.aload_n 0, 1) := by decide +kernel
theorem dX8_number_90 : decode cX8_number 90 = .ok (.iconst 1, 1) := by decide +kernel
theorem dX8_number_91 : decode cX8_number 91 = .ok (.aload_n 0, 1) := by decide +kernel
theorem dX8_number_92 : decode cX8_number 92 = .ok (.getfield 34, 3) := by decide +kernel
theorem dX8_number_95 : decode cX8_number 95 = .ok (.invokevirtual 50, 3) := by decide +kernel
theorem dX8_number_98 : decode cX8_number 98 = .ok (.pop, 1) := by decide +kernel
theorem dX8_number_99 : decode cX8_number 99 = .ok (.iconst (-1), 1) := by decide +kernel
theorem dX8_number_100 : decode cX8_number 100 = .ok (.ireturn, 1) := by decide +kernel
theorem dX8_number_101 : decode cX8_number 101 = .ok (.iload_n 2, 1) := by decide +kernel
theorem dX8_number_102 : decode cX8_number 102 = .ok (.iload_n 1, 1) := by decide +kernel
theorem dX8_number_103 : decode cX8_number 103 = .ok (.if_icmp .le 15, 3) := by decide +kernel
theorem dX8_number_106 : decode cX8_number 106 = .ok (.aload_n 0, 1) := by decide +kernel
theorem dX8_number_107 : decode cX8_number 107 = .ok (.iconst 2, 1) := by decide +kernel
theorem dX8_number_108 : decode cX8_number 108 = .ok (.aload_n 0, 1) := by decide +kernel
theorem dX8_number_109 : decode cX8_number 109 = .ok (.getfield 34, 3) := by decide +kernel
theorem dX8_number_112 : decode cX8_number 112 = .ok (.invokevirtual 50, 3) := by decide +kernel
theorem dX8_number_115 : decode cX8_number 115 = .ok (.pop, 1) := by decide +kernel
theorem dX8_number_116 : decode cX8_number 116 = .ok (.iconst (-1), 1) := by decide +kernel
theorem dX8_number_117 : decode cX8_number 117 = .ok (.ireturn, 1) := by decide +kernel
theorem dX8_number_118 : decode cX8_number 118 = .ok (.iload_n 2, 1) := by decide +kernel
theorem dX8_number_119 : decode cX8_number 119 = .ok (.ireturn, 1) := by decide +kernel
theorem dX8_word_0 : decode cX8_word 0 = .ok (.aload_n 0, 1) := by decide +kernel
theorem dX8_word_1 : decode cX8_word 1 = .ok (.invokevirtual 40, 3) := by decide +kernel
theorem dX8_word_4 : decode cX8_word 4 = .ok (.aload_n 0, 1) := by decide +kernel
theorem dX8_word_5 : decode cX8_word 5 = .ok (.aload_n 0, 1) := by decide +kernel
theorem dX8_word_6 : decode cX8_word 6 = .ok (.getfield 31, 3) := by decide +kernel
theorem dX8_word_9 : decode cX8_word 9 = .ok (.putfield 34, 3) := by decide +kernel
theorem dX8_word_12 : decode cX8_word 12 = .ok (.aload_n 0, 1) := by decide +kernel
theorem dX8_word_13 : decode cX8_word 13 = .ok (.getfield 31, 3) := by decide +kernel
theorem dX8_word_16 : decode cX8_word 16 = .ok (.aload_n 0, 1) := by decide +kernel
theorem dX8_word_17 : decode cX8_word 17 = .ok (.getfield 28, 3) := by decide +kernel
theorem dX8_word_20 : decode cX8_word 20 = .ok (.if_icmp .ge 44, 3) := by decide +kernel
theorem dX8_word_23 : decode cX8_word 23 = .ok (.aload_n 0, 1) := by decide +kernel
theorem dX8_word_24 : decode cX8_word 24 = .ok (.getfield 9, 3) := by decide +kernel
theorem dX8_word_27 : decode cX8_word 27 = .ok (.aload_n 0, 1) := by decide +kernel
theorem dX8_word_28 : decode cX8_word 28 = .ok (.getfield 31, 3) := by decide +kernel
theorem dX8_word_31 : decode cX8_word 31 = .ok (.baload, 1) := by decide +kernel
theorem dX8_word_32 : decode cX8_word 32 = .ok (.bipush 97, 2) := by decide +kernel
theorem dX8_word_34 : decode cX8_word 34 = .ok (.if_icmp .lt 30, 3) := by decide +kernel
theorem dX8_word_37 : decode cX8_word 37 = .ok (.aload_n 0, 1) := by decide +kernel
theorem dX8_word_38 : decode cX8_word 38 = .ok (.getfield 9, 3) := by decide +kernel
theorem dX8_word_41 : decode cX8_word 41 = .ok (.aload_n 0, 1) := by decide +kernel
theorem dX8_word_42 : decode cX8_word 42 = .ok (.getfield 31, 3) := by decide +kernel
theorem dX8_word_45 : decode cX8_word 45 = .ok (.baload, 1) := by decide +kernel
theorem dX8_word_46 : decode cX8_word 46 = .ok (.bipush 122, 2) := by decide +kernel
theorem dX8_word_48 : decode cX8_word 48 = .ok (.if_icmp .gt 16, 3) := by decide +kernel
theorem dX8_word_51 : decode cX8_word 51 = .ok (.aload_n 0, 1) := by decide +kernel
theorem dX8_word_52 : decode cX8_word 52 = .ok (.dup, 1) := by decide +kernel
theorem dX8_word_53 : decode cX8_word 53 = .ok (.getfield 31, 3) := by decide +kernel
theorem dX8_word_56 : decode cX8_word 56 = .ok (.iconst 1, 1) := by decide +kernel
theorem dX8_word_57 : decode cX8_word 57 = .ok (.iadd, 1) := by decide +kernel
theorem dX8_word_58 : decode cX8_word 58 = .ok (.putfield 31, 3) := by decide +kernel
theorem dX8_word_61 : decode cX8_word 61 = .ok (.goto (-49), 3) := by decide +kernel
theorem dX8_word_64 : decode cX8_word 64 = .ok (.iconst 0, 1) := by decide +kernel
theorem dX8_word_65 : decode cX8_word 65 = .ok (.istore_n 2, 1) := by decide +kernel
theorem dX8_word_66 : decode cX8_word 66 = .ok (.iconst 0, 1) := by decide +kernel
theorem dX8_word_67 : decode cX8_word 67 = .ok (.istore_n 3, 1) := by decide +kernel
theorem dX8_word_68 : decode cX8_word 68 = .ok (.iconst 0, 1) := by decide +kernel
theorem dX8_word_69 : decode cX8_word 69 = .ok (.istore 4, 2) := by decide +kernel
theorem dX8_word_71 : decode cX8_word 71 = .ok (.iload 4, 2) := by decide +kernel
theorem dX8_word_73 : decode cX8_word 73 = .ok (.aload_n 1, 1) := by decide +kernel
theorem dX8_word_74 : decode cX8_word 74 = .ok (.invokevirtual 54, 3) := by decide +kernel
theorem dX8_word_77 : decode cX8_word 77 = .ok (.if_icmp .gt 50, 3) := by decide +kernel
theorem dX8_word_80 : decode cX8_word 80 = .ok (.iload 4, 2) := by decide +kernel
theorem dX8_word_82 : decode cX8_word 82 = .ok (.aload_n 1, 1) := by decide +kernel
theorem dX8_word_83 : decode cX8_word 83 = .ok (.invokevirtual 54, 3) := by decide +kernel
theorem dX8_word_86 : decode cX8_word 86 = .ok (.if_icmp .eq 14, 3) := by decide +kernel
theorem dX8_word_89 : decode cX8_word 89 = .ok (.aload_n 1, 1) := by decide +kernel
theorem dX8_word_90 : decode cX8_word 90 = .ok (.iload 4, 2) := by decide +kernel
theorem dX8_word_92 : decode cX8_word 92 = .ok (.invokevirtual 59, 3) := by decide +kernel
theorem dX8_word_95 : decode cX8_word 95 = .ok (.bipush 32, 2) := by decide +kernel
theorem dX8_word_97 : decode cX8_word 97 = .ok (.if_icmp .ne 24, 3) := by decide +kernel
theorem dX8_word_100 : decode cX8_word 100 = .ok (.aload_n 0, 1) := by decide +kernel
theorem dX8_word_101 : decode cX8_word 101 = .ok (.aload_n 1, 1) := by decide +kernel
theorem dX8_word_102 : decode cX8_word 102 = .ok (.iload_n 3, 1) := by decide +kernel
theorem dX8_word_103 : decode cX8_word 103 = .ok (.iload 4, 2) := by decide +kernel
theorem dX8_word_105 : decode cX8_word 105 = .ok (.invokevirtual 63, 3) := by decide +kernel
theorem dX8_word_108 : decode cX8_word 108 = .ok (.ifCond .eq 5, 3) := by decide +kernel
theorem dX8_word_111 : decode cX8_word 111 = .ok (.iload_n 2, 1) := by decide +kernel
theorem dX8_word_112 : decode cX8_word 112 = .ok (.ireturn, 1) := by decide +kernel
theorem dX8_word_113 : decode cX8_word 113 = .ok (.iinc 2 1, 3) := by decide +kernel
theorem dX8_word_116 : decode cX8_word 116 = .ok (.iload 4, 2) := by decide +kernel
theorem dX8_word_118 : decode cX8_word 118 = .ok (.iconst 1, 1) := by decide +kernel
theorem dX8_word_119 : decode cX8_word 119 = .ok (.iadd, 1) := by decide +kernel
theorem dX8_word_120 : decode cX8_word 120 = .ok (.istore_n 3, 1) := by decide +kernel
theorem dX8_word_121 : decode cX8_word 121 = .ok (.iinc 4 1, 3) := by decide +kernel
theorem dX8_word_124 : decode cX8_word 124 = .ok (.goto (-53), 3) := by decide +kernel
theorem dX8_word_127 : decode cX8_word 127 = .ok (.aload_n 0, 1) := by decide +kernel
theorem dX8_word_128 : decode cX8_word 128 = .ok (.iconst 1, 1) := by decide +kernel
theorem dX8_word_129 : decode cX8_word 129 = .ok (.aload_n 0, 1) := by decide +kernel
theorem dX8_word_130 : decode cX8_word 130 = .ok (.getfield 34, 3) := by decide +kernel
theorem dX8_word_133 : decode cX8_word 133 = .ok (.invokevirtual 50, 3) := by decide +kernel
theorem dX8_word_136 : decode cX8_word 136 = .ok (.pop, 1) := by decide +kernel
theorem dX8_word_137 : decode cX8_word 137 = .ok (.iconst (-1), 1) := by decide +kernel
theorem dX8_word_138 : decode cX8_word 138 = .ok (.ireturn, 1) := by decide +kernel
theorem dX8_isSame_0 : decode cX8_isSame 0 = .ok (.iload_n 3, 1) := by decide +kernel
theorem dX8_isSame_1 : decode cX8_isSame 1 = .ok (.iload_n 2, 1) := by decide +kernel
theorem dX8_isSame_2 : decode cX8_isSame 2 = .ok (.isub, 1) := by decide +kernel
theorem dX8_isSame_3 : decode cX8_isSame 3 = .ok (.aload_n 0, 1) := by decide +kernel
theorem dX8_isSame_4 : decode cX8_isSame 4 = .ok (.getfield 31, 3) := by decide +kernel
theorem dX8_isSame_7 : decode cX8_isSame 7 = .ok (.aload_n 0, 1) := by decide +kernel
theorem dX8_isSame_8 : decode cX8_isSame 8 = .ok (.getfield 34, 3) := by decide +kernel
theorem dX8_isSame_11 : decode cX8_isSame 11 = .ok (.isub, 1) := by decide +kernel
theorem dX8_isSame_12 : decode cX8_isSame 12 = .ok (.if_icmp .eq 5, 3) := by decide +kernel
theorem dX8_isSame_15 : decode cX8_isSame 15 = .ok (.iconst 0, 1) := by decide +kernel
theorem dX8_isSame_16 : decode cX8_isSame 16 = .ok (.ireturn, 1) := by decide +kernel
theorem dX8_isSame_17 : decode cX8_isSame 17 = .ok (.iload_n 2, 1) := by decide +kernel
theorem dX8_isSame_18 : decode cX8_isSame 18 = .ok (.istore 4, 2) := by decide +kernel
theorem dX8_isSame_20 : decode cX8_isSame 20 = .ok (.iload 4, 2) := by decide +kernel
theorem dX8_isSame_22 : decode cX8_isSame 22 = .ok (.iload_n 3, 1) := by decide +kernel
theorem dX8_isSame_23 : decode cX8_isSame 23 = .ok (.if_icmp .ge 34, 3) := by decide +kernel
theorem dX8_isSame_26 : decode cX8_isSame 26 = .ok (.aload_n 1, 1) := by decide +kernel
theorem dX8_isSame_27 : decode cX8_isSame 27 = .ok (.iload 4, 2) := by decide +kernel
theorem dX8_isSame_29 : decode cX8_isSame 29 = .ok (.invokevirtual 59, 3) := by decide +kernel
theorem dX8_isSame_32 : decode cX8_isSame 32 = .ok (.aload_n 0, 1) := by decide +kernel
theorem dX8_isSame_33 : decode cX8_isSame 33 = .ok (.getfield 9, 3) := by decide +kernel
theorem dX8_isSame_36 : decode cX8_isSame 36 = .ok (.aload_n 0, 1) := by decide +kernel
theorem dX8_isSame_37 : decode cX8_isSame 37 = .ok (.getfield 34, 3) := by decide +kernel
theorem dX8_isSame_40 : decode cX8_isSame 40 = .ok (.iload 4, 2) := by decide +kernel
theorem dX8_isSame_42 : decode cX8_isSame 42 = .ok (.iadd, 1) := by decide +kernel
theorem dX8_isSame_43 : decode cX8_isSame 43 = .ok (.iload_n 2, 1) := by decide +kernel
theorem dX8_isSame_44 : decode cX8_isSame 44 = .ok (.isub, 1) := by decide +kernel
theorem dX8_isSame_45 : decode cX8_isSame 45 = .ok (.baload, 1) := by decide +kernel
theorem dX8_isSame_46 : decode cX8_isSame 46 = .ok (.if_icmp .eq 5, 3) := by decide +kernel
theorem dX8_isSame_49 : decode cX8_isSame 49 = .ok (.iconst 0, 1) := by decide +kernel
theorem dX8_isSame_50 : decode cX8_isSame 50 = .ok (.ireturn, 1) := by decide +kernel
theorem dX8_isSame_51 : decode cX8_isSame 51 = .ok (.iinc 4 1, 3) := by decide +kernel
theorem dX8_isSame_54 : decode cX8_isSame 54 = .ok (.goto (-34), 3) := by decide +kernel
theorem dX8_isSame_57 : decode cX8_isSame 57 = .ok (.iconst 1, 1) := by decide +kernel
theorem dX8_isSame_58 : decode cX8_isSame 58 = .ok (.ireturn, 1) := by decide +kernel
theorem dX8_skipBlanks_0 : decode cX8_skipBlanks 0 = .ok (.aload_n 0, 1) := by decide +kernel
theorem dX8_skipBlanks_1 : decode cX8_skipBlanks 1 = .ok (.getfield 31, 3) := by decide +kernel
theorem dX8_skipBlanks_4 : decode cX8_skipBlanks 4 = .ok (.aload_n 0, 1) := by decide +kernel
theorem dX8_skipBlanks_5 : decode cX8_skipBlanks 5 = .ok (.getfield 28, 3) := by decide +kernel
theorem dX8_skipBlanks_8 : decode cX8_skipBlanks 8 = .ok (.if_icmp .ge 30, 3) := by decide +kernel
theorem dX8_skipBlanks_11 : decode cX8_skipBlanks 11 = .ok (.aload_n 0, 1) := by decide +kernel
theorem dX8_skipBlanks_12 : decode cX8_skipBlanks 12 = .ok (.getfield 9, 3) := by decide +kernel
theorem dX8_skipBlanks_15 : decode cX8_skipBlanks 15 = .ok (.aload_n 0, 1) := by decide +kernel
theorem dX8_skipBlanks_16 : decode cX8_skipBlanks 16 = .ok (.getfield 31, 3) := by decide +kernel
theorem dX8_skipBlanks_19 : decode cX8_skipBlanks 19 = .ok (.baload, 1) := by decide +kernel
theorem dX8_skipBlanks_20 : decode cX8_skipBlanks 20 = .ok (.bipush 32, 2) := by decide +kernel
theorem dX8_skipBlanks_22 : decode cX8_skipBlanks 22 = .ok (.if_icmp .ne 16, 3) := by decide +kernel
theorem dX8_skipBlanks_25 : decode cX8_skipBlanks 25 = .ok (.aload_n 0, 1) := by decide +kernel
theorem dX8_skipBlanks_26 : decode cX8_skipBlanks 26 = .ok (.dup, 1) := by decide +kernel
theorem dX8_skipBlanks_27 : decode cX8_skipBlanks 27 = .ok (.getfield 31, 3) := by decide +kernel
theorem dX8_skipBlanks_30 : decode cX8_skipBlanks 30 = .ok (.iconst 1, 1) := by decide +kernel
theorem dX8_skipBlanks_31 : decode cX8_skipBlanks 31 = .ok (.iadd, 1) := by decide +kernel
theorem dX8_skipBlanks_32 : decode cX8_skipBlanks 32 = .ok (.putfield 31, 3) := by decide +kernel
theorem dX8_skipBlanks_35 : decode cX8_skipBlanks 35 = .ok (.goto (-35), 3) := by decide +kernel
theorem dX8_skipBlanks_38 : decode cX8_skipBlanks 38 = .ok (.return_, 1) := by decide +kernel
theorem dX8_isDigit_0 : decode cX8_isDigit 0 = .ok (.iload_n 0, 1) := by decide +kernel
theorem dX8_isDigit_1 : decode cX8_isDigit 1 = .ok (.bipush 48, 2) := by decide +kernel
theorem dX8_isDigit_3 : decode cX8_isDigit 3 = .ok (.if_icmp .lt 13, 3) := by decide +kernel
theorem dX8_isDigit_6 : decode cX8_isDigit 6 = .ok (.iload_n 0, 1) := by decide +kernel
theorem dX8_isDigit_7 : decode cX8_isDigit 7 = .ok (.bipush 57, 2) := by decide +kernel
theorem dX8_isDigit_9 : decode cX8_isDigit 9 = .ok (.if_icmp .gt 7, 3) := by decide +kernel
theorem dX8_isDigit_12 : decode cX8_isDigit 12 = .ok (.iconst 1, 1) := by decide +kernel
theorem dX8_isDigit_13 : decode cX8_isDigit 13 = .ok (.goto 4, 3) := by decide +kernel
theorem dX8_isDigit_16 : decode cX8_isDigit 16 = .ok (.iconst 0, 1) := by decide +kernel
theorem dX8_isDigit_17 : decode cX8_isDigit 17 = .ok (.ireturn, 1) := by decide +kernel
theorem dX9_init_0 : decode cX9_init 0 = .ok (.aload_n 0, 1) := by decide +kernel
theorem dX9_init_1 : decode cX9_init 1 = .ok (.invokespecial 3, 3) := by decide +kernel
theorem dX9_init_4 : decode cX9_init 4 = .ok (.aload_n 0, 1) := by decide +kernel
theorem dX9_init_5 : decode cX9_init 5 = .ok (.bipush 30, 2) := by decide +kernel
theorem dX9_init_7 : decode cX9_init 7 = .ok (.newarray .int, 2) := by decide +kernel
theorem dX9_init_9 : decode cX9_init 9 = .ok (.putfield 11, 3) := by decide +kernel
theorem dX9_init_12 : decode cX9_init 12 = .ok (.aload_n 0, 1) := by decide +kernel
theorem dX9_init_13 : decode cX9_init 13 = .ok (.bipush 30, 2) := by decide +kernel
theorem dX9_init_15 : decode cX9_init 15 = .ok (.newarray .int, 2) := by decide +kernel
theorem dX9_init_17 : decode cX9_init 17 = .ok (.putfield 15, 3) := by decide +kernel
theorem dX9_init_20 : decode cX9_init 20 = .ok (.aload_n 0, 1) := by decide +kernel
theorem dX9_init_21 : decode cX9_init 21 = .ok (.bipush 30, 2) := by decide +kernel
theorem dX9_init_23 : decode cX9_init 23 = .ok (.newarray .int, 2) := by decide +kernel
theorem dX9_init_25 : decode cX9_init 25 = .ok (.putfield 18, 3) := by decide +kernel
theorem dX9_init_28 : decode cX9_init 28 = .ok (.aload_n 0, 1) := by decide +kernel
theorem dX9_init_29 : decode cX9_init 29 = .ok (.bipush 30, 2) := by decide +kernel
theorem dX9_init_31 : decode cX9_init 31 = .ok (.newarray .int, 2) := by decide +kernel
theorem dX9_init_33 : decode cX9_init 33 = .ok (.putfield 21, 3) := by decide +kernel
theorem dX9_init_36 : decode cX9_init 36 = .ok (.return_, 1) := by decide +kernel
theorem dX9_read_0 : decode cX9_read 0 = .ok (.aload_n 0, 1) := by decide +kernel
theorem dX9_read_1 : decode cX9_read 1 = .ok (.iconst 0, 1) := by decide +kernel
theorem dX9_read_2 : decode cX9_read 2 = .ok (.putfield 24, 3) := by decide +kernel
theorem dX9_read_5 : decode cX9_read 5 = .ok (.aload_n 0, 1) := by decide +kernel
theorem dX9_read_6 : decode cX9_read 6 = .ok (.iconst 0, 1) := by decide +kernel
theorem dX9_read_7 : decode cX9_read 7 = .ok (.putfield 28, 3) := by decide +kernel
theorem dX9_read_10 : decode cX9_read 10 = .ok (.aload_n 0, 1) := by decide +kernel
theorem dX9_read_11 : decode cX9_read 11 = .ok (.iconst 0, 1) := by decide +kernel
theorem dX9_read_12 : decode cX9_read 12 = .ok (.putfield 31, 3) := by decide +kernel
theorem dX9_read_15 : decode cX9_read 15 = .ok (.aload_n 0, 1) := by decide +kernel
theorem dX9_read_16 : decode cX9_read 16 = .ok (.iconst 0, 1) := by decide +kernel
theorem dX9_read_17 : decode cX9_read 17 = .ok (.putfield 34, 3) := by decide +kernel
theorem dX9_read_20 : decode cX9_read 20 = .ok (.aload_n 0, 1) := by decide +kernel
theorem dX9_read_21 : decode cX9_read 21 = .ok (.aload_n 1, 1) := by decide +kernel
theorem dX9_read_22 : decode cX9_read 22 = .ok (.iload_n 2, 1) := by decide +kernel
theorem dX9_read_23 : decode cX9_read 23 = .ok (.iconst 0, 1) := by decide +kernel
theorem dX9_read_24 : decode cX9_read 24 = .ok (.invokevirtual 37, 3) := by decide +kernel
theorem dX9_read_27 : decode cX9_read 27 = .ok (.ireturn, 1) := by decide +kernel
theorem dX9_readSteps_0 : decode cX9_readSteps 0 = .ok (.iconst 0, 1) := by decide +kernel
theorem dX9_readSteps_1 : decode cX9_readSteps 1 = .ok (.istore 4, 2) := by decide +kernel
theorem dX9_readSteps_3 : decode cX9_readSteps 3 = .ok (.iload 4, 2) := by decide +kernel
theorem dX9_readSteps_5 : decode cX9_readSteps 5 = .ok (.bipush 30, 2) := by decide +kernel
theorem dX9_readSteps_7 : decode cX9_readSteps 7 = .ok (.if_icmp .gt 46, 3) := by decide +kernel
theorem dX9_readSteps_10 : decode cX9_readSteps 10 = .ok (.iload_n 3, 1) := by decide +kernel
theorem dX9_readSteps_11 : decode cX9_readSteps 11 = .ok (.ifCond .le 15, 3) := by decide +kernel
theorem dX9_readSteps_14 : decode cX9_readSteps 14 = .ok (.aload_n 1, 1) := by decide +kernel
theorem dX9_readSteps_15 : decode cX9_readSteps 15 = .ok (.bipush 93, 2) := by decide +kernel
theorem dX9_readSteps_17 : decode cX9_readSteps 17 = .ok (.invokevirtual 41, 3) := by decide +kernel
theorem dX9_readSteps_20 : decode cX9_readSteps 20 = .ok (.ifCond .eq 15, 3) := by decide +kernel
theorem dX9_readSteps_23 : decode cX9_readSteps 23 = .ok (.goto 10, 3) := by decide +kernel
theorem dX9_readSteps_26 : decode cX9_readSteps 26 = .ok (.aload_n 1, 1) := by decide +kernel
theorem dX9_readSteps_27 : decode cX9_readSteps 27 = .ok (.invokevirtual 47, 3) := by decide +kernel
theorem dX9_readSteps_30 : decode cX9_readSteps 30 = .ok (.ifCond .eq 5, 3) := by decide +kernel
theorem dX9_readSteps_33 : decode cX9_readSteps 33 = .ok (.iconst 1, 1) := by decide +kernel
theorem dX9_readSteps_34 : decode cX9_readSteps 34 = .ok (.ireturn, 1) := by decide +kernel
theorem dX9_readSteps_35 : decode cX9_readSteps 35 = .ok (.aload_n 0, 1) := by decide +kernel
theorem dX9_readSteps_36 : decode cX9_readSteps 36 = .ok (.aload_n 1, 1) := by decide +kernel
theorem dX9_readSteps_37 : decode cX9_readSteps 37 = .ok (.iload_n 2, 1) := by decide +kernel
theorem dX9_readSteps_38 : decode cX9_readSteps 38 = .ok (.iload_n 3, 1) := by decide +kernel
theorem dX9_readSteps_39 : decode cX9_readSteps 39 = .ok (.invokevirtual 51, 3) := by decide +kernel
theorem dX9_readSteps_42 : decode cX9_readSteps 42 = .ok (.ifCond .ne 5, 3) := by decide +kernel
theorem dX9_readSteps_45 : decode cX9_readSteps 45 = .ok (.iconst 0, 1) := by decide +kernel
theorem dX9_readSteps_46 : decode cX9_readSteps 46 = .ok (.ireturn, 1) := by decide +kernel
theorem dX9_readSteps_47 : decode cX9_readSteps 47 = .ok (.iinc 4 1, 3) := by decide +kernel
theorem dX9_readSteps_50 : decode cX9_readSteps 50 = .ok (.goto (-47), 3) := by decide +kernel
theorem dX9_readSteps_53 : decode cX9_readSteps 53 = .ok (.aload_n 1, 1) := by decide +kernel
theorem dX9_readSteps_54 : decode cX9_readSteps 54 = .ok (.iconst 1, 1) := by decide +kernel
theorem dX9_readSteps_55 : decode cX9_readSteps 55 = .ok (.aload_n 1, 1) := by decide +kernel
theorem dX9_readSteps_56 : decode cX9_readSteps 56 = .ok (.getfield 54, 3) := by decide +kernel
theorem dX9_readSteps_59 : decode cX9_readSteps 59 = .ok (.invokevirtual 57, 3) := by decide +kernel
theorem dX9_readSteps_62 : decode cX9_readSteps 62 = .ok (.ireturn, 1) := by decide +kernel
theorem dX9_readStep_0 : decode cX9_readStep 0 = .ok (.aload_n 1, 1) := by decide +kernel
theorem dX9_readStep_1 : decode cX9_readStep 1 = .ok (.ldc 61, 2) := by decide +kernel
theorem dX9_readStep_3 : decode cX9_readStep 3 = .ok (.invokevirtual 63, 3) := by decide +kernel
theorem dX9_readStep_6 : decode cX9_readStep 6 = .ok (.istore 4, 2) := by decide +kernel
theorem dX9_readStep_8 : decode cX9_readStep 8 = .ok (.iload 4, 2) := by decide +kernel
theorem dX9_readStep_10 : decode cX9_readStep 10 = .ok (.iconst (-1), 1) := by decide +kernel
theorem dX9_readStep_11 : decode cX9_readStep 11 = .ok (.if_icmp .ne 5, 3) := by decide +kernel
theorem dX9_readStep_14 : decode cX9_readStep 14 = .ok (.iconst 0, 1) := by decide +kernel
theorem dX9_readStep_15 : decode cX9_readStep 15 = .ok (.ireturn, 1) := by decide +kernel
theorem dX9_readStep_16 : decode cX9_readStep 16 = .ok (.iload 4, 2) := by decide +kernel
theorem dX9_readStep_18 : decode cX9_readStep 18 = .ok (.iconst 4, 1) := by decide +kernel
theorem dX9_readStep_19 : decode cX9_readStep 19 = .ok (.if_icmp .ne 19, 3) := by decide +kernel
theorem dX9_readStep_22 : decode cX9_readStep 22 = .ok (.iload_n 3, 1) := by decide +kernel
theorem dX9_readStep_23 : decode cX9_readStep 23 = .ok (.bipush 6, 2) := by decide +kernel
theorem dX9_readStep_25 : decode cX9_readStep 25 = .ok (.if_icmp .lt 13, 3) := by decide +kernel
theorem dX9_readStep_28 : decode cX9_readStep 28 = .ok (.aload_n 1, 1) := by decide +kernel
theorem dX9_readStep_29 : decode cX9_readStep 29 = .ok (.iconst 3, 1) := by decide +kernel
theorem dX9_readStep_30 : decode cX9_readStep 30 = .ok (.aload_n 1, 1) := by decide +kernel
theorem dX9_readStep_31 : decode cX9_readStep 31 = .ok (.getfield 67, 3) := by decide +kernel
theorem dX9_readStep_34 : decode cX9_readStep 34 = .ok (.invokevirtual 57, 3) := by decide +kernel
theorem dX9_readStep_37 : decode cX9_readStep 37 = .ok (.ireturn, 1) := by decide +kernel
theorem dX9_readStep_38 : decode cX9_readStep 38 = .ok (.aload_n 0, 1) := by decide +kernel
theorem dX9_readStep_39 : decode cX9_readStep 39 = .ok (.getfield 24, 3) := by decide +kernel
theorem dX9_readStep_42 : decode cX9_readStep 42 = .ok (.bipush 30, 2) := by decide +kernel
theorem dX9_readStep_44 : decode cX9_readStep 44 = .ok (.if_icmp .lt 13, 3) := by decide +kernel
theorem dX9_readStep_47 : decode cX9_readStep 47 = .ok (.aload_n 1, 1) := by decide +kernel
theorem dX9_readStep_48 : decode cX9_readStep 48 = .ok (.iconst 1, 1) := by decide +kernel
theorem dX9_readStep_49 : decode cX9_readStep 49 = .ok (.aload_n 1, 1) := by decide +kernel
theorem dX9_readStep_50 : decode cX9_readStep 50 = .ok (.getfield 70, 3) := by decide +kernel
theorem dX9_readStep_53 : decode cX9_readStep 53 = .ok (.invokevirtual 57, 3) := by decide +kernel
theorem dX9_readStep_56 : decode cX9_readStep 56 = .ok (.ireturn, 1) := by decide +kernel
theorem dX9_readStep_57 : decode cX9_readStep 57 = .ok (.aload_n 0, 1) := by decide +kernel
theorem dX9_readStep_58 : decode cX9_readStep 58 = .ok (.getfield 24, 3) := by decide +kernel
theorem dX9_readStep_61 : decode cX9_readStep 61 = .ok (.istore 5, 2) := by decide +kernel
theorem dX9_readStep_63 : decode cX9_readStep 63 = .ok (.aload_n 0, 1) := by decide +kernel
theorem dX9_readStep_64 : decode cX9_readStep 64 = .ok (.getfield 11, 3) := by decide +kernel
theorem dX9_readStep_67 : decode cX9_readStep 67 = .ok (.iload 5, 2) := by decide +kernel
theorem dX9_readStep_69 : decode cX9_readStep 69 = .ok (.iload 4, 2) := by decide +kernel
theorem dX9_readStep_71 : decode cX9_readStep 71 = .ok (.iastore, 1) := by decide +kernel
theorem dX9_readStep_72 : decode cX9_readStep 72 = .ok (.aload_n 0, 1) := by decide +kernel
theorem dX9_readStep_73 : decode cX9_readStep 73 = .ok (.dup, 1) := by decide +kernel
theorem dX9_readStep_74 : decode cX9_readStep 74 = .ok (.getfield 24, 3) := by decide +kernel
theorem dX9_readStep_77 : decode cX9_readStep 77 = .ok (.iconst 1, 1) := by decide +kernel
theorem dX9_readStep_78 : decode cX9_readStep 78 = .ok (.iadd, 1) := by decide +kernel
theorem dX9_readStep_79 : decode cX9_readStep 79 = .ok (.putfield 24, 3) := by decide +kernel
theorem dX9_readStep_82 : decode cX9_readStep 82 = .ok (.iload 4, 2) := by decide +kernel
theorem dX9_readStep_84 : decode cX9_readStep 84 = .ok (.iconst 4, 1) := by decide +kernel
theorem dX9_readStep_85 : decode cX9_readStep 85 = .ok (.if_icmp .ne 15, 3) := by decide +kernel
theorem dX9_readStep_88 : decode cX9_readStep 88 = .ok (.aload_n 0, 1) := by decide +kernel
theorem dX9_readStep_89 : decode cX9_readStep 89 = .ok (.aload_n 1, 1) := by decide +kernel
theorem dX9_readStep_90 : decode cX9_readStep 90 = .ok (.iload_n 2, 1) := by decide +kernel
theorem dX9_readStep_91 : decode cX9_readStep 91 = .ok (.iload_n 3, 1) := by decide +kernel
theorem dX9_readStep_92 : decode cX9_readStep 92 = .ok (.iload 5, 2) := by decide +kernel
theorem dX9_readStep_94 : decode cX9_readStep 94 = .ok (.invokevirtual 71, 3) := by decide +kernel
theorem dX9_readStep_97 : decode cX9_readStep 97 = .ok (.goto 11, 3) := by decide +kernel
theorem dX9_readStep_100 : decode cX9_readStep 100 = .ok (.aload_n 0, 1) := by decide +kernel
theorem dX9_readStep_101 : decode cX9_readStep 101 = .ok (.aload_n 1, 1) := by decide +kernel
theorem dX9_readStep_102 : decode cX9_readStep 102 = .ok (.iload_n 2, 1) := by decide +kernel
theorem dX9_readStep_103 : decode cX9_readStep 103 = .ok (.iload 5, 2) := by decide +kernel
theorem dX9_readStep_105 : decode cX9_readStep 105 = .ok (.invokevirtual 75, 3) := by decide +kernel
theorem dX9_readStep_108 : decode cX9_readStep 108 = .ok (.istore 6, 2) := by decide +kernel
theorem dX9_readStep_110 : decode cX9_readStep 110 = .ok (.iload 6, 2) := by decide +kernel
theorem dX9_readStep_112 : decode cX9_readStep 112 = .ok (.ifCond .eq 16, 3) := by decide +kernel
theorem dX9_readStep_115 : decode cX9_readStep 115 = .ok (.aload_n 1, 1) := by decide +kernel
theorem dX9_readStep_116 : decode cX9_readStep 116 = .ok (.bipush 59, 2) := by decide +kernel
theorem dX9_readStep_118 : decode cX9_readStep 118 = .ok (.invokevirtual 78, 3) := by decide +kernel
theorem dX9_readStep_121 : decode cX9_readStep 121 = .ok (.ifCond .eq 7, 3) := by decide +kernel
theorem dX9_readStep_124 : decode cX9_readStep 124 = .ok (.iconst 1, 1) := by decide +kernel
theorem dX9_readStep_125 : decode cX9_readStep 125 = .ok (.goto 4, 3) := by decide +kernel
theorem dX9_readStep_128 : decode cX9_readStep 128 = .ok (.iconst 0, 1) := by decide +kernel
theorem dX9_readStep_129 : decode cX9_readStep 129 = .ok (.ireturn, 1) := by decide +kernel
theorem dX9_readNumbers_0 : decode cX9_readNumbers 0 = .ok (.aload_n 0, 1) := by decide +kernel
theorem dX9_readNumbers_1 : decode cX9_readNumbers 1 = .ok (.getfield 11, 3) := by decide +kernel
theorem dX9_readNumbers_4 : decode cX9_readNumbers 4 = .ok (.iload_n 3, 1) := by decide +kernel
theorem dX9_readNumbers_5 : decode cX9_readNumbers 5 = .ok (.iaload, 1) := by decide +kernel
theorem dX9_readNumbers_6 : decode cX9_readNumbers 6 = .ok (.tableswitch 189 0 2 #[26, 107, 162], 26) := by decide +kernel
theorem dX9_readNumbers_32 : decode cX9_readNumbers 32 = .ok (.aload_n 0, 1) := by decide +kernel
theorem dX9_readNumbers_33 : decode cX9_readNumbers 33 = .ok (.getfield 15, 3) := by decide +kernel
theorem dX9_readNumbers_36 : decode cX9_readNumbers 36 = .ok (.iload_n 3, 1) := by decide +kernel
theorem dX9_readNumbers_37 : decode cX9_readNumbers 37 = .ok (.aload_n 1, 1) := by decide +kernel
theorem dX9_readNumbers_38 : decode cX9_readNumbers 38 = .ok (.iload_n 2, 1) := by decide +kernel
theorem dX9_readNumbers_39 : decode cX9_readNumbers 39 = .ok (.iconst 1, 1) := by decide +kernel
theorem dX9_readNumbers_40 : decode cX9_readNumbers 40 = .ok (.isub, 1) := by decide +kernel
theorem dX9_readNumbers_41 : decode cX9_readNumbers 41 = .ok (.invokevirtual 81, 3) := by decide +kernel
theorem dX9_readNumbers_44 : decode cX9_readNumbers 44 = .ok (.iastore, 1) := by decide +kernel
theorem dX9_readNumbers_45 : decode cX9_readNumbers 45 = .ok (.aload_n 0, 1) := by decide +kernel
theorem dX9_readNumbers_46 : decode cX9_readNumbers 46 = .ok (.getfield 18, 3) := by decide +kernel
theorem dX9_readNumbers_49 : decode cX9_readNumbers 49 = .ok (.iload_n 3, 1) := by decide +kernel
theorem dX9_readNumbers_50 : decode cX9_readNumbers 50 = .ok (.aload_n 0, 1) := by decide +kernel
theorem dX9_readNumbers_51 : decode cX9_readNumbers 51 = .ok (.getfield 15, 3) := by decide +kernel
theorem dX9_readNumbers_54 : decode cX9_readNumbers 54 = .ok (.iload_n 3, 1) := by decide +kernel
theorem dX9_readNumbers_55 : decode cX9_readNumbers 55 = .ok (.iaload, 1) := by decide +kernel
theorem dX9_readNumbers_56 : decode cX9_readNumbers 56 = .ok (.iconst (-1), 1) := by decide +kernel
theorem dX9_readNumbers_57 : decode cX9_readNumbers 57 = .ok (.if_icmp .ne 7, 3) := by decide +kernel
theorem dX9_readNumbers_60 : decode cX9_readNumbers 60 = .ok (.iconst (-1), 1) := by decide +kernel
theorem dX9_readNumbers_61 : decode cX9_readNumbers 61 = .ok (.goto 10, 3) := by decide +kernel
theorem dX9_readNumbers_64 : decode cX9_readNumbers 64 = .ok (.aload_n 1, 1) := by decide +kernel
theorem dX9_readNumbers_65 : decode cX9_readNumbers 65 = .ok (.iload_n 2, 1) := by decide +kernel
theorem dX9_readNumbers_66 : decode cX9_readNumbers 66 = .ok (.iconst 1, 1) := by decide +kernel
theorem dX9_readNumbers_67 : decode cX9_readNumbers 67 = .ok (.isub, 1) := by decide +kernel
theorem dX9_readNumbers_68 : decode cX9_readNumbers 68 = .ok (.invokevirtual 81, 3) := by decide +kernel
theorem dX9_readNumbers_71 : decode cX9_readNumbers 71 = .ok (.iastore, 1) := by decide +kernel
theorem dX9_readNumbers_72 : decode cX9_readNumbers 72 = .ok (.aload_n 0, 1) := by decide +kernel
theorem dX9_readNumbers_73 : decode cX9_readNumbers 73 = .ok (.getfield 21, 3) := by decide +kernel
theorem dX9_readNumbers_76 : decode cX9_readNumbers 76 = .ok (.iload_n 3, 1) := by decide +kernel
theorem dX9_readNumbers_77 : decode cX9_readNumbers 77 = .ok (.aload_n 0, 1) := by decide +kernel
theorem dX9_readNumbers_78 : decode cX9_readNumbers 78 = .ok (.getfield 18, 3) := by decide +kernel
theorem dX9_readNumbers_81 : decode cX9_readNumbers 81 = .ok (.iload_n 3, 1) := by decide +kernel
theorem dX9_readNumbers_82 : decode cX9_readNumbers 82 = .ok (.iaload, 1) := by decide +kernel
theorem dX9_readNumbers_83 : decode cX9_readNumbers 83 = .ok (.iconst (-1), 1) := by decide +kernel
theorem dX9_readNumbers_84 : decode cX9_readNumbers 84 = .ok (.if_icmp .ne 7, 3) := by decide +kernel
theorem dX9_readNumbers_87 : decode cX9_readNumbers 87 = .ok (.iconst (-1), 1) := by decide +kernel
theorem dX9_readNumbers_88 : decode cX9_readNumbers 88 = .ok (.goto 8, 3) := by decide +kernel
theorem dX9_readNumbers_91 : decode cX9_readNumbers 91 = .ok (.aload_n 1, 1) := by decide +kernel
theorem dX9_readNumbers_92 : decode cX9_readNumbers 92 = .ok (.iconst 5, 1) := by decide +kernel
theorem dX9_readNumbers_93 : decode cX9_readNumbers 93 = .ok (.invokevirtual 81, 3) := by decide +kernel
theorem dX9_readNumbers_96 : decode cX9_readNumbers 96 = .ok (.iastore, 1) := by decide +kernel
theorem dX9_readNumbers_97 : decode cX9_readNumbers 97 = .ok (.aload_n 0, 1) := by decide +kernel
theorem dX9_readNumbers_98 : decode cX9_readNumbers 98 = .ok (.getfield 21, 3) := by decide +kernel
theorem dX9_readNumbers_101 : decode cX9_readNumbers 101 = .ok (.iload_n 3, 1) := by decide +kernel
theorem dX9_readNumbers_102 : decode cX9_readNumbers 102 = .ok (.iaload, 1) := by decide +kernel
theorem dX9_readNumbers_103 : decode cX9_readNumbers 103 = .ok (.iconst (-1), 1) := by decide +kernel
theorem dX9_readNumbers_104 : decode cX9_readNumbers 104 = .ok (.if_icmp .eq 7, 3) := by decide +kernel
theorem dX9_readNumbers_107 : decode cX9_readNumbers 107 = .ok (.iconst 1, 1) := by decide +kernel
theorem dX9_readNumbers_108 : decode cX9_readNumbers 108 = .ok (.goto 4, 3) := by decide +kernel
theorem dX9_readNumbers_111 : decode cX9_readNumbers 111 = .ok (.iconst 0, 1) := by decide +kernel
theorem dX9_readNumbers_112 : decode cX9_readNumbers 112 = .ok (.ireturn, 1) := by decide +kernel
theorem dX9_readNumbers_113 : decode cX9_readNumbers 113 = .ok (.aload_n 0, 1) := by decide +kernel
theorem dX9_readNumbers_114 : decode cX9_readNumbers 114 = .ok (.getfield 15, 3) := by decide +kernel
theorem dX9_readNumbers_117 : decode cX9_readNumbers 117 = .ok (.iload_n 3, 1) := by decide +kernel
theorem dX9_readNumbers_118 : decode cX9_readNumbers 118 = .ok (.aload_n 1, 1) := by decide +kernel
theorem dX9_readNumbers_119 : decode cX9_readNumbers 119 = .ok (.iload_n 2, 1) := by decide +kernel
theorem dX9_readNumbers_120 : decode cX9_readNumbers 120 = .ok (.iconst 1, 1) := by decide +kernel
theorem dX9_readNumbers_121 : decode cX9_readNumbers 121 = .ok (.isub, 1) := by decide +kernel
theorem dX9_readNumbers_122 : decode cX9_readNumbers 122 = .ok (.invokevirtual 81, 3) := by decide +kernel
theorem dX9_readNumbers_125 : decode cX9_readNumbers 125 = .ok (.iastore, 1) := by decide +kernel
theorem dX9_readNumbers_126 : decode cX9_readNumbers 126 = .ok (.aload_n 0, 1) := by decide +kernel
theorem dX9_readNumbers_127 : decode cX9_readNumbers 127 = .ok (.getfield 18, 3) := by decide +kernel
theorem dX9_readNumbers_130 : decode cX9_readNumbers 130 = .ok (.iload_n 3, 1) := by decide +kernel
theorem dX9_readNumbers_131 : decode cX9_readNumbers 131 = .ok (.aload_n 0, 1) := by decide +kernel
theorem dX9_readNumbers_132 : decode cX9_readNumbers 132 = .ok (.getfield 15, 3) := by decide +kernel
theorem dX9_readNumbers_135 : decode cX9_readNumbers 135 = .ok (.iload_n 3, 1) := by decide +kernel
theorem dX9_readNumbers_136 : decode cX9_readNumbers 136 = .ok (.iaload, 1) := by decide +kernel
theorem dX9_readNumbers_137 : decode cX9_readNumbers 137 = .ok (.iconst (-1), 1) := by decide +kernel
theorem dX9_readNumbers_138 : decode cX9_readNumbers 138 = .ok (.if_icmp .ne 7, 3) := by decide +kernel
theorem dX9_readNumbers_141 : decode cX9_readNumbers 141 = .ok (.iconst (-1), 1) := by decide +kernel
theorem dX9_readNumbers_142 : decode cX9_readNumbers 142 = .ok (.goto 9, 3) := by decide +kernel
theorem dX9_readNumbers_145 : decode cX9_readNumbers 145 = .ok (.aload_n 1, 1) := by decide +kernel
theorem dX9_readNumbers_146 : decode cX9_readNumbers 146 = .ok (.bipush 9, 2) := by decide +kernel
theorem dX9_readNumbers_148 : decode cX9_readNumbers 148 = .ok (.invokevirtual 81, 3) := by decide +kernel
theorem dX9_readNumbers_151 : decode cX9_readNumbers 151 = .ok (.iastore, 1) := by decide +kernel
theorem dX9_readNumbers_152 : decode cX9_readNumbers 152 = .ok (.aload_n 0, 1) := by decide +kernel
theorem dX9_readNumbers_153 : decode cX9_readNumbers 153 = .ok (.getfield 18, 3) := by decide +kernel
theorem dX9_readNumbers_156 : decode cX9_readNumbers 156 = .ok (.iload_n 3, 1) := by decide +kernel
theorem dX9_readNumbers_157 : decode cX9_readNumbers 157 = .ok (.iaload, 1) := by decide +kernel
theorem dX9_readNumbers_158 : decode cX9_readNumbers 158 = .ok (.iconst (-1), 1) := by decide +kernel
theorem dX9_readNumbers_159 : decode cX9_readNumbers 159 = .ok (.if_icmp .eq 7, 3) := by decide +kernel
theorem dX9_readNumbers_162 : decode cX9_readNumbers 162 = .ok (.iconst 1, 1) := by decide +kernel
theorem dX9_readNumbers_163 : decode cX9_readNumbers 163 = .ok (.goto 4, 3) := by decide +kernel
theorem dX9_readNumbers_166 : decode cX9_readNumbers 166 = .ok (.iconst 0, 1) := by decide +kernel
theorem dX9_readNumbers_167 : decode cX9_readNumbers 167 = .ok (.ireturn, 1) := by decide +kernel
theorem dX9_readNumbers_168 : decode cX9_readNumbers 168 = .ok (.aload_n 0, 1) := by decide +kernel
theorem dX9_readNumbers_169 : decode cX9_readNumbers 169 = .ok (.getfield 15, 3) := by decide +kernel
theorem dX9_readNumbers_172 : decode cX9_readNumbers 172 = .ok (.iload_n 3, 1) := by decide +kernel
theorem dX9_readNumbers_173 : decode cX9_readNumbers 173 = .ok (.aload_n 1, 1) := by decide +kernel
theorem dX9_readNumbers_174 : decode cX9_readNumbers 174 = .ok (.iconst 5, 1) := by decide +kernel
theorem dX9_readNumbers_175 : decode cX9_readNumbers 175 = .ok (.invokevirtual 81, 3) := by decide +kernel
theorem dX9_readNumbers_178 : decode cX9_readNumbers 178 = .ok (.iastore, 1) := by decide +kernel
theorem dX9_readNumbers_179 : decode cX9_readNumbers 179 = .ok (.aload_n 0, 1) := by decide +kernel
theorem dX9_readNumbers_180 : decode cX9_readNumbers 180 = .ok (.getfield 15, 3) := by decide +kernel
theorem dX9_readNumbers_183 : decode cX9_readNumbers 183 = .ok (.iload_n 3, 1) := by decide +kernel
theorem dX9_readNumbers_184 : decode cX9_readNumbers 184 = .ok (.iaload, 1) := by decide +kernel
theorem dX9_readNumbers_185 : decode cX9_readNumbers 185 = .ok (.iconst (-1), 1) := by decide +kernel
theorem dX9_readNumbers_186 : decode cX9_readNumbers 186 = .ok (.if_icmp .eq 7, 3) := by decide +kernel
theorem dX9_readNumbers_189 : decode cX9_readNumbers 189 = .ok (.iconst 1, 1) := by decide +kernel
theorem dX9_readNumbers_190 : decode cX9_readNumbers 190 = .ok (.goto 4, 3) := by decide +kernel
theorem dX9_readNumbers_193 : decode cX9_readNumbers 193 = .ok (.iconst 0, 1) := by decide +kernel
theorem dX9_readNumbers_194 : decode cX9_readNumbers 194 = .ok (.ireturn, 1) := by decide +kernel
theorem dX9_readNumbers_195 : decode cX9_readNumbers 195 = .ok (.iconst 1, 1) := by decide +kernel
theorem dX9_readNumbers_196 : decode cX9_readNumbers 196 = .ok (.ireturn, 1) := by decide +kernel
theorem dX9_readAgain_0 : decode cX9_readAgain 0 = .ok (.aload_n 0, 1) := by decide +kernel
theorem dX9_readAgain_1 : decode cX9_readAgain 1 = .ok (.getfield 15, 3) := by decide +kernel
theorem dX9_readAgain_4 : decode cX9_readAgain 4 = .ok (.iload 4, 2) := by decide +kernel
theorem dX9_readAgain_6 : decode cX9_readAgain 6 = .ok (.aload_n 1, 1) := by decide +kernel
theorem dX9_readAgain_7 : decode cX9_readAgain 7 = .ok (.bipush 30, 2) := by decide +kernel
theorem dX9_readAgain_9 : decode cX9_readAgain 9 = .ok (.invokevirtual 81, 3) := by decide +kernel
theorem dX9_readAgain_12 : decode cX9_readAgain 12 = .ok (.iastore, 1) := by decide +kernel
theorem dX9_readAgain_13 : decode cX9_readAgain 13 = .ok (.aload_n 0, 1) := by decide +kernel
theorem dX9_readAgain_14 : decode cX9_readAgain 14 = .ok (.getfield 15, 3) := by decide +kernel
theorem dX9_readAgain_17 : decode cX9_readAgain 17 = .ok (.iload 4, 2) := by decide +kernel
theorem dX9_readAgain_19 : decode cX9_readAgain 19 = .ok (.iaload, 1) := by decide +kernel
theorem dX9_readAgain_20 : decode cX9_readAgain 20 = .ok (.iconst (-1), 1) := by decide +kernel
theorem dX9_readAgain_21 : decode cX9_readAgain 21 = .ok (.if_icmp .eq 37, 3) := by decide +kernel
theorem dX9_readAgain_24 : decode cX9_readAgain 24 = .ok (.aload_n 1, 1) := by decide +kernel
theorem dX9_readAgain_25 : decode cX9_readAgain 25 = .ok (.bipush 91, 2) := by decide +kernel
theorem dX9_readAgain_27 : decode cX9_readAgain 27 = .ok (.invokevirtual 78, 3) := by decide +kernel
theorem dX9_readAgain_30 : decode cX9_readAgain 30 = .ok (.ifCond .eq 28, 3) := by decide +kernel
theorem dX9_readAgain_33 : decode cX9_readAgain 33 = .ok (.aload_n 0, 1) := by decide +kernel
theorem dX9_readAgain_34 : decode cX9_readAgain 34 = .ok (.aload_n 1, 1) := by decide +kernel
theorem dX9_readAgain_35 : decode cX9_readAgain 35 = .ok (.iload_n 2, 1) := by decide +kernel
theorem dX9_readAgain_36 : decode cX9_readAgain 36 = .ok (.iload_n 3, 1) := by decide +kernel
theorem dX9_readAgain_37 : decode cX9_readAgain 37 = .ok (.iconst 1, 1) := by decide +kernel
theorem dX9_readAgain_38 : decode cX9_readAgain 38 = .ok (.iadd, 1) := by decide +kernel
theorem dX9_readAgain_39 : decode cX9_readAgain 39 = .ok (.invokevirtual 37, 3) := by decide +kernel
theorem dX9_readAgain_42 : decode cX9_readAgain 42 = .ok (.ifCond .eq 16, 3) := by decide +kernel
theorem dX9_readAgain_45 : decode cX9_readAgain 45 = .ok (.aload_n 1, 1) := by decide +kernel
theorem dX9_readAgain_46 : decode cX9_readAgain 46 = .ok (.bipush 93, 2) := by decide +kernel
theorem dX9_readAgain_48 : decode cX9_readAgain 48 = .ok (.invokevirtual 78, 3) := by decide +kernel
theorem dX9_readAgain_51 : decode cX9_readAgain 51 = .ok (.ifCond .eq 7, 3) := by decide +kernel
theorem dX9_readAgain_54 : decode cX9_readAgain 54 = .ok (.iconst 1, 1) := by decide +kernel
theorem dX9_readAgain_55 : decode cX9_readAgain 55 = .ok (.goto 4, 3) := by decide +kernel
theorem dX9_readAgain_58 : decode cX9_readAgain 58 = .ok (.iconst 0, 1) := by decide +kernel
theorem dX9_readAgain_59 : decode cX9_readAgain 59 = .ok (.istore 5, 2) := by decide +kernel
theorem dX9_readAgain_61 : decode cX9_readAgain 61 = .ok (.aload_n 0, 1) := by decide +kernel
theorem dX9_readAgain_62 : decode cX9_readAgain 62 = .ok (.getfield 18, 3) := by decide +kernel
theorem dX9_readAgain_65 : decode cX9_readAgain 65 = .ok (.iload 4, 2) := by decide +kernel
theorem dX9_readAgain_67 : decode cX9_readAgain 67 = .ok (.aload_n 0, 1) := by decide +kernel
theorem dX9_readAgain_68 : decode cX9_readAgain 68 = .ok (.getfield 24, 3) := by decide +kernel
theorem dX9_readAgain_71 : decode cX9_readAgain 71 = .ok (.iastore, 1) := by decide +kernel
theorem dX9_readAgain_72 : decode cX9_readAgain 72 = .ok (.iload 5, 2) := by decide +kernel
theorem dX9_readAgain_74 : decode cX9_readAgain 74 = .ok (.ireturn, 1) := by decide +kernel
theorem dX9_perform_0 : decode cX9_perform 0 = .ok (.aload_n 0, 1) := by decide +kernel
theorem dX9_perform_1 : decode cX9_perform 1 = .ok (.aload_n 1, 1) := by decide +kernel
theorem dX9_perform_2 : decode cX9_perform 2 = .ok (.aload_n 2, 1) := by decide +kernel
theorem dX9_perform_3 : decode cX9_perform 3 = .ok (.iconst 0, 1) := by decide +kernel
theorem dX9_perform_4 : decode cX9_perform 4 = .ok (.aload_n 0, 1) := by decide +kernel
theorem dX9_perform_5 : decode cX9_perform 5 = .ok (.getfield 24, 3) := by decide +kernel
theorem dX9_perform_8 : decode cX9_perform 8 = .ok (.iconst 0, 1) := by decide +kernel
theorem dX9_perform_9 : decode cX9_perform 9 = .ok (.invokevirtual 85, 3) := by decide +kernel
theorem dX9_perform_12 : decode cX9_perform 12 = .ok (.return_, 1) := by decide +kernel
theorem dX9_performSteps_0 : decode cX9_performSteps 0 = .ok (.iload_n 3, 1) := by decide +kernel
theorem dX9_performSteps_1 : decode cX9_performSteps 1 = .ok (.istore 6, 2) := by decide +kernel
theorem dX9_performSteps_3 : decode cX9_performSteps 3 = .ok (.iload 6, 2) := by decide +kernel
theorem dX9_performSteps_5 : decode cX9_performSteps 5 = .ok (.iload 4, 2) := by decide +kernel
theorem dX9_performSteps_7 : decode cX9_performSteps 7 = .ok (.if_icmp .ge 133, 3) := by decide +kernel
theorem dX9_performSteps_10 : decode cX9_performSteps 10 = .ok (.iload 6, 2) := by decide +kernel
theorem dX9_performSteps_12 : decode cX9_performSteps 12 = .ok (.bipush 30, 2) := by decide +kernel
theorem dX9_performSteps_14 : decode cX9_performSteps 14 = .ok (.if_icmp .ge 126, 3) := by decide +kernel
theorem dX9_performSteps_17 : decode cX9_performSteps 17 = .ok (.aload_n 0, 1) := by decide +kernel
theorem dX9_performSteps_18 : decode cX9_performSteps 18 = .ok (.getfield 28, 3) := by decide +kernel
theorem dX9_performSteps_21 : decode cX9_performSteps 21 = .ok (.sipush 200, 3) := by decide +kernel
theorem dX9_performSteps_24 : decode cX9_performSteps 24 = .ok (.if_icmp .ge 116, 3) := by decide +kernel
theorem dX9_performSteps_27 : decode cX9_performSteps 27 = .ok (.aload_n 0, 1) := by decide +kernel
theorem dX9_performSteps_28 : decode cX9_performSteps 28 = .ok (.dup, 1) := by decide +kernel
theorem dX9_performSteps_29 : decode cX9_performSteps 29 = .ok (.getfield 28, 3) := by decide +kernel
theorem dX9_performSteps_32 : decode cX9_performSteps 32 = .ok (.iconst 1, 1) := by decide +kernel
theorem dX9_performSteps_33 : decode cX9_performSteps 33 = .ok (.iadd, 1) := by decide +kernel
theorem dX9_performSteps_34 : decode cX9_performSteps 34 = .ok (.putfield 28, 3) := by decide +kernel
theorem dX9_performSteps_37 : decode cX9_performSteps 37 = .ok (.aload_n 0, 1) := by decide +kernel
theorem dX9_performSteps_38 : decode cX9_performSteps 38 = .ok (.getfield 11, 3) := by decide +kernel
theorem dX9_performSteps_41 : decode cX9_performSteps 41 = .ok (.iload 6, 2) := by decide +kernel
theorem dX9_performSteps_43 : decode cX9_performSteps 43 = .ok (.iaload, 1) := by decide +kernel
theorem dX9_performSteps_44 : decode cX9_performSteps 44 = .ok (.iconst 4, 1) := by decide +kernel
theorem dX9_performSteps_45 : decode cX9_performSteps 45 = .ok (.if_icmp .eq 14, 3) := by decide +kernel
theorem dX9_performSteps_48 : decode cX9_performSteps 48 = .ok (.aload_n 0, 1) := by decide +kernel
theorem dX9_performSteps_49 : decode cX9_performSteps 49 = .ok (.aload_n 1, 1) := by decide +kernel
theorem dX9_performSteps_50 : decode cX9_performSteps 50 = .ok (.aload_n 2, 1) := by decide +kernel
theorem dX9_performSteps_51 : decode cX9_performSteps 51 = .ok (.iload 6, 2) := by decide +kernel
theorem dX9_performSteps_53 : decode cX9_performSteps 53 = .ok (.invokevirtual 89, 3) := by decide +kernel
theorem dX9_performSteps_56 : decode cX9_performSteps 56 = .ok (.goto 78, 3) := by decide +kernel
theorem dX9_performSteps_59 : decode cX9_performSteps 59 = .ok (.iload 5, 2) := by decide +kernel
theorem dX9_performSteps_61 : decode cX9_performSteps 61 = .ok (.bipush 6, 2) := by decide +kernel
theorem dX9_performSteps_63 : decode cX9_performSteps 63 = .ok (.if_icmp .ge 71, 3) := by decide +kernel
theorem dX9_performSteps_66 : decode cX9_performSteps 66 = .ok (.iconst 0, 1) := by decide +kernel
theorem dX9_performSteps_67 : decode cX9_performSteps 67 = .ok (.istore 7, 2) := by decide +kernel
theorem dX9_performSteps_69 : decode cX9_performSteps 69 = .ok (.iload 7, 2) := by decide +kernel
theorem dX9_performSteps_71 : decode cX9_performSteps 71 = .ok (.aload_n 0, 1) := by decide +kernel
theorem dX9_performSteps_72 : decode cX9_performSteps 72 = .ok (.getfield 15, 3) := by decide +kernel
theorem dX9_performSteps_75 : decode cX9_performSteps 75 = .ok (.iload 6, 2) := by decide +kernel
theorem dX9_performSteps_77 : decode cX9_performSteps 77 = .ok (.iaload, 1) := by decide +kernel
theorem dX9_performSteps_78 : decode cX9_performSteps 78 = .ok (.if_icmp .ge 40, 3) := by decide +kernel
theorem dX9_performSteps_81 : decode cX9_performSteps 81 = .ok (.aload_n 0, 1) := by decide +kernel
theorem dX9_performSteps_82 : decode cX9_performSteps 82 = .ok (.getfield 28, 3) := by decide +kernel
theorem dX9_performSteps_85 : decode cX9_performSteps 85 = .ok (.sipush 200, 3) := by decide +kernel
theorem dX9_performSteps_88 : decode cX9_performSteps 88 = .ok (.if_icmp .ge 30, 3) := by decide +kernel
theorem dX9_performSteps_91 : decode cX9_performSteps 91 = .ok (.aload_n 0, 1) := by decide +kernel
theorem dX9_performSteps_92 : decode cX9_performSteps 92 = .ok (.aload_n 1, 1) := by decide +kernel
theorem dX9_performSteps_93 : decode cX9_performSteps 93 = .ok (.aload_n 2, 1) := by decide +kernel
theorem dX9_performSteps_94 : decode cX9_performSteps 94 = .ok (.iload 6, 2) := by decide +kernel
theorem dX9_performSteps_96 : decode cX9_performSteps 96 = .ok (.iconst 1, 1) := by decide +kernel
theorem dX9_performSteps_97 : decode cX9_performSteps 97 = .ok (.iadd, 1) := by decide +kernel
theorem dX9_performSteps_98 : decode cX9_performSteps 98 = .ok (.aload_n 0, 1) := by decide +kernel
theorem dX9_performSteps_99 : decode cX9_performSteps 99 = .ok (.getfield 18, 3) := by decide +kernel
theorem dX9_performSteps_102 : decode cX9_performSteps 102 = .ok (.iload 6, 2) := by decide +kernel
theorem dX9_performSteps_104 : decode cX9_performSteps 104 = .ok (.iaload, 1) := by decide +kernel
theorem dX9_performSteps_105 : decode cX9_performSteps 105 = .ok (.iload 5, 2) := by decide +kernel
theorem dX9_performSteps_107 : decode cX9_performSteps 107 = .ok (.iconst 1, 1) := by decide +kernel
theorem dX9_performSteps_108 : decode cX9_performSteps 108 = .ok (.iadd, 1) := by decide +kernel
theorem dX9_performSteps_109 : decode cX9_performSteps 109 = .ok (.invokevirtual 85, 3) := by decide +kernel
theorem dX9_performSteps_112 : decode cX9_performSteps 112 = .ok (.iinc 7 1, 3) := by decide +kernel
theorem dX9_performSteps_115 : decode cX9_performSteps 115 = .ok (.goto (-46), 3) := by decide +kernel
theorem dX9_performSteps_118 : decode cX9_performSteps 118 = .ok (.iload 6, 2) := by decide +kernel
theorem dX9_performSteps_120 : decode cX9_performSteps 120 = .ok (.aload_n 0, 1) := by decide +kernel
theorem dX9_performSteps_121 : decode cX9_performSteps 121 = .ok (.getfield 18, 3) := by decide +kernel
theorem dX9_performSteps_124 : decode cX9_performSteps 124 = .ok (.iload 6, 2) := by decide +kernel
theorem dX9_performSteps_126 : decode cX9_performSteps 126 = .ok (.iaload, 1) := by decide +kernel
theorem dX9_performSteps_127 : decode cX9_performSteps 127 = .ok (.iconst 1, 1) := by decide +kernel
theorem dX9_performSteps_128 : decode cX9_performSteps 128 = .ok (.isub, 1) := by decide +kernel
theorem dX9_performSteps_129 : decode cX9_performSteps 129 = .ok (.invokestatic 93, 3) := by decide +kernel
theorem dX9_performSteps_132 : decode cX9_performSteps 132 = .ok (.istore 6, 2) := by decide +kernel
theorem dX9_performSteps_134 : decode cX9_performSteps 134 = .ok (.iinc 6 1, 3) := by decide +kernel
theorem dX9_performSteps_137 : decode cX9_performSteps 137 = .ok (.goto (-134), 3) := by decide +kernel
theorem dX9_performSteps_140 : decode cX9_performSteps 140 = .ok (.return_, 1) := by decide +kernel
theorem dX9_performStep_0 : decode cX9_performStep 0 = .ok (.aload_n 0, 1) := by decide +kernel
theorem dX9_performStep_1 : decode cX9_performStep 1 = .ok (.getfield 11, 3) := by decide +kernel
theorem dX9_performStep_4 : decode cX9_performStep 4 = .ok (.iload_n 3, 1) := by decide +kernel
theorem dX9_performStep_5 : decode cX9_performStep 5 = .ok (.iaload, 1) := by decide +kernel
theorem dX9_performStep_6 : decode cX9_performStep 6 = .ok (.tableswitch 123 0 3 #[30, 58, 79, 94], 30) := by decide +kernel
theorem dX9_performStep_36 : decode cX9_performStep 36 = .ok (.aload_n 1, 1) := by decide +kernel
theorem dX9_performStep_37 : decode cX9_performStep 37 = .ok (.aload_n 2, 1) := by decide +kernel
theorem dX9_performStep_38 : decode cX9_performStep 38 = .ok (.aload_n 0, 1) := by decide +kernel
theorem dX9_performStep_39 : decode cX9_performStep 39 = .ok (.getfield 15, 3) := by decide +kernel
theorem dX9_performStep_42 : decode cX9_performStep 42 = .ok (.iload_n 3, 1) := by decide +kernel
theorem dX9_performStep_43 : decode cX9_performStep 43 = .ok (.iaload, 1) := by decide +kernel
theorem dX9_performStep_44 : decode cX9_performStep 44 = .ok (.aload_n 0, 1) := by decide +kernel
theorem dX9_performStep_45 : decode cX9_performStep 45 = .ok (.getfield 18, 3) := by decide +kernel
theorem dX9_performStep_48 : decode cX9_performStep 48 = .ok (.iload_n 3, 1) := by decide +kernel
theorem dX9_performStep_49 : decode cX9_performStep 49 = .ok (.iaload, 1) := by decide +kernel
theorem dX9_performStep_50 : decode cX9_performStep 50 = .ok (.aload_n 0, 1) := by decide +kernel
theorem dX9_performStep_51 : decode cX9_performStep 51 = .ok (.getfield 21, 3) := by decide +kernel
theorem dX9_performStep_54 : decode cX9_performStep 54 = .ok (.iload_n 3, 1) := by decide +kernel
theorem dX9_performStep_55 : decode cX9_performStep 55 = .ok (.iaload, 1) := by decide +kernel
theorem dX9_performStep_56 : decode cX9_performStep 56 = .ok (.invokevirtual 99, 3) := by decide +kernel
theorem dX9_performStep_59 : decode cX9_performStep 59 = .ok (.istore 4, 2) := by decide +kernel
theorem dX9_performStep_61 : decode cX9_performStep 61 = .ok (.goto 71, 3) := by decide +kernel
theorem dX9_performStep_64 : decode cX9_performStep 64 = .ok (.aload_n 2, 1) := by decide +kernel
theorem dX9_performStep_65 : decode cX9_performStep 65 = .ok (.aload_n 0, 1) := by decide +kernel
theorem dX9_performStep_66 : decode cX9_performStep 66 = .ok (.getfield 15, 3) := by decide +kernel
theorem dX9_performStep_69 : decode cX9_performStep 69 = .ok (.iload_n 3, 1) := by decide +kernel
theorem dX9_performStep_70 : decode cX9_performStep 70 = .ok (.iaload, 1) := by decide +kernel
theorem dX9_performStep_71 : decode cX9_performStep 71 = .ok (.aload_n 0, 1) := by decide +kernel
theorem dX9_performStep_72 : decode cX9_performStep 72 = .ok (.getfield 18, 3) := by decide +kernel
theorem dX9_performStep_75 : decode cX9_performStep 75 = .ok (.iload_n 3, 1) := by decide +kernel
theorem dX9_performStep_76 : decode cX9_performStep 76 = .ok (.iaload, 1) := by decide +kernel
theorem dX9_performStep_77 : decode cX9_performStep 77 = .ok (.invokevirtual 105, 3) := by decide +kernel
theorem dX9_performStep_80 : decode cX9_performStep 80 = .ok (.istore 4, 2) := by decide +kernel
theorem dX9_performStep_82 : decode cX9_performStep 82 = .ok (.goto 50, 3) := by decide +kernel
theorem dX9_performStep_85 : decode cX9_performStep 85 = .ok (.aload_n 2, 1) := by decide +kernel
theorem dX9_performStep_86 : decode cX9_performStep 86 = .ok (.aload_n 0, 1) := by decide +kernel
theorem dX9_performStep_87 : decode cX9_performStep 87 = .ok (.getfield 15, 3) := by decide +kernel
theorem dX9_performStep_90 : decode cX9_performStep 90 = .ok (.iload_n 3, 1) := by decide +kernel
theorem dX9_performStep_91 : decode cX9_performStep 91 = .ok (.iaload, 1) := by decide +kernel
theorem dX9_performStep_92 : decode cX9_performStep 92 = .ok (.invokevirtual 110, 3) := by decide +kernel
theorem dX9_performStep_95 : decode cX9_performStep 95 = .ok (.istore 4, 2) := by decide +kernel
theorem dX9_performStep_97 : decode cX9_performStep 97 = .ok (.goto 35, 3) := by decide +kernel
theorem dX9_performStep_100 : decode cX9_performStep 100 = .ok (.aload_n 2, 1) := by decide +kernel
theorem dX9_performStep_101 : decode cX9_performStep 101 = .ok (.getfield 113, 3) := by decide +kernel
theorem dX9_performStep_104 : decode cX9_performStep 104 = .ok (.sipush 200, 3) := by decide +kernel
theorem dX9_performStep_107 : decode cX9_performStep 107 = .ok (.if_icmp .ge 7, 3) := by decide +kernel
theorem dX9_performStep_110 : decode cX9_performStep 110 = .ok (.iconst 1, 1) := by decide +kernel
theorem dX9_performStep_111 : decode cX9_performStep 111 = .ok (.goto 4, 3) := by decide +kernel
theorem dX9_performStep_114 : decode cX9_performStep 114 = .ok (.iconst 0, 1) := by decide +kernel
theorem dX9_performStep_115 : decode cX9_performStep 115 = .ok (.istore 4, 2) := by decide +kernel
theorem dX9_performStep_117 : decode cX9_performStep 117 = .ok (.iload 4, 2) := by decide +kernel
theorem dX9_performStep_119 : decode cX9_performStep 119 = .ok (.ifCond .eq 13, 3) := by decide +kernel
theorem dX9_performStep_122 : decode cX9_performStep 122 = .ok (.aload_n 2, 1) := by decide +kernel
theorem dX9_performStep_123 : decode cX9_performStep 123 = .ok (.invokevirtual 116, 3) := by decide +kernel
theorem dX9_performStep_126 : decode cX9_performStep 126 = .ok (.goto 6, 3) := by decide +kernel
theorem dX9_performStep_129 : decode cX9_performStep 129 = .ok (.iconst 0, 1) := by decide +kernel
theorem dX9_performStep_130 : decode cX9_performStep 130 = .ok (.istore 4, 2) := by decide +kernel
theorem dX9_performStep_132 : decode cX9_performStep 132 = .ok (.iload 4, 2) := by decide +kernel
theorem dX9_performStep_134 : decode cX9_performStep 134 = .ok (.ifCond .eq 16, 3) := by decide +kernel
theorem dX9_performStep_137 : decode cX9_performStep 137 = .ok (.aload_n 0, 1) := by decide +kernel
theorem dX9_performStep_138 : decode cX9_performStep 138 = .ok (.dup, 1) := by decide +kernel
theorem dX9_performStep_139 : decode cX9_performStep 139 = .ok (.getfield 31, 3) := by decide +kernel
theorem dX9_performStep_142 : decode cX9_performStep 142 = .ok (.iconst 1, 1) := by decide +kernel
theorem dX9_performStep_143 : decode cX9_performStep 143 = .ok (.iadd, 1) := by decide +kernel
theorem dX9_performStep_144 : decode cX9_performStep 144 = .ok (.putfield 31, 3) := by decide +kernel
theorem dX9_performStep_147 : decode cX9_performStep 147 = .ok (.goto 13, 3) := by decide +kernel
theorem dX9_performStep_150 : decode cX9_performStep 150 = .ok (.aload_n 0, 1) := by decide +kernel
theorem dX9_performStep_151 : decode cX9_performStep 151 = .ok (.dup, 1) := by decide +kernel
theorem dX9_performStep_152 : decode cX9_performStep 152 = .ok (.getfield 34, 3) := by decide +kernel
theorem dX9_performStep_155 : decode cX9_performStep 155 = .ok (.iconst 1, 1) := by decide +kernel
theorem dX9_performStep_156 : decode cX9_performStep 156 = .ok (.iadd, 1) := by decide +kernel
theorem dX9_performStep_157 : decode cX9_performStep 157 = .ok (.putfield 34, 3) := by decide +kernel
theorem dX9_performStep_160 : decode cX9_performStep 160 = .ok (.return_, 1) := by decide +kernel
theorem dX10_init_0 : decode cX10_init 0 = .ok (.aload_n 0, 1) := by decide +kernel
theorem dX10_init_1 : decode cX10_init 1 = .ok (.invokespecial 3, 3) := by decide +kernel
theorem dX10_init_4 : decode cX10_init 4 = .ok (.aload_n 0, 1) := by decide +kernel
theorem dX10_init_5 : decode cX10_init 5 = .ok (.aload_n 1, 1) := by decide +kernel
theorem dX10_init_6 : decode cX10_init 6 = .ok (.putfield 9, 3) := by decide +kernel
theorem dX10_init_9 : decode cX10_init 9 = .ok (.aload_n 0, 1) := by decide +kernel
theorem dX10_init_10 : decode cX10_init 10 = .ok (.new 15, 3) := by decide +kernel
theorem dX10_init_13 : decode cX10_init 13 = .ok (.dup, 1) := by decide +kernel
theorem dX10_init_14 : decode cX10_init 14 = .ok (.invokespecial 17, 3) := by decide +kernel
theorem dX10_init_17 : decode cX10_init 17 = .ok (.putfield 18, 3) := by decide +kernel
theorem dX10_init_20 : decode cX10_init 20 = .ok (.return_, 1) := by decide +kernel
theorem dX10_pass_0 : decode cX10_pass 0 = .ok (.aload_n 0, 1) := by decide +kernel
theorem dX10_pass_1 : decode cX10_pass 1 = .ok (.getfield 18, 3) := by decide +kernel
theorem dX10_pass_4 : decode cX10_pass 4 = .ok (.aload_n 1, 1) := by decide +kernel
theorem dX10_pass_5 : decode cX10_pass 5 = .ok (.invokevirtual 22, 3) := by decide +kernel
theorem dX10_pass_8 : decode cX10_pass 8 = .ok (.aload_n 0, 1) := by decide +kernel
theorem dX10_pass_9 : decode cX10_pass 9 = .ok (.iload_n 2, 1) := by decide +kernel
theorem dX10_pass_10 : decode cX10_pass 10 = .ok (.putfield 26, 3) := by decide +kernel
theorem dX10_pass_13 : decode cX10_pass 13 = .ok (.aload_n 0, 1) := by decide +kernel
theorem dX10_pass_14 : decode cX10_pass 14 = .ok (.iconst 0, 1) := by decide +kernel
theorem dX10_pass_15 : decode cX10_pass 15 = .ok (.putfield 30, 3) := by decide +kernel
theorem dX10_pass_18 : decode cX10_pass 18 = .ok (.aload_n 0, 1) := by decide +kernel
theorem dX10_pass_19 : decode cX10_pass 19 = .ok (.iconst 0, 1) := by decide +kernel
theorem dX10_pass_20 : decode cX10_pass 20 = .ok (.putfield 33, 3) := by decide +kernel
theorem dX10_pass_23 : decode cX10_pass 23 = .ok (.aload_n 0, 1) := by decide +kernel
theorem dX10_pass_24 : decode cX10_pass 24 = .ok (.getfield 9, 3) := by decide +kernel
theorem dX10_pass_27 : decode cX10_pass 27 = .ok (.getfield 36, 3) := by decide +kernel
theorem dX10_pass_30 : decode cX10_pass 30 = .ok (.getfield 42, 3) := by decide +kernel
theorem dX10_pass_33 : decode cX10_pass 33 = .ok (.ifCond .ne 4, 3) := by decide +kernel
theorem dX10_pass_36 : decode cX10_pass 36 = .ok (.return_, 1) := by decide +kernel
theorem dX10_pass_37 : decode cX10_pass 37 = .ok (.iconst 1, 1) := by decide +kernel
theorem dX10_pass_38 : decode cX10_pass 38 = .ok (.istore 5, 2) := by decide +kernel
theorem dX10_pass_40 : decode cX10_pass 40 = .ok (.iload 5, 2) := by decide +kernel
theorem dX10_pass_42 : decode cX10_pass 42 = .ok (.iload_n 3, 1) := by decide +kernel
theorem dX10_pass_43 : decode cX10_pass 43 = .ok (.if_icmp .gt 29, 3) := by decide +kernel
theorem dX10_pass_46 : decode cX10_pass 46 = .ok (.aload_n 0, 1) := by decide +kernel
theorem dX10_pass_47 : decode cX10_pass 47 = .ok (.iload 4, 2) := by decide +kernel
theorem dX10_pass_49 : decode cX10_pass 49 = .ok (.invokevirtual 47, 3) := by decide +kernel
theorem dX10_pass_52 : decode cX10_pass 52 = .ok (.iload 5, 2) := by decide +kernel
theorem dX10_pass_54 : decode cX10_pass 54 = .ok (.iconst 4, 1) := by decide +kernel
theorem dX10_pass_55 : decode cX10_pass 55 = .ok (.irem, 1) := by decide +kernel
theorem dX10_pass_56 : decode cX10_pass 56 = .ok (.ifCond .ne 10, 3) := by decide +kernel
theorem dX10_pass_59 : decode cX10_pass 59 = .ok (.aload_n 0, 1) := by decide +kernel
theorem dX10_pass_60 : decode cX10_pass 60 = .ok (.getfield 18, 3) := by decide +kernel
theorem dX10_pass_63 : decode cX10_pass 63 = .ok (.invokevirtual 51, 3) := by decide +kernel
theorem dX10_pass_66 : decode cX10_pass 66 = .ok (.iinc 5 1, 3) := by decide +kernel
theorem dX10_pass_69 : decode cX10_pass 69 = .ok (.goto (-29), 3) := by decide +kernel
theorem dX10_pass_72 : decode cX10_pass 72 = .ok (.return_, 1) := by decide +kernel
theorem dX10_passTake_0 : decode cX10_passTake 0 = .ok (.aload_n 0, 1) := by decide +kernel
theorem dX10_passTake_1 : decode cX10_passTake 1 = .ok (.aload_n 0, 1) := by decide +kernel
theorem dX10_passTake_2 : decode cX10_passTake 2 = .ok (.getfield 9, 3) := by decide +kernel
theorem dX10_passTake_5 : decode cX10_passTake 5 = .ok (.getfield 36, 3) := by decide +kernel
theorem dX10_passTake_8 : decode cX10_passTake 8 = .ok (.getfield 42, 3) := by decide +kernel
theorem dX10_passTake_11 : decode cX10_passTake 11 = .ok (.invokevirtual 54, 3) := by decide +kernel
theorem dX10_passTake_14 : decode cX10_passTake 14 = .ok (.istore_n 2, 1) := by decide +kernel
theorem dX10_passTake_15 : decode cX10_passTake 15 = .ok (.aload_n 0, 1) := by decide +kernel
theorem dX10_passTake_16 : decode cX10_passTake 16 = .ok (.aload_n 0, 1) := by decide +kernel
theorem dX10_passTake_17 : decode cX10_passTake 17 = .ok (.getfield 9, 3) := by decide +kernel
theorem dX10_passTake_20 : decode cX10_passTake 20 = .ok (.getfield 36, 3) := by decide +kernel
theorem dX10_passTake_23 : decode cX10_passTake 23 = .ok (.getfield 42, 3) := by decide +kernel
theorem dX10_passTake_26 : decode cX10_passTake 26 = .ok (.invokevirtual 54, 3) := by decide +kernel
theorem dX10_passTake_29 : decode cX10_passTake 29 = .ok (.istore_n 3, 1) := by decide +kernel
theorem dX10_passTake_30 : decode cX10_passTake 30 = .ok (.aload_n 0, 1) := by decide +kernel
theorem dX10_passTake_31 : decode cX10_passTake 31 = .ok (.bipush 6, 2) := by decide +kernel
theorem dX10_passTake_33 : decode cX10_passTake 33 = .ok (.invokevirtual 54, 3) := by decide +kernel
theorem dX10_passTake_36 : decode cX10_passTake 36 = .ok (.istore 4, 2) := by decide +kernel
theorem dX10_passTake_38 : decode cX10_passTake 38 = .ok (.aload_n 0, 1) := by decide +kernel
theorem dX10_passTake_39 : decode cX10_passTake 39 = .ok (.getfield 9, 3) := by decide +kernel
theorem dX10_passTake_42 : decode cX10_passTake 42 = .ok (.aload_n 0, 1) := by decide +kernel
theorem dX10_passTake_43 : decode cX10_passTake 43 = .ok (.getfield 18, 3) := by decide +kernel
theorem dX10_passTake_46 : decode cX10_passTake 46 = .ok (.iload_n 2, 1) := by decide +kernel
theorem dX10_passTake_47 : decode cX10_passTake 47 = .ok (.iload_n 3, 1) := by decide +kernel
theorem dX10_passTake_48 : decode cX10_passTake 48 = .ok (.iload 4, 2) := by decide +kernel
theorem dX10_passTake_50 : decode cX10_passTake 50 = .ok (.invokevirtual 58, 3) := by decide +kernel
theorem dX10_passTake_53 : decode cX10_passTake 53 = .ok (.ifCond .ne 13, 3) := by decide +kernel
theorem dX10_passTake_56 : decode cX10_passTake 56 = .ok (.aload_n 0, 1) := by decide +kernel
theorem dX10_passTake_57 : decode cX10_passTake 57 = .ok (.dup, 1) := by decide +kernel
theorem dX10_passTake_58 : decode cX10_passTake 58 = .ok (.getfield 30, 3) := by decide +kernel
theorem dX10_passTake_61 : decode cX10_passTake 61 = .ok (.iconst 1, 1) := by decide +kernel
theorem dX10_passTake_62 : decode cX10_passTake 62 = .ok (.iadd, 1) := by decide +kernel
theorem dX10_passTake_63 : decode cX10_passTake 63 = .ok (.putfield 30, 3) := by decide +kernel
theorem dX10_passTake_66 : decode cX10_passTake 66 = .ok (.aload_n 0, 1) := by decide +kernel
theorem dX10_passTake_67 : decode cX10_passTake 67 = .ok (.bipush 16, 2) := by decide +kernel
theorem dX10_passTake_69 : decode cX10_passTake 69 = .ok (.invokevirtual 54, 3) := by decide +kernel
theorem dX10_passTake_72 : decode cX10_passTake 72 = .ok (.iload_n 1, 1) := by decide +kernel
theorem dX10_passTake_73 : decode cX10_passTake 73 = .ok (.if_icmp .ge 25, 3) := by decide +kernel
theorem dX10_passTake_76 : decode cX10_passTake 76 = .ok (.aload_n 0, 1) := by decide +kernel
theorem dX10_passTake_77 : decode cX10_passTake 77 = .ok (.getfield 18, 3) := by decide +kernel
theorem dX10_passTake_80 : decode cX10_passTake 80 = .ok (.iload 4, 2) := by decide +kernel
theorem dX10_passTake_82 : decode cX10_passTake 82 = .ok (.invokevirtual 62, 3) := by decide +kernel
theorem dX10_passTake_85 : decode cX10_passTake 85 = .ok (.ifCond .eq 13, 3) := by decide +kernel
theorem dX10_passTake_88 : decode cX10_passTake 88 = .ok (.aload_n 0, 1) := by decide +kernel
theorem dX10_passTake_89 : decode cX10_passTake 89 = .ok (.dup, 1) := by decide +kernel
theorem dX10_passTake_90 : decode cX10_passTake 90 = .ok (.getfield 33, 3) := by decide +kernel
theorem dX10_passTake_93 : decode cX10_passTake 93 = .ok (.iconst 1, 1) := by decide +kernel
theorem dX10_passTake_94 : decode cX10_passTake 94 = .ok (.iadd, 1) := by decide +kernel
theorem dX10_passTake_95 : decode cX10_passTake 95 = .ok (.putfield 33, 3) := by decide +kernel
theorem dX10_passTake_98 : decode cX10_passTake 98 = .ok (.return_, 1) := by decide +kernel
theorem dX10_draw_0 : decode cX10_draw 0 = .ok (.aload_n 0, 1) := by decide +kernel
theorem dX10_draw_1 : decode cX10_draw 1 = .ok (.aload_n 0, 1) := by decide +kernel
theorem dX10_draw_2 : decode cX10_draw 2 = .ok (.getfield 26, 3) := by decide +kernel
theorem dX10_draw_5 : decode cX10_draw 5 = .ok (.ldc 66, 2) := by decide +kernel
theorem dX10_draw_7 : decode cX10_draw 7 = .ok (.imul, 1) := by decide +kernel
theorem dX10_draw_8 : decode cX10_draw 8 = .ok (.sipush 12345, 3) := by decide +kernel
theorem dX10_draw_11 : decode cX10_draw 11 = .ok (.iadd, 1) := by decide +kernel
theorem dX10_draw_12 : decode cX10_draw 12 = .ok (.putfield 26, 3) := by decide +kernel
theorem dX10_draw_15 : decode cX10_draw 15 = .ok (.aload_n 0, 1) := by decide +kernel
theorem dX10_draw_16 : decode cX10_draw 16 = .ok (.getfield 26, 3) := by decide +kernel
theorem dX10_draw_19 : decode cX10_draw 19 = .ok (.bipush 16, 2) := by decide +kernel
theorem dX10_draw_21 : decode cX10_draw 21 = .ok (.iushr, 1) := by decide +kernel
theorem dX10_draw_22 : decode cX10_draw 22 = .ok (.sipush 32767, 3) := by decide +kernel
theorem dX10_draw_25 : decode cX10_draw 25 = .ok (.iand, 1) := by decide +kernel
theorem dX10_draw_26 : decode cX10_draw 26 = .ok (.istore_n 2, 1) := by decide +kernel
theorem dX10_draw_27 : decode cX10_draw 27 = .ok (.iload_n 1, 1) := by decide +kernel
theorem dX10_draw_28 : decode cX10_draw 28 = .ok (.ifCond .gt 7, 3) := by decide +kernel
theorem dX10_draw_31 : decode cX10_draw 31 = .ok (.iconst 0, 1) := by decide +kernel
theorem dX10_draw_32 : decode cX10_draw 32 = .ok (.goto 6, 3) := by decide +kernel
theorem dX10_draw_35 : decode cX10_draw 35 = .ok (.iload_n 2, 1) := by decide +kernel
theorem dX10_draw_36 : decode cX10_draw 36 = .ok (.iload_n 1, 1) := by decide +kernel
theorem dX10_draw_37 : decode cX10_draw 37 = .ok (.irem, 1) := by decide +kernel
theorem dX10_draw_38 : decode cX10_draw 38 = .ok (.ireturn, 1) := by decide +kernel
