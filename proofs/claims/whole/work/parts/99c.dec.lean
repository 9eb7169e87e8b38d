/-! decodes -/
theorem dq_within_0 : decode prog_1_method_44_code 0 = .ok (.iload_n 0, 1) := by decide +kernel
theorem dq_within_1 : decode prog_1_method_44_code 1 = .ok (.iload_n 1, 1) := by decide +kernel
theorem dq_within_2 : decode prog_1_method_44_code 2 = .ok (.if_icmp .lt 12, 3) := by decide +kernel
theorem dq_within_5 : decode prog_1_method_44_code 5 = .ok (.iload_n 0, 1) := by decide +kernel
theorem dq_within_6 : decode prog_1_method_44_code 6 = .ok (.iload_n 2, 1) := by decide +kernel
theorem dq_within_7 : decode prog_1_method_44_code 7 = .ok (.if_icmp .gt 7, 3) := by decide +kernel
theorem dq_within_10 : decode prog_1_method_44_code 10 = .ok (.iconst 1, 1) := by decide +kernel
theorem dq_within_11 : decode prog_1_method_44_code 11 = .ok (.goto 4, 3) := by decide +kernel
theorem dq_within_14 : decode prog_1_method_44_code 14 = .ok (.iconst 0, 1) := by decide +kernel
theorem dq_within_15 : decode prog_1_method_44_code 15 = .ok (.ireturn, 1) := by decide +kernel
theorem dq_pay_0 : decode prog_10_method_25_code 0 = .ok (.iload_n 0, 1) := by decide +kernel
theorem dq_pay_1 : decode prog_10_method_25_code 1 = .ok (.iconst 1, 1) := by decide +kernel
theorem dq_pay_2 : decode prog_10_method_25_code 2 = .ok (.if_icmp .ne 15, 3) := by decide +kernel
theorem dq_pay_5 : decode prog_10_method_25_code 5 = .ok (.iload_n 1, 1) := by decide +kernel
theorem dq_pay_6 : decode prog_10_method_25_code 6 = .ok (.iconst 1, 1) := by decide +kernel
theorem dq_pay_7 : decode prog_10_method_25_code 7 = .ok (.if_icmp .ne 7, 3) := by decide +kernel
theorem dq_pay_10 : decode prog_10_method_25_code 10 = .ok (.iload_n 2, 1) := by decide +kernel
theorem dq_pay_11 : decode prog_10_method_25_code 11 = .ok (.goto 5, 3) := by decide +kernel
theorem dq_pay_14 : decode prog_10_method_25_code 14 = .ok (.iload_n 3, 1) := by decide +kernel
theorem dq_pay_15 : decode prog_10_method_25_code 15 = .ok (.ineg, 1) := by decide +kernel
theorem dq_pay_16 : decode prog_10_method_25_code 16 = .ok (.ireturn, 1) := by decide +kernel
theorem dq_pay_17 : decode prog_10_method_25_code 17 = .ok (.iload_n 1, 1) := by decide +kernel
theorem dq_pay_18 : decode prog_10_method_25_code 18 = .ok (.iconst 1, 1) := by decide +kernel
theorem dq_pay_19 : decode prog_10_method_25_code 19 = .ok (.if_icmp .ne 8, 3) := by decide +kernel
theorem dq_pay_22 : decode prog_10_method_25_code 22 = .ok (.iload 4, 2) := by decide +kernel
theorem dq_pay_24 : decode prog_10_method_25_code 24 = .ok (.goto 4, 3) := by decide +kernel
theorem dq_pay_27 : decode prog_10_method_25_code 27 = .ok (.iconst 0, 1) := by decide +kernel
theorem dq_pay_28 : decode prog_10_method_25_code 28 = .ok (.ireturn, 1) := by decide +kernel
theorem dq_isRest_0 : decode prog_10_method_24_code 0 = .ok (.iload_n 0, 1) := by decide +kernel
theorem dq_isRest_1 : decode prog_10_method_24_code 1 = .ok (.iload_n 1, 1) := by decide +kernel
theorem dq_isRest_2 : decode prog_10_method_24_code 2 = .ok (.iload_n 2, 1) := by decide +kernel
theorem dq_isRest_3 : decode prog_10_method_24_code 3 = .ok (.iload_n 3, 1) := by decide +kernel
theorem dq_isRest_4 : decode prog_10_method_24_code 4 = .ok (.iload 4, 2) := by decide +kernel
theorem dq_isRest_6 : decode prog_10_method_24_code 6 = .ok (.invokestatic 166, 3) := by decide +kernel
theorem dq_isRest_9 : decode prog_10_method_24_code 9 = .ok (.iconst 1, 1) := by decide +kernel
theorem dq_isRest_10 : decode prog_10_method_24_code 10 = .ok (.iload_n 0, 1) := by decide +kernel
theorem dq_isRest_11 : decode prog_10_method_24_code 11 = .ok (.isub, 1) := by decide +kernel
theorem dq_isRest_12 : decode prog_10_method_24_code 12 = .ok (.iload_n 1, 1) := by decide +kernel
theorem dq_isRest_13 : decode prog_10_method_24_code 13 = .ok (.iload_n 2, 1) := by decide +kernel
theorem dq_isRest_14 : decode prog_10_method_24_code 14 = .ok (.iload_n 3, 1) := by decide +kernel
theorem dq_isRest_15 : decode prog_10_method_24_code 15 = .ok (.iload 4, 2) := by decide +kernel
theorem dq_isRest_17 : decode prog_10_method_24_code 17 = .ok (.invokestatic 166, 3) := by decide +kernel
theorem dq_isRest_20 : decode prog_10_method_24_code 20 = .ok (.if_icmp .lt 30, 3) := by decide +kernel
theorem dq_isRest_23 : decode prog_10_method_24_code 23 = .ok (.iload_n 1, 1) := by decide +kernel
theorem dq_isRest_24 : decode prog_10_method_24_code 24 = .ok (.iload_n 0, 1) := by decide +kernel
theorem dq_isRest_25 : decode prog_10_method_24_code 25 = .ok (.iload_n 2, 1) := by decide +kernel
theorem dq_isRest_26 : decode prog_10_method_24_code 26 = .ok (.iload_n 3, 1) := by decide +kernel
theorem dq_isRest_27 : decode prog_10_method_24_code 27 = .ok (.iload 4, 2) := by decide +kernel
theorem dq_isRest_29 : decode prog_10_method_24_code 29 = .ok (.invokestatic 166, 3) := by decide +kernel
theorem dq_isRest_32 : decode prog_10_method_24_code 32 = .ok (.iconst 1, 1) := by decide +kernel
theorem dq_isRest_33 : decode prog_10_method_24_code 33 = .ok (.iload_n 1, 1) := by decide +kernel
theorem dq_isRest_34 : decode prog_10_method_24_code 34 = .ok (.isub, 1) := by decide +kernel
theorem dq_isRest_35 : decode prog_10_method_24_code 35 = .ok (.iload_n 0, 1) := by decide +kernel
theorem dq_isRest_36 : decode prog_10_method_24_code 36 = .ok (.iload_n 2, 1) := by decide +kernel
theorem dq_isRest_37 : decode prog_10_method_24_code 37 = .ok (.iload_n 3, 1) := by decide +kernel
theorem dq_isRest_38 : decode prog_10_method_24_code 38 = .ok (.iload 4, 2) := by decide +kernel
theorem dq_isRest_40 : decode prog_10_method_24_code 40 = .ok (.invokestatic 166, 3) := by decide +kernel
theorem dq_isRest_43 : decode prog_10_method_24_code 43 = .ok (.if_icmp .lt 7, 3) := by decide +kernel
theorem dq_isRest_46 : decode prog_10_method_24_code 46 = .ok (.iconst 1, 1) := by decide +kernel
theorem dq_isRest_47 : decode prog_10_method_24_code 47 = .ok (.goto 4, 3) := by decide +kernel
theorem dq_isRest_50 : decode prog_10_method_24_code 50 = .ok (.iconst 0, 1) := by decide +kernel
theorem dq_isRest_51 : decode prog_10_method_24_code 51 = .ok (.ireturn, 1) := by decide +kernel
theorem dq_rests_0 : decode prog_1_method_39_code 0 = .ok (.iload_n 1, 1) := by decide +kernel
theorem dq_rests_1 : decode prog_1_method_39_code 1 = .ok (.iconst 0, 1) := by decide +kernel
theorem dq_rests_2 : decode prog_1_method_39_code 2 = .ok (.bipush 9, 2) := by decide +kernel
theorem dq_rests_4 : decode prog_1_method_39_code 4 = .ok (.invokestatic 145, 3) := by decide +kernel
theorem dq_rests_7 : decode prog_1_method_39_code 7 = .ok (.ifCond .eq 29, 3) := by decide +kernel
theorem dq_rests_10 : decode prog_1_method_39_code 10 = .ok (.iload_n 2, 1) := by decide +kernel
theorem dq_rests_11 : decode prog_1_method_39_code 11 = .ok (.iconst 0, 1) := by decide +kernel
theorem dq_rests_12 : decode prog_1_method_39_code 12 = .ok (.bipush 9, 2) := by decide +kernel
theorem dq_rests_14 : decode prog_1_method_39_code 14 = .ok (.invokestatic 145, 3) := by decide +kernel
theorem dq_rests_17 : decode prog_1_method_39_code 17 = .ok (.ifCond .eq 19, 3) := by decide +kernel
theorem dq_rests_20 : decode prog_1_method_39_code 20 = .ok (.iload_n 3, 1) := by decide +kernel
theorem dq_rests_21 : decode prog_1_method_39_code 21 = .ok (.iconst 0, 1) := by decide +kernel
theorem dq_rests_22 : decode prog_1_method_39_code 22 = .ok (.bipush 9, 2) := by decide +kernel
theorem dq_rests_24 : decode prog_1_method_39_code 24 = .ok (.invokestatic 145, 3) := by decide +kernel
theorem dq_rests_27 : decode prog_1_method_39_code 27 = .ok (.ifCond .eq 9, 3) := by decide +kernel
theorem dq_rests_30 : decode prog_1_method_39_code 30 = .ok (.iload 4, 2) := by decide +kernel
theorem dq_rests_32 : decode prog_1_method_39_code 32 = .ok (.iconst (-1), 1) := by decide +kernel
theorem dq_rests_33 : decode prog_1_method_39_code 33 = .ok (.if_icmp .ge 13, 3) := by decide +kernel
theorem dq_rests_36 : decode prog_1_method_39_code 36 = .ok (.new 251, 3) := by decide +kernel
theorem dq_rests_39 : decode prog_1_method_39_code 39 = .ok (.dup, 1) := by decide +kernel
theorem dq_rests_40 : decode prog_1_method_39_code 40 = .ok (.ldc 253, 2) := by decide +kernel
theorem dq_rests_42 : decode prog_1_method_39_code 42 = .ok (.invokespecial 255, 3) := by decide +kernel
theorem dq_rests_45 : decode prog_1_method_39_code 45 = .ok (.athrow, 1) := by decide +kernel
theorem dq_rests_46 : decode prog_1_method_39_code 46 = .ok (.iconst 0, 1) := by decide +kernel
theorem dq_rests_47 : decode prog_1_method_39_code 47 = .ok (.istore 5, 2) := by decide +kernel
theorem dq_rests_49 : decode prog_1_method_39_code 49 = .ok (.iconst 0, 1) := by decide +kernel
theorem dq_rests_50 : decode prog_1_method_39_code 50 = .ok (.istore 6, 2) := by decide +kernel
theorem dq_rests_52 : decode prog_1_method_39_code 52 = .ok (.iload 6, 2) := by decide +kernel
theorem dq_rests_54 : decode prog_1_method_39_code 54 = .ok (.iconst 4, 1) := by decide +kernel
theorem dq_rests_55 : decode prog_1_method_39_code 55 = .ok (.if_icmp .ge 39, 3) := by decide +kernel
theorem dq_rests_58 : decode prog_1_method_39_code 58 = .ok (.iload 6, 2) := by decide +kernel
theorem dq_rests_60 : decode prog_1_method_39_code 60 = .ok (.iconst 1, 1) := by decide +kernel
theorem dq_rests_61 : decode prog_1_method_39_code 61 = .ok (.ishr, 1) := by decide +kernel
theorem dq_rests_62 : decode prog_1_method_39_code 62 = .ok (.iload 6, 2) := by decide +kernel
theorem dq_rests_64 : decode prog_1_method_39_code 64 = .ok (.iconst 1, 1) := by decide +kernel
theorem dq_rests_65 : decode prog_1_method_39_code 65 = .ok (.iand, 1) := by decide +kernel
theorem dq_rests_66 : decode prog_1_method_39_code 66 = .ok (.iload_n 1, 1) := by decide +kernel
theorem dq_rests_67 : decode prog_1_method_39_code 67 = .ok (.iload_n 2, 1) := by decide +kernel
theorem dq_rests_68 : decode prog_1_method_39_code 68 = .ok (.iload_n 3, 1) := by decide +kernel
theorem dq_rests_69 : decode prog_1_method_39_code 69 = .ok (.invokestatic 258, 3) := by decide +kernel
theorem dq_rests_72 : decode prog_1_method_39_code 72 = .ok (.ifCond .eq 16, 3) := by decide +kernel
theorem dq_rests_75 : decode prog_1_method_39_code 75 = .ok (.iload 5, 2) := by decide +kernel
theorem dq_rests_77 : decode prog_1_method_39_code 77 = .ok (.iload 4, 2) := by decide +kernel
theorem dq_rests_79 : decode prog_1_method_39_code 79 = .ok (.if_icmp .ne 6, 3) := by decide +kernel
theorem dq_rests_82 : decode prog_1_method_39_code 82 = .ok (.iload 6, 2) := by decide +kernel
theorem dq_rests_84 : decode prog_1_method_39_code 84 = .ok (.ireturn, 1) := by decide +kernel
theorem dq_rests_85 : decode prog_1_method_39_code 85 = .ok (.iinc 5 1, 3) := by decide +kernel
theorem dq_rests_88 : decode prog_1_method_39_code 88 = .ok (.iinc 6 1, 3) := by decide +kernel
theorem dq_rests_91 : decode prog_1_method_39_code 91 = .ok (.goto (-39), 3) := by decide +kernel
theorem dq_rests_94 : decode prog_1_method_39_code 94 = .ok (.iload 4, 2) := by decide +kernel
theorem dq_rests_96 : decode prog_1_method_39_code 96 = .ok (.iconst (-1), 1) := by decide +kernel
theorem dq_rests_97 : decode prog_1_method_39_code 97 = .ok (.if_icmp .eq 14, 3) := by decide +kernel
theorem dq_rests_100 : decode prog_1_method_39_code 100 = .ok (.new 251, 3) := by decide +kernel
theorem dq_rests_103 : decode prog_1_method_39_code 103 = .ok (.dup, 1) := by decide +kernel
theorem dq_rests_104 : decode prog_1_method_39_code 104 = .ok (.ldc_w 262, 3) := by decide +kernel
theorem dq_rests_107 : decode prog_1_method_39_code 107 = .ok (.invokespecial 255, 3) := by decide +kernel
theorem dq_rests_110 : decode prog_1_method_39_code 110 = .ok (.athrow, 1) := by decide +kernel
theorem dq_rests_111 : decode prog_1_method_39_code 111 = .ok (.iload 5, 2) := by decide +kernel
theorem dq_rests_113 : decode prog_1_method_39_code 113 = .ok (.ireturn, 1) := by decide +kernel
theorem dq_law_0 : decode method_3_code 0 = .ok (.aload 5, 2) := by decide +kernel
theorem dq_law_2 : decode method_3_code 2 = .ok (.iconst 0, 1) := by decide +kernel
theorem dq_law_3 : decode method_3_code 3 = .ok (.aload_n 0, 1) := by decide +kernel
theorem dq_law_4 : decode method_3_code 4 = .ok (.iload_n 1, 1) := by decide +kernel
theorem dq_law_5 : decode method_3_code 5 = .ok (.iload_n 2, 1) := by decide +kernel
theorem dq_law_6 : decode method_3_code 6 = .ok (.iload_n 3, 1) := by decide +kernel
theorem dq_law_7 : decode method_3_code 7 = .ok (.iload 4, 2) := by decide +kernel
theorem dq_law_9 : decode method_3_code 9 = .ok (.invokevirtual 7, 3) := by decide +kernel
theorem dq_law_12 : decode method_3_code 12 = .ok (.i2l, 1) := by decide +kernel
theorem dq_law_13 : decode method_3_code 13 = .ok (.lastore, 1) := by decide +kernel
theorem dq_law_14 : decode method_3_code 14 = .ok (.goto 7, 3) := by decide +kernel
theorem dq_law_17 : decode method_3_code 17 = .ok (.astore 6, 2) := by decide +kernel
theorem dq_law_19 : decode method_3_code 19 = .ok (.iconst 1, 1) := by decide +kernel
theorem dq_law_20 : decode method_3_code 20 = .ok (.ireturn, 1) := by decide +kernel
theorem dq_law_21 : decode method_3_code 21 = .ok (.iconst 0, 1) := by decide +kernel
theorem dq_law_22 : decode method_3_code 22 = .ok (.ireturn, 1) := by decide +kernel
theorem dq_nse_0 : decode prog_29_method_4_code 0 = .ok (.aload_n 0, 1) := by decide +kernel
theorem dq_nse_1 : decode prog_29_method_4_code 1 = .ok (.aload_n 1, 1) := by decide +kernel
theorem dq_nse_2 : decode prog_29_method_4_code 2 = .ok (.invokespecial 13, 3) := by decide +kernel
theorem dq_nse_5 : decode prog_29_method_4_code 5 = .ok (.return_, 1) := by decide +kernel
