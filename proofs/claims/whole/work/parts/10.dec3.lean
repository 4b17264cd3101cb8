theorem dX10_ofPotter_49 : decode cX10_ofPotter 49 = .ok (.iconst 1, 1) := by decide +kernel
theorem dX10_ofPotter_50 : decode cX10_ofPotter 50 = .ok (.goto 4, 3) := by decide +kernel
theorem dX10_ofPotter_53 : decode cX10_ofPotter 53 = .ok (.iconst 0, 1) := by decide +kernel
theorem dX10_ofPotter_54 : decode cX10_ofPotter 54 = .ok (.invokevirtual 200, 3) := by decide +kernel
theorem dX10_ofPotter_57 : decode cX10_ofPotter 57 = .ok (.ireturn, 1) := by decide +kernel
theorem dX10_store_0 : decode cX10_store 0 = .ok (.aload_n 0, 1) := by decide +kernel
theorem dX10_store_1 : decode cX10_store 1 = .ok (.iload_n 1, 1) := by decide +kernel
theorem dX10_store_2 : decode cX10_store 2 = .ok (.invokevirtual 197, 3) := by decide +kernel
theorem dX10_store_5 : decode cX10_store 5 = .ok (.ifCond .eq 22, 3) := by decide +kernel
theorem dX10_store_8 : decode cX10_store 8 = .ok (.aload_n 0, 1) := by decide +kernel
theorem dX10_store_9 : decode cX10_store 9 = .ok (.iload_n 2, 1) := by decide +kernel
theorem dX10_store_10 : decode cX10_store 10 = .ok (.invokevirtual 171, 3) := by decide +kernel
theorem dX10_store_13 : decode cX10_store 13 = .ok (.ifCond .eq 14, 3) := by decide +kernel
theorem dX10_store_16 : decode cX10_store 16 = .ok (.iload_n 3, 1) := by decide +kernel
theorem dX10_store_17 : decode cX10_store 17 = .ok (.iconst 0, 1) := by decide +kernel
theorem dX10_store_18 : decode cX10_store 18 = .ok (.sipush 999, 3) := by decide +kernel
theorem dX10_store_21 : decode cX10_store 21 = .ok (.invokestatic 70, 3) := by decide +kernel
theorem dX10_store_24 : decode cX10_store 24 = .ok (.ifCond .ne 10, 3) := by decide +kernel
theorem dX10_store_27 : decode cX10_store 27 = .ok (.aload_n 0, 1) := by decide +kernel
theorem dX10_store_28 : decode cX10_store 28 = .ok (.ldc 74, 2) := by decide +kernel
theorem dX10_store_30 : decode cX10_store 30 = .ok (.invokevirtual 75, 3) := by decide +kernel
theorem dX10_store_33 : decode cX10_store 33 = .ok (.ireturn, 1) := by decide +kernel
theorem dX10_store_34 : decode cX10_store 34 = .ok (.aload_n 0, 1) := by decide +kernel
theorem dX10_store_35 : decode cX10_store 35 = .ok (.iload_n 1, 1) := by decide +kernel
theorem dX10_store_36 : decode cX10_store 36 = .ok (.iload_n 2, 1) := by decide +kernel
theorem dX10_store_37 : decode cX10_store 37 = .ok (.invokestatic 162, 3) := by decide +kernel
theorem dX10_store_40 : decode cX10_store 40 = .ok (.iload_n 3, 1) := by decide +kernel
theorem dX10_store_41 : decode cX10_store 41 = .ok (.invokevirtual 180, 3) := by decide +kernel
theorem dX10_store_44 : decode cX10_store 44 = .ok (.ireturn, 1) := by decide +kernel
theorem dX10_stored_0 : decode cX10_stored 0 = .ok (.aload_n 0, 1) := by decide +kernel
theorem dX10_stored_1 : decode cX10_stored 1 = .ok (.iload_n 1, 1) := by decide +kernel
theorem dX10_stored_2 : decode cX10_stored 2 = .ok (.invokevirtual 197, 3) := by decide +kernel
theorem dX10_stored_5 : decode cX10_stored 5 = .ok (.ifCond .eq 24, 3) := by decide +kernel
theorem dX10_stored_8 : decode cX10_stored 8 = .ok (.aload_n 0, 1) := by decide +kernel
theorem dX10_stored_9 : decode cX10_stored 9 = .ok (.iload_n 2, 1) := by decide +kernel
theorem dX10_stored_10 : decode cX10_stored 10 = .ok (.invokevirtual 171, 3) := by decide +kernel
theorem dX10_stored_13 : decode cX10_stored 13 = .ok (.ifCond .eq 16, 3) := by decide +kernel
theorem dX10_stored_16 : decode cX10_stored 16 = .ok (.aload_n 0, 1) := by decide +kernel
theorem dX10_stored_17 : decode cX10_stored 17 = .ok (.getfield 9, 3) := by decide +kernel
theorem dX10_stored_20 : decode cX10_stored 20 = .ok (.iload_n 1, 1) := by decide +kernel
theorem dX10_stored_21 : decode cX10_stored 21 = .ok (.iload_n 2, 1) := by decide +kernel
theorem dX10_stored_22 : decode cX10_stored 22 = .ok (.invokestatic 162, 3) := by decide +kernel
theorem dX10_stored_25 : decode cX10_stored 25 = .ok (.iaload, 1) := by decide +kernel
theorem dX10_stored_26 : decode cX10_stored 26 = .ok (.goto 9, 3) := by decide +kernel
theorem dX10_stored_29 : decode cX10_stored 29 = .ok (.aload_n 0, 1) := by decide +kernel
theorem dX10_stored_30 : decode cX10_stored 30 = .ok (.ldc 74, 2) := by decide +kernel
theorem dX10_stored_32 : decode cX10_stored 32 = .ok (.invokevirtual 75, 3) := by decide +kernel
theorem dX10_stored_35 : decode cX10_stored 35 = .ok (.ireturn, 1) := by decide +kernel
theorem dX10_colourOf_0 : decode cX10_colourOf 0 = .ok (.aload_n 0, 1) := by decide +kernel
theorem dX10_colourOf_1 : decode cX10_colourOf 1 = .ok (.iload_n 1, 1) := by decide +kernel
theorem dX10_colourOf_2 : decode cX10_colourOf 2 = .ok (.iconst 1, 1) := by decide +kernel
theorem dX10_colourOf_3 : decode cX10_colourOf 3 = .ok (.invokevirtual 177, 3) := by decide +kernel
theorem dX10_colourOf_6 : decode cX10_colourOf 6 = .ok (.istore_n 3, 1) := by decide +kernel
theorem dX10_colourOf_7 : decode cX10_colourOf 7 = .ok (.aload_n 0, 1) := by decide +kernel
theorem dX10_colourOf_8 : decode cX10_colourOf 8 = .ok (.iconst 0, 1) := by decide +kernel
theorem dX10_colourOf_9 : decode cX10_colourOf 9 = .ok (.iload_n 3, 1) := by decide +kernel
theorem dX10_colourOf_10 : decode cX10_colourOf 10 = .ok (.aload_n 0, 1) := by decide +kernel
theorem dX10_colourOf_11 : decode cX10_colourOf 11 = .ok (.iload_n 1, 1) := by decide +kernel
theorem dX10_colourOf_12 : decode cX10_colourOf 12 = .ok (.iconst 0, 1) := by decide +kernel
theorem dX10_colourOf_13 : decode cX10_colourOf 13 = .ok (.invokevirtual 177, 3) := by decide +kernel
theorem dX10_colourOf_16 : decode cX10_colourOf 16 = .ok (.iload_n 2, 1) := by decide +kernel
theorem dX10_colourOf_17 : decode cX10_colourOf 17 = .ok (.invokevirtual 152, 3) := by decide +kernel
theorem dX10_colourOf_20 : decode cX10_colourOf 20 = .ok (.istore 4, 2) := by decide +kernel
theorem dX10_colourOf_22 : decode cX10_colourOf 22 = .ok (.iload_n 2, 1) := by decide +kernel
theorem dX10_colourOf_23 : decode cX10_colourOf 23 = .ok (.iconst 5, 1) := by decide +kernel
theorem dX10_colourOf_24 : decode cX10_colourOf 24 = .ok (.if_icmp .ge 8, 3) := by decide +kernel
theorem dX10_colourOf_27 : decode cX10_colourOf 27 = .ok (.iload 4, 2) := by decide +kernel
theorem dX10_colourOf_29 : decode cX10_colourOf 29 = .ok (.goto 4, 3) := by decide +kernel
theorem dX10_colourOf_32 : decode cX10_colourOf 32 = .ok (.iload_n 3, 1) := by decide +kernel
theorem dX10_colourOf_33 : decode cX10_colourOf 33 = .ok (.istore 5, 2) := by decide +kernel
theorem dX10_colourOf_35 : decode cX10_colourOf 35 = .ok (.aload_n 0, 1) := by decide +kernel
theorem dX10_colourOf_36 : decode cX10_colourOf 36 = .ok (.iload_n 1, 1) := by decide +kernel
theorem dX10_colourOf_37 : decode cX10_colourOf 37 = .ok (.iconst 0, 1) := by decide +kernel
theorem dX10_colourOf_38 : decode cX10_colourOf 38 = .ok (.invokevirtual 177, 3) := by decide +kernel
theorem dX10_colourOf_41 : decode cX10_colourOf 41 = .ok (.tableswitch 72 1 6 #[39, 44, 49, 52, 59, 66], 39) := by decide +kernel
theorem dX10_colourOf_80 : decode cX10_colourOf 80 = .ok (.iload 4, 2) := by decide +kernel
theorem dX10_colourOf_82 : decode cX10_colourOf 82 = .ok (.iconst 1, 1) := by decide +kernel
theorem dX10_colourOf_83 : decode cX10_colourOf 83 = .ok (.iadd, 1) := by decide +kernel
theorem dX10_colourOf_84 : decode cX10_colourOf 84 = .ok (.ireturn, 1) := by decide +kernel
theorem dX10_colourOf_85 : decode cX10_colourOf 85 = .ok (.iconst 2, 1) := by decide +kernel
theorem dX10_colourOf_86 : decode cX10_colourOf 86 = .ok (.iload 4, 2) := by decide +kernel
theorem dX10_colourOf_88 : decode cX10_colourOf 88 = .ok (.imul, 1) := by decide +kernel
theorem dX10_colourOf_89 : decode cX10_colourOf 89 = .ok (.ireturn, 1) := by decide +kernel
theorem dX10_colourOf_90 : decode cX10_colourOf 90 = .ok (.iload 5, 2) := by decide +kernel
theorem dX10_colourOf_92 : decode cX10_colourOf 92 = .ok (.ireturn, 1) := by decide +kernel
theorem dX10_colourOf_93 : decode cX10_colourOf 93 = .ok (.iload 4, 2) := by decide +kernel
theorem dX10_colourOf_95 : decode cX10_colourOf 95 = .ok (.iconst 1, 1) := by decide +kernel
theorem dX10_colourOf_96 : decode cX10_colourOf 96 = .ok (.iadd, 1) := by decide +kernel
theorem dX10_colourOf_97 : decode cX10_colourOf 97 = .ok (.iload_n 2, 1) := by decide +kernel
theorem dX10_colourOf_98 : decode cX10_colourOf 98 = .ok (.iadd, 1) := by decide +kernel
theorem dX10_colourOf_99 : decode cX10_colourOf 99 = .ok (.ireturn, 1) := by decide +kernel
theorem dX10_colourOf_100 : decode cX10_colourOf 100 = .ok (.iconst 2, 1) := by decide +kernel
theorem dX10_colourOf_101 : decode cX10_colourOf 101 = .ok (.iload 4, 2) := by decide +kernel
theorem dX10_colourOf_103 : decode cX10_colourOf 103 = .ok (.imul, 1) := by decide +kernel
theorem dX10_colourOf_104 : decode cX10_colourOf 104 = .ok (.iload_n 3, 1) := by decide +kernel
theorem dX10_colourOf_105 : decode cX10_colourOf 105 = .ok (.isub, 1) := by decide +kernel
theorem dX10_colourOf_106 : decode cX10_colourOf 106 = .ok (.ireturn, 1) := by decide +kernel
theorem dX10_colourOf_107 : decode cX10_colourOf 107 = .ok (.bipush 9, 2) := by decide +kernel
theorem dX10_colourOf_109 : decode cX10_colourOf 109 = .ok (.iload 5, 2) := by decide +kernel
theorem dX10_colourOf_111 : decode cX10_colourOf 111 = .ok (.isub, 1) := by decide +kernel
theorem dX10_colourOf_112 : decode cX10_colourOf 112 = .ok (.ireturn, 1) := by decide +kernel
theorem dX10_colourOf_113 : decode cX10_colourOf 113 = .ok (.iload 4, 2) := by decide +kernel
theorem dX10_colourOf_115 : decode cX10_colourOf 115 = .ok (.ireturn, 1) := by decide +kernel
theorem dX10_rest_0 : decode cX10_rest 0 = .ok (.iload_n 0, 1) := by decide +kernel
theorem dX10_rest_1 : decode cX10_rest 1 = .ok (.bipush 10, 2) := by decide +kernel
theorem dX10_rest_3 : decode cX10_rest 3 = .ok (.irem, 1) := by decide +kernel
theorem dX10_rest_4 : decode cX10_rest 4 = .ok (.ifCond .ge 13, 3) := by decide +kernel
theorem dX10_rest_7 : decode cX10_rest 7 = .ok (.iload_n 0, 1) := by decide +kernel
theorem dX10_rest_8 : decode cX10_rest 8 = .ok (.bipush 10, 2) := by decide +kernel
theorem dX10_rest_10 : decode cX10_rest 10 = .ok (.irem, 1) := by decide +kernel
theorem dX10_rest_11 : decode cX10_rest 11 = .ok (.bipush 10, 2) := by decide +kernel
theorem dX10_rest_13 : decode cX10_rest 13 = .ok (.iadd, 1) := by decide +kernel
theorem dX10_rest_14 : decode cX10_rest 14 = .ok (.goto 7, 3) := by decide +kernel
theorem dX10_rest_17 : decode cX10_rest 17 = .ok (.iload_n 0, 1) := by decide +kernel
theorem dX10_rest_18 : decode cX10_rest 18 = .ok (.bipush 10, 2) := by decide +kernel
theorem dX10_rest_20 : decode cX10_rest 20 = .ok (.irem, 1) := by decide +kernel
theorem dX10_rest_21 : decode cX10_rest 21 = .ok (.ireturn, 1) := by decide +kernel
theorem dX10_digit_0 : decode cX10_digit 0 = .ok (.iload_n 0, 1) := by decide +kernel
theorem dX10_digit_1 : decode cX10_digit 1 = .ok (.istore_n 2, 1) := by decide +kernel
theorem dX10_digit_2 : decode cX10_digit 2 = .ok (.iconst 0, 1) := by decide +kernel
theorem dX10_digit_3 : decode cX10_digit 3 = .ok (.istore_n 3, 1) := by decide +kernel
theorem dX10_digit_4 : decode cX10_digit 4 = .ok (.iload_n 3, 1) := by decide +kernel
theorem dX10_digit_5 : decode cX10_digit 5 = .ok (.iload_n 1, 1) := by decide +kernel
theorem dX10_digit_6 : decode cX10_digit 6 = .ok (.if_icmp .ge 14, 3) := by decide +kernel
theorem dX10_digit_9 : decode cX10_digit 9 = .ok (.iload_n 2, 1) := by decide +kernel
theorem dX10_digit_10 : decode cX10_digit 10 = .ok (.bipush 10, 2) := by decide +kernel
theorem dX10_digit_12 : decode cX10_digit 12 = .ok (.idiv, 1) := by decide +kernel
theorem dX10_digit_13 : decode cX10_digit 13 = .ok (.istore_n 2, 1) := by decide +kernel
theorem dX10_digit_14 : decode cX10_digit 14 = .ok (.iinc 3 1, 3) := by decide +kernel
theorem dX10_digit_17 : decode cX10_digit 17 = .ok (.goto (-13), 3) := by decide +kernel
theorem dX10_digit_20 : decode cX10_digit 20 = .ok (.iload_n 2, 1) := by decide +kernel
theorem dX10_digit_21 : decode cX10_digit 21 = .ok (.bipush 10, 2) := by decide +kernel
theorem dX10_digit_23 : decode cX10_digit 23 = .ok (.irem, 1) := by decide +kernel
theorem dX10_digit_24 : decode cX10_digit 24 = .ok (.ireturn, 1) := by decide +kernel
theorem dX10_isMix_0 : decode cX10_isMix 0 = .ok (.iload_n 1, 1) := by decide +kernel
theorem dX10_isMix_1 : decode cX10_isMix 1 = .ok (.iconst 0, 1) := by decide +kernel
theorem dX10_isMix_2 : decode cX10_isMix 2 = .ok (.ldc 203, 2) := by decide +kernel
theorem dX10_isMix_4 : decode cX10_isMix 4 = .ok (.invokestatic 70, 3) := by decide +kernel
theorem dX10_isMix_7 : decode cX10_isMix 7 = .ok (.istore_n 2, 1) := by decide +kernel
theorem dX10_isMix_8 : decode cX10_isMix 8 = .ok (.aload_n 0, 1) := by decide +kernel
theorem dX10_isMix_9 : decode cX10_isMix 9 = .ok (.getfield 9, 3) := by decide +kernel
theorem dX10_isMix_12 : decode cX10_isMix 12 = .ok (.iconst 1, 1) := by decide +kernel
theorem dX10_isMix_13 : decode cX10_isMix 13 = .ok (.iaload, 1) := by decide +kernel
theorem dX10_isMix_14 : decode cX10_isMix 14 = .ok (.istore_n 3, 1) := by decide +kernel
theorem dX10_isMix_15 : decode cX10_isMix 15 = .ok (.iload_n 3, 1) := by decide +kernel
theorem dX10_isMix_16 : decode cX10_isMix 16 = .ok (.iconst 5, 1) := by decide +kernel
theorem dX10_isMix_17 : decode cX10_isMix 17 = .ok (.if_icmp .ge 27, 3) := by decide +kernel
theorem dX10_isMix_20 : decode cX10_isMix 20 = .ok (.iload_n 2, 1) := by decide +kernel
theorem dX10_isMix_21 : decode cX10_isMix 21 = .ok (.ifCond .eq 15, 3) := by decide +kernel
theorem dX10_isMix_24 : decode cX10_isMix 24 = .ok (.iload_n 1, 1) := by decide +kernel
theorem dX10_isMix_25 : decode cX10_isMix 25 = .ok (.iload_n 3, 1) := by decide +kernel
theorem dX10_isMix_26 : decode cX10_isMix 26 = .ok (.invokestatic 204, 3) := by decide +kernel
theorem dX10_isMix_29 : decode cX10_isMix 29 = .ok (.ifCond .ne 7, 3) := by decide +kernel
theorem dX10_isMix_32 : decode cX10_isMix 32 = .ok (.iconst 1, 1) := by decide +kernel
theorem dX10_isMix_33 : decode cX10_isMix 33 = .ok (.goto 4, 3) := by decide +kernel
theorem dX10_isMix_36 : decode cX10_isMix 36 = .ok (.iconst 0, 1) := by decide +kernel
theorem dX10_isMix_37 : decode cX10_isMix 37 = .ok (.istore_n 2, 1) := by decide +kernel
theorem dX10_isMix_38 : decode cX10_isMix 38 = .ok (.iinc 3 1, 3) := by decide +kernel
theorem dX10_isMix_41 : decode cX10_isMix 41 = .ok (.goto (-26), 3) := by decide +kernel
theorem dX10_isMix_44 : decode cX10_isMix 44 = .ok (.iload_n 2, 1) := by decide +kernel
theorem dX10_isMix_45 : decode cX10_isMix 45 = .ok (.ireturn, 1) := by decide +kernel
theorem dX10_isForbidden_0 : decode cX10_isForbidden 0 = .ok (.iconst 0, 1) := by decide +kernel
theorem dX10_isForbidden_1 : decode cX10_isForbidden 1 = .ok (.istore_n 3, 1) := by decide +kernel
theorem dX10_isForbidden_2 : decode cX10_isForbidden 2 = .ok (.iconst 0, 1) := by decide +kernel
theorem dX10_isForbidden_3 : decode cX10_isForbidden 3 = .ok (.istore 4, 2) := by decide +kernel
theorem dX10_isForbidden_5 : decode cX10_isForbidden 5 = .ok (.iload 4, 2) := by decide +kernel
theorem dX10_isForbidden_7 : decode cX10_isForbidden 7 = .ok (.aload_n 0, 1) := by decide +kernel
theorem dX10_isForbidden_8 : decode cX10_isForbidden 8 = .ok (.getfield 9, 3) := by decide +kernel
theorem dX10_isForbidden_11 : decode cX10_isForbidden 11 = .ok (.iconst 1, 1) := by decide +kernel
theorem dX10_isForbidden_12 : decode cX10_isForbidden 12 = .ok (.iaload, 1) := by decide +kernel
theorem dX10_isForbidden_13 : decode cX10_isForbidden 13 = .ok (.if_icmp .ge 79, 3) := by decide +kernel
theorem dX10_isForbidden_16 : decode cX10_isForbidden 16 = .ok (.aload_n 0, 1) := by decide +kernel
theorem dX10_isForbidden_17 : decode cX10_isForbidden 17 = .ok (.iload 4, 2) := by decide +kernel
theorem dX10_isForbidden_19 : decode cX10_isForbidden 19 = .ok (.iconst 0, 1) := by decide +kernel
theorem dX10_isForbidden_20 : decode cX10_isForbidden 20 = .ok (.invokevirtual 177, 3) := by decide +kernel
theorem dX10_isForbidden_23 : decode cX10_isForbidden 23 = .ok (.iconst 4, 1) := by decide +kernel
theorem dX10_isForbidden_24 : decode cX10_isForbidden 24 = .ok (.if_icmp .ne 9, 3) := by decide +kernel
theorem dX10_isForbidden_27 : decode cX10_isForbidden 27 = .ok (.iload_n 2, 1) := by decide +kernel
theorem dX10_isForbidden_28 : decode cX10_isForbidden 28 = .ok (.bipush 7, 2) := by decide +kernel
theorem dX10_isForbidden_30 : decode cX10_isForbidden 30 = .ok (.if_icmp .gt 25, 3) := by decide +kernel
theorem dX10_isForbidden_33 : decode cX10_isForbidden 33 = .ok (.aload_n 0, 1) := by decide +kernel
theorem dX10_isForbidden_34 : decode cX10_isForbidden 34 = .ok (.iload 4, 2) := by decide +kernel
theorem dX10_isForbidden_36 : decode cX10_isForbidden 36 = .ok (.iconst 0, 1) := by decide +kernel
theorem dX10_isForbidden_37 : decode cX10_isForbidden 37 = .ok (.invokevirtual 177, 3) := by decide +kernel
theorem dX10_isForbidden_40 : decode cX10_isForbidden 40 = .ok (.bipush 6, 2) := by decide +kernel
theorem dX10_isForbidden_42 : decode cX10_isForbidden 42 = .ok (.if_icmp .ne 17, 3) := by decide +kernel
theorem dX10_isForbidden_45 : decode cX10_isForbidden 45 = .ok (.aload_n 0, 1) := by decide +kernel
theorem dX10_isForbidden_46 : decode cX10_isForbidden 46 = .ok (.iload 4, 2) := by decide +kernel
theorem dX10_isForbidden_48 : decode cX10_isForbidden 48 = .ok (.iconst 1, 1) := by decide +kernel
theorem dX10_isForbidden_49 : decode cX10_isForbidden 49 = .ok (.invokevirtual 177, 3) := by decide +kernel
theorem dX10_isForbidden_52 : decode cX10_isForbidden 52 = .ok (.ifCond .ne 7, 3) := by decide +kernel
theorem dX10_isForbidden_55 : decode cX10_isForbidden 55 = .ok (.iconst 1, 1) := by decide +kernel
theorem dX10_isForbidden_56 : decode cX10_isForbidden 56 = .ok (.goto 4, 3) := by decide +kernel
theorem dX10_isForbidden_59 : decode cX10_isForbidden 59 = .ok (.iconst 0, 1) := by decide +kernel
theorem dX10_isForbidden_60 : decode cX10_isForbidden 60 = .ok (.istore 5, 2) := by decide +kernel
theorem dX10_isForbidden_62 : decode cX10_isForbidden 62 = .ok (.iload_n 3, 1) := by decide +kernel
theorem dX10_isForbidden_63 : decode cX10_isForbidden 63 = .ok (.ifCond .ne 17, 3) := by decide +kernel
theorem dX10_isForbidden_66 : decode cX10_isForbidden 66 = .ok (.iload 5, 2) := by decide +kernel
theorem dX10_isForbidden_68 : decode cX10_isForbidden 68 = .ok (.ifCond .eq 16, 3) := by decide +kernel
theorem dX10_isForbidden_71 : decode cX10_isForbidden 71 = .ok (.iload_n 1, 1) := by decide +kernel
theorem dX10_isForbidden_72 : decode cX10_isForbidden 72 = .ok (.iload 4, 2) := by decide +kernel
theorem dX10_isForbidden_74 : decode cX10_isForbidden 74 = .ok (.invokestatic 204, 3) := by decide +kernel
theorem dX10_isForbidden_77 : decode cX10_isForbidden 77 = .ok (.ifCond .le 7, 3) := by decide +kernel
theorem dX10_isForbidden_80 : decode cX10_isForbidden 80 = .ok (.iconst 1, 1) := by decide +kernel
theorem dX10_isForbidden_81 : decode cX10_isForbidden 81 = .ok (.goto 4, 3) := by decide +kernel
theorem dX10_isForbidden_84 : decode cX10_isForbidden 84 = .ok (.iconst 0, 1) := by decide +kernel
theorem dX10_isForbidden_85 : decode cX10_isForbidden 85 = .ok (.istore_n 3, 1) := by decide +kernel
theorem dX10_isForbidden_86 : decode cX10_isForbidden 86 = .ok (.iinc 4 1, 3) := by decide +kernel
theorem dX10_isForbidden_89 : decode cX10_isForbidden 89 = .ok (.goto (-84), 3) := by decide +kernel
theorem dX10_isForbidden_92 : decode cX10_isForbidden 92 = .ok (.iload_n 3, 1) := by decide +kernel
theorem dX10_isForbidden_93 : decode cX10_isForbidden 93 = .ok (.ireturn, 1) := by decide +kernel
theorem dX10_mixColour_0 : decode cX10_mixColour 0 = .ok (.iconst 0, 1) := by decide +kernel
theorem dX10_mixColour_1 : decode cX10_mixColour 1 = .ok (.istore_n 3, 1) := by decide +kernel
theorem dX10_mixColour_2 : decode cX10_mixColour 2 = .ok (.iconst 0, 1) := by decide +kernel
theorem dX10_mixColour_3 : decode cX10_mixColour 3 = .ok (.istore 4, 2) := by decide +kernel
theorem dX10_mixColour_5 : decode cX10_mixColour 5 = .ok (.iload 4, 2) := by decide +kernel
theorem dX10_mixColour_7 : decode cX10_mixColour 7 = .ok (.aload_n 0, 1) := by decide +kernel
theorem dX10_mixColour_8 : decode cX10_mixColour 8 = .ok (.getfield 9, 3) := by decide +kernel
theorem dX10_mixColour_11 : decode cX10_mixColour 11 = .ok (.iconst 1, 1) := by decide +kernel
theorem dX10_mixColour_12 : decode cX10_mixColour 12 = .ok (.iaload, 1) := by decide +kernel
theorem dX10_mixColour_13 : decode cX10_mixColour 13 = .ok (.if_icmp .ge 26, 3) := by decide +kernel
theorem dX10_mixColour_16 : decode cX10_mixColour 16 = .ok (.iload_n 3, 1) := by decide +kernel
theorem dX10_mixColour_17 : decode cX10_mixColour 17 = .ok (.iload_n 1, 1) := by decide +kernel
theorem dX10_mixColour_18 : decode cX10_mixColour 18 = .ok (.iload 4, 2) := by decide +kernel
theorem dX10_mixColour_20 : decode cX10_mixColour 20 = .ok (.invokestatic 204, 3) := by decide +kernel
theorem dX10_mixColour_23 : decode cX10_mixColour 23 = .ok (.aload_n 0, 1) := by decide +kernel
theorem dX10_mixColour_24 : decode cX10_mixColour 24 = .ok (.iload 4, 2) := by decide +kernel
theorem dX10_mixColour_26 : decode cX10_mixColour 26 = .ok (.iload_n 2, 1) := by decide +kernel
theorem dX10_mixColour_27 : decode cX10_mixColour 27 = .ok (.invokevirtual 207, 3) := by decide +kernel
theorem dX10_mixColour_30 : decode cX10_mixColour 30 = .ok (.imul, 1) := by decide +kernel
theorem dX10_mixColour_31 : decode cX10_mixColour 31 = .ok (.iadd, 1) := by decide +kernel
theorem dX10_mixColour_32 : decode cX10_mixColour 32 = .ok (.istore_n 3, 1) := by decide +kernel
theorem dX10_mixColour_33 : decode cX10_mixColour 33 = .ok (.iinc 4 1, 3) := by decide +kernel
theorem dX10_mixColour_36 : decode cX10_mixColour 36 = .ok (.goto (-31), 3) := by decide +kernel
theorem dX10_mixColour_39 : decode cX10_mixColour 39 = .ok (.iload_n 3, 1) := by decide +kernel
theorem dX10_mixColour_40 : decode cX10_mixColour 40 = .ok (.invokestatic 210, 3) := by decide +kernel
theorem dX10_mixColour_43 : decode cX10_mixColour 43 = .ok (.ireturn, 1) := by decide +kernel
theorem dX10_colour_0 : decode cX10_colour 0 = .ok (.aload_n 0, 1) := by decide +kernel
theorem dX10_colour_1 : decode cX10_colour 1 = .ok (.iload_n 1, 1) := by decide +kernel
theorem dX10_colour_2 : decode cX10_colour 2 = .ok (.invokevirtual 213, 3) := by decide +kernel
theorem dX10_colour_5 : decode cX10_colour 5 = .ok (.ifCond .eq 10, 3) := by decide +kernel
theorem dX10_colour_8 : decode cX10_colour 8 = .ok (.iload_n 2, 1) := by decide +kernel
theorem dX10_colour_9 : decode cX10_colour 9 = .ok (.invokestatic 216, 3) := by decide +kernel
theorem dX10_colour_12 : decode cX10_colour 12 = .ok (.ifCond .ne 10, 3) := by decide +kernel
theorem dX10_colour_15 : decode cX10_colour 15 = .ok (.aload_n 0, 1) := by decide +kernel
theorem dX10_colour_16 : decode cX10_colour 16 = .ok (.ldc 74, 2) := by decide +kernel
theorem dX10_colour_18 : decode cX10_colour 18 = .ok (.invokevirtual 75, 3) := by decide +kernel
theorem dX10_colour_21 : decode cX10_colour 21 = .ok (.ireturn, 1) := by decide +kernel
theorem dX10_colour_22 : decode cX10_colour 22 = .ok (.aload_n 0, 1) := by decide +kernel
theorem dX10_colour_23 : decode cX10_colour 23 = .ok (.iload_n 1, 1) := by decide +kernel
theorem dX10_colour_24 : decode cX10_colour 24 = .ok (.iload_n 2, 1) := by decide +kernel
theorem dX10_colour_25 : decode cX10_colour 25 = .ok (.invokevirtual 219, 3) := by decide +kernel
theorem dX10_colour_28 : decode cX10_colour 28 = .ok (.ifCond .eq 12, 3) := by decide +kernel
theorem dX10_colour_31 : decode cX10_colour 31 = .ok (.aload_n 0, 1) := by decide +kernel
theorem dX10_colour_32 : decode cX10_colour 32 = .ok (.ldc 190, 2) := by decide +kernel
theorem dX10_colour_34 : decode cX10_colour 34 = .ok (.invokevirtual 75, 3) := by decide +kernel
theorem dX10_colour_37 : decode cX10_colour 37 = .ok (.goto 9, 3) := by decide +kernel
theorem dX10_colour_40 : decode cX10_colour 40 = .ok (.aload_n 0, 1) := by decide +kernel
theorem dX10_colour_41 : decode cX10_colour 41 = .ok (.iload_n 1, 1) := by decide +kernel
theorem dX10_colour_42 : decode cX10_colour 42 = .ok (.iload_n 2, 1) := by decide +kernel
theorem dX10_colour_43 : decode cX10_colour 43 = .ok (.invokevirtual 222, 3) := by decide +kernel
theorem dX10_colour_46 : decode cX10_colour 46 = .ok (.ireturn, 1) := by decide +kernel
theorem dX10_hasAll_0 : decode cX10_hasAll 0 = .ok (.iconst 1, 1) := by decide +kernel
theorem dX10_hasAll_1 : decode cX10_hasAll 1 = .ok (.istore_n 3, 1) := by decide +kernel
theorem dX10_hasAll_2 : decode cX10_hasAll 2 = .ok (.iconst 0, 1) := by decide +kernel
theorem dX10_hasAll_3 : decode cX10_hasAll 3 = .ok (.istore 4, 2) := by decide +kernel
theorem dX10_hasAll_5 : decode cX10_hasAll 5 = .ok (.iload 4, 2) := by decide +kernel
theorem dX10_hasAll_7 : decode cX10_hasAll 7 = .ok (.aload_n 0, 1) := by decide +kernel
theorem dX10_hasAll_8 : decode cX10_hasAll 8 = .ok (.getfield 9, 3) := by decide +kernel
theorem dX10_hasAll_11 : decode cX10_hasAll 11 = .ok (.iconst 1, 1) := by decide +kernel
theorem dX10_hasAll_12 : decode cX10_hasAll 12 = .ok (.iaload, 1) := by decide +kernel
theorem dX10_hasAll_13 : decode cX10_hasAll 13 = .ok (.if_icmp .ge 39, 3) := by decide +kernel
theorem dX10_hasAll_16 : decode cX10_hasAll 16 = .ok (.iload_n 3, 1) := by decide +kernel
theorem dX10_hasAll_17 : decode cX10_hasAll 17 = .ok (.ifCond .eq 27, 3) := by decide +kernel
theorem dX10_hasAll_20 : decode cX10_hasAll 20 = .ok (.aload_n 0, 1) := by decide +kernel
theorem dX10_hasAll_21 : decode cX10_hasAll 21 = .ok (.getfield 9, 3) := by decide +kernel
theorem dX10_hasAll_24 : decode cX10_hasAll 24 = .ok (.iload_n 1, 1) := by decide +kernel
theorem dX10_hasAll_25 : decode cX10_hasAll 25 = .ok (.iload 4, 2) := by decide +kernel
theorem dX10_hasAll_27 : decode cX10_hasAll 27 = .ok (.invokestatic 162, 3) := by decide +kernel
theorem dX10_hasAll_30 : decode cX10_hasAll 30 = .ok (.iaload, 1) := by decide +kernel
theorem dX10_hasAll_31 : decode cX10_hasAll 31 = .ok (.iload_n 2, 1) := by decide +kernel
theorem dX10_hasAll_32 : decode cX10_hasAll 32 = .ok (.iload 4, 2) := by decide +kernel
theorem dX10_hasAll_34 : decode cX10_hasAll 34 = .ok (.invokestatic 204, 3) := by decide +kernel
theorem dX10_hasAll_37 : decode cX10_hasAll 37 = .ok (.if_icmp .lt 7, 3) := by decide +kernel
theorem dX10_hasAll_40 : decode cX10_hasAll 40 = .ok (.iconst 1, 1) := by decide +kernel
theorem dX10_hasAll_41 : decode cX10_hasAll 41 = .ok (.goto 4, 3) := by decide +kernel
theorem dX10_hasAll_44 : decode cX10_hasAll 44 = .ok (.iconst 0, 1) := by decide +kernel
theorem dX10_hasAll_45 : decode cX10_hasAll 45 = .ok (.istore_n 3, 1) := by decide +kernel
theorem dX10_hasAll_46 : decode cX10_hasAll 46 = .ok (.iinc 4 1, 3) := by decide +kernel
theorem dX10_hasAll_49 : decode cX10_hasAll 49 = .ok (.goto (-44), 3) := by decide +kernel
theorem dX10_hasAll_52 : decode cX10_hasAll 52 = .ok (.iload_n 3, 1) := by decide +kernel
theorem dX10_hasAll_53 : decode cX10_hasAll 53 = .ok (.ireturn, 1) := by decide +kernel
theorem dX10_firesNow_0 : decode cX10_firesNow 0 = .ok (.iconst 0, 1) := by decide +kernel
theorem dX10_firesNow_1 : decode cX10_firesNow 1 = .ok (.istore 4, 2) := by decide +kernel
theorem dX10_firesNow_3 : decode cX10_firesNow 3 = .ok (.iload 4, 2) := by decide +kernel
theorem dX10_firesNow_5 : decode cX10_firesNow 5 = .ok (.aload_n 0, 1) := by decide +kernel
theorem dX10_firesNow_6 : decode cX10_firesNow 6 = .ok (.getfield 9, 3) := by decide +kernel
theorem dX10_firesNow_9 : decode cX10_firesNow 9 = .ok (.iconst 1, 1) := by decide +kernel
theorem dX10_firesNow_10 : decode cX10_firesNow 10 = .ok (.iaload, 1) := by decide +kernel
theorem dX10_firesNow_11 : decode cX10_firesNow 11 = .ok (.if_icmp .ge 29, 3) := by decide +kernel
theorem dX10_firesNow_14 : decode cX10_firesNow 14 = .ok (.aload_n 0, 1) := by decide +kernel
theorem dX10_firesNow_15 : decode cX10_firesNow 15 = .ok (.getfield 9, 3) := by decide +kernel
theorem dX10_firesNow_18 : decode cX10_firesNow 18 = .ok (.iload_n 1, 1) := by decide +kernel
theorem dX10_firesNow_19 : decode cX10_firesNow 19 = .ok (.iload 4, 2) := by decide +kernel
theorem dX10_firesNow_21 : decode cX10_firesNow 21 = .ok (.invokestatic 162, 3) := by decide +kernel
theorem dX10_firesNow_24 : decode cX10_firesNow 24 = .ok (.dup2, 1) := by decide +kernel
theorem dX10_firesNow_25 : decode cX10_firesNow 25 = .ok (.iaload, 1) := by decide +kernel
theorem dX10_firesNow_26 : decode cX10_firesNow 26 = .ok (.iload_n 2, 1) := by decide +kernel
theorem dX10_firesNow_27 : decode cX10_firesNow 27 = .ok (.iload 4, 2) := by decide +kernel
theorem dX10_firesNow_29 : decode cX10_firesNow 29 = .ok (.invokestatic 204, 3) := by decide +kernel
theorem dX10_firesNow_32 : decode cX10_firesNow 32 = .ok (.isub, 1) := by decide +kernel
theorem dX10_firesNow_33 : decode cX10_firesNow 33 = .ok (.iastore, 1) := by decide +kernel
theorem dX10_firesNow_34 : decode cX10_firesNow 34 = .ok (.iinc 4 1, 3) := by decide +kernel
theorem dX10_firesNow_37 : decode cX10_firesNow 37 = .ok (.goto (-34), 3) := by decide +kernel
theorem dX10_firesNow_40 : decode cX10_firesNow 40 = .ok (.aload_n 0, 1) := by decide +kernel
theorem dX10_firesNow_41 : decode cX10_firesNow 41 = .ok (.getfield 9, 3) := by decide +kernel
theorem dX10_firesNow_44 : decode cX10_firesNow 44 = .ok (.iload_n 1, 1) := by decide +kernel
theorem dX10_firesNow_45 : decode cX10_firesNow 45 = .ok (.iconst 0, 1) := by decide +kernel
theorem dX10_firesNow_46 : decode cX10_firesNow 46 = .ok (.invokestatic 191, 3) := by decide +kernel
theorem dX10_firesNow_49 : decode cX10_firesNow 49 = .ok (.sipush 9999, 3) := by decide +kernel
theorem dX10_firesNow_52 : decode cX10_firesNow 52 = .ok (.aload_n 0, 1) := by decide +kernel
theorem dX10_firesNow_53 : decode cX10_firesNow 53 = .ok (.getfield 9, 3) := by decide +kernel
theorem dX10_firesNow_56 : decode cX10_firesNow 56 = .ok (.iload_n 1, 1) := by decide +kernel
theorem dX10_firesNow_57 : decode cX10_firesNow 57 = .ok (.iconst 0, 1) := by decide +kernel
theorem dX10_firesNow_58 : decode cX10_firesNow 58 = .ok (.invokestatic 191, 3) := by decide +kernel
theorem dX10_firesNow_61 : decode cX10_firesNow 61 = .ok (.iaload, 1) := by decide +kernel
theorem dX10_firesNow_62 : decode cX10_firesNow 62 = .ok (.iconst 1, 1) := by decide +kernel
theorem dX10_firesNow_63 : decode cX10_firesNow 63 = .ok (.iadd, 1) := by decide +kernel
theorem dX10_firesNow_64 : decode cX10_firesNow 64 = .ok (.invokestatic 57, 3) := by decide +kernel
theorem dX10_firesNow_67 : decode cX10_firesNow 67 = .ok (.iastore, 1) := by decide +kernel
theorem dX10_firesNow_68 : decode cX10_firesNow 68 = .ok (.aload_n 0, 1) := by decide +kernel
theorem dX10_firesNow_69 : decode cX10_firesNow 69 = .ok (.iload_n 2, 1) := by decide +kernel
theorem dX10_firesNow_70 : decode cX10_firesNow 70 = .ok (.iload_n 3, 1) := by decide +kernel
theorem dX10_firesNow_71 : decode cX10_firesNow 71 = .ok (.invokevirtual 222, 3) := by decide +kernel
theorem dX10_firesNow_74 : decode cX10_firesNow 74 = .ok (.ireturn, 1) := by decide +kernel
theorem dX10_fire_0 : decode cX10_fire 0 = .ok (.aload_n 0, 1) := by decide +kernel
theorem dX10_fire_1 : decode cX10_fire 1 = .ok (.iload_n 1, 1) := by decide +kernel
theorem dX10_fire_2 : decode cX10_fire 2 = .ok (.invokevirtual 197, 3) := by decide +kernel
theorem dX10_fire_5 : decode cX10_fire 5 = .ok (.ifCond .eq 18, 3) := by decide +kernel
theorem dX10_fire_8 : decode cX10_fire 8 = .ok (.aload_n 0, 1) := by decide +kernel
theorem dX10_fire_9 : decode cX10_fire 9 = .ok (.iload_n 2, 1) := by decide +kernel
theorem dX10_fire_10 : decode cX10_fire 10 = .ok (.invokevirtual 213, 3) := by decide +kernel
theorem dX10_fire_13 : decode cX10_fire 13 = .ok (.ifCond .eq 10, 3) := by decide +kernel
theorem dX10_fire_16 : decode cX10_fire 16 = .ok (.iload_n 3, 1) := by decide +kernel
theorem dX10_fire_17 : decode cX10_fire 17 = .ok (.invokestatic 216, 3) := by decide +kernel
theorem dX10_fire_20 : decode cX10_fire 20 = .ok (.ifCond .ne 10, 3) := by decide +kernel
theorem dX10_fire_23 : decode cX10_fire 23 = .ok (.aload_n 0, 1) := by decide +kernel
theorem dX10_fire_24 : decode cX10_fire 24 = .ok (.ldc 74, 2) := by decide +kernel
theorem dX10_fire_26 : decode cX10_fire 26 = .ok (.invokevirtual 75, 3) := by decide +kernel
theorem dX10_fire_29 : decode cX10_fire 29 = .ok (.ireturn, 1) := by decide +kernel
theorem dX10_fire_30 : decode cX10_fire 30 = .ok (.iload_n 2, 1) := by decide +kernel
theorem dX10_fire_31 : decode cX10_fire 31 = .ok (.ifCond .ne 10, 3) := by decide +kernel
theorem dX10_fire_34 : decode cX10_fire 34 = .ok (.aload_n 0, 1) := by decide +kernel
theorem dX10_fire_35 : decode cX10_fire 35 = .ok (.ldc 225, 2) := by decide +kernel
theorem dX10_fire_37 : decode cX10_fire 37 = .ok (.invokevirtual 75, 3) := by decide +kernel
theorem dX10_fire_40 : decode cX10_fire 40 = .ok (.ireturn, 1) := by decide +kernel
theorem dX10_fire_41 : decode cX10_fire 41 = .ok (.aload_n 0, 1) := by decide +kernel
theorem dX10_fire_42 : decode cX10_fire 42 = .ok (.iload_n 1, 1) := by decide +kernel
theorem dX10_fire_43 : decode cX10_fire 43 = .ok (.iload_n 2, 1) := by decide +kernel
theorem dX10_fire_44 : decode cX10_fire 44 = .ok (.invokevirtual 226, 3) := by decide +kernel
theorem dX10_fire_47 : decode cX10_fire 47 = .ok (.ifCond .ne 10, 3) := by decide +kernel
theorem dX10_fire_50 : decode cX10_fire 50 = .ok (.aload_n 0, 1) := by decide +kernel
theorem dX10_fire_51 : decode cX10_fire 51 = .ok (.ldc 229, 2) := by decide +kernel
theorem dX10_fire_53 : decode cX10_fire 53 = .ok (.invokevirtual 75, 3) := by decide +kernel
theorem dX10_fire_56 : decode cX10_fire 56 = .ok (.ireturn, 1) := by decide +kernel
theorem dX10_fire_57 : decode cX10_fire 57 = .ok (.aload_n 0, 1) := by decide +kernel
theorem dX10_fire_58 : decode cX10_fire 58 = .ok (.iload_n 2, 1) := by decide +kernel
theorem dX10_fire_59 : decode cX10_fire 59 = .ok (.iload_n 3, 1) := by decide +kernel
theorem dX10_fire_60 : decode cX10_fire 60 = .ok (.invokevirtual 219, 3) := by decide +kernel
theorem dX10_fire_63 : decode cX10_fire 63 = .ok (.ifCond .eq 12, 3) := by decide +kernel
theorem dX10_fire_66 : decode cX10_fire 66 = .ok (.aload_n 0, 1) := by decide +kernel
theorem dX10_fire_67 : decode cX10_fire 67 = .ok (.ldc 190, 2) := by decide +kernel
theorem dX10_fire_69 : decode cX10_fire 69 = .ok (.invokevirtual 75, 3) := by decide +kernel
theorem dX10_fire_72 : decode cX10_fire 72 = .ok (.goto 10, 3) := by decide +kernel
theorem dX10_fire_75 : decode cX10_fire 75 = .ok (.aload_n 0, 1) := by decide +kernel
theorem dX10_fire_76 : decode cX10_fire 76 = .ok (.iload_n 1, 1) := by decide +kernel
theorem dX10_fire_77 : decode cX10_fire 77 = .ok (.iload_n 2, 1) := by decide +kernel
theorem dX10_fire_78 : decode cX10_fire 78 = .ok (.iload_n 3, 1) := by decide +kernel
theorem dX10_fire_79 : decode cX10_fire 79 = .ok (.invokevirtual 230, 3) := by decide +kernel
theorem dX10_fire_82 : decode cX10_fire 82 = .ok (.ireturn, 1) := by decide +kernel
theorem dX10_lendNow_0 : decode cX10_lendNow 0 = .ok (.aload_n 0, 1) := by decide +kernel
theorem dX10_lendNow_1 : decode cX10_lendNow 1 = .ok (.getfield 9, 3) := by decide +kernel
theorem dX10_lendNow_4 : decode cX10_lendNow 4 = .ok (.iconst 3, 1) := by decide +kernel
theorem dX10_lendNow_5 : decode cX10_lendNow 5 = .ok (.iaload, 1) := by decide +kernel
theorem dX10_lendNow_6 : decode cX10_lendNow 6 = .ok (.istore 6, 2) := by decide +kernel
theorem dX10_lendNow_8 : decode cX10_lendNow 8 = .ok (.aload_n 0, 1) := by decide +kernel
theorem dX10_lendNow_9 : decode cX10_lendNow 9 = .ok (.getfield 9, 3) := by decide +kernel
theorem dX10_lendNow_12 : decode cX10_lendNow 12 = .ok (.iload_n 1, 1) := by decide +kernel
theorem dX10_lendNow_13 : decode cX10_lendNow 13 = .ok (.iload_n 3, 1) := by decide +kernel
theorem dX10_lendNow_14 : decode cX10_lendNow 14 = .ok (.invokestatic 162, 3) := by decide +kernel
theorem dX10_lendNow_17 : decode cX10_lendNow 17 = .ok (.dup2, 1) := by decide +kernel
theorem dX10_lendNow_18 : decode cX10_lendNow 18 = .ok (.iaload, 1) := by decide +kernel
theorem dX10_lendNow_19 : decode cX10_lendNow 19 = .ok (.iload 4, 2) := by decide +kernel
theorem dX10_lendNow_21 : decode cX10_lendNow 21 = .ok (.isub, 1) := by decide +kernel
theorem dX10_lendNow_22 : decode cX10_lendNow 22 = .ok (.iastore, 1) := by decide +kernel
theorem dX10_lendNow_23 : decode cX10_lendNow 23 = .ok (.aload_n 0, 1) := by decide +kernel
theorem dX10_lendNow_24 : decode cX10_lendNow 24 = .ok (.getfield 9, 3) := by decide +kernel
theorem dX10_lendNow_27 : decode cX10_lendNow 27 = .ok (.iload_n 2, 1) := by decide +kernel
theorem dX10_lendNow_28 : decode cX10_lendNow 28 = .ok (.iload_n 3, 1) := by decide +kernel
theorem dX10_lendNow_29 : decode cX10_lendNow 29 = .ok (.invokestatic 162, 3) := by decide +kernel
theorem dX10_lendNow_32 : decode cX10_lendNow 32 = .ok (.dup2, 1) := by decide +kernel
theorem dX10_lendNow_33 : decode cX10_lendNow 33 = .ok (.iaload, 1) := by decide +kernel
theorem dX10_lendNow_34 : decode cX10_lendNow 34 = .ok (.iload 4, 2) := by decide +kernel
theorem dX10_lendNow_36 : decode cX10_lendNow 36 = .ok (.iadd, 1) := by decide +kernel
theorem dX10_lendNow_37 : decode cX10_lendNow 37 = .ok (.iastore, 1) := by decide +kernel
theorem dX10_lendNow_38 : decode cX10_lendNow 38 = .ok (.aload_n 0, 1) := by decide +kernel
theorem dX10_lendNow_39 : decode cX10_lendNow 39 = .ok (.getfield 9, 3) := by decide +kernel
theorem dX10_lendNow_42 : decode cX10_lendNow 42 = .ok (.iload 6, 2) := by decide +kernel
theorem dX10_lendNow_44 : decode cX10_lendNow 44 = .ok (.iconst 0, 1) := by decide +kernel
theorem dX10_lendNow_45 : decode cX10_lendNow 45 = .ok (.invokestatic 159, 3) := by decide +kernel
theorem dX10_lendNow_48 : decode cX10_lendNow 48 = .ok (.iload_n 1, 1) := by decide +kernel
theorem dX10_lendNow_49 : decode cX10_lendNow 49 = .ok (.iastore, 1) := by decide +kernel
theorem dX10_lendNow_50 : decode cX10_lendNow 50 = .ok (.aload_n 0, 1) := by decide +kernel
theorem dX10_lendNow_51 : decode cX10_lendNow 51 = .ok (.getfield 9, 3) := by decide +kernel
theorem dX10_lendNow_54 : decode cX10_lendNow 54 = .ok (.iload 6, 2) := by decide +kernel
theorem dX10_lendNow_56 : decode cX10_lendNow 56 = .ok (.iconst 1, 1) := by decide +kernel
theorem dX10_lendNow_57 : decode cX10_lendNow 57 = .ok (.invokestatic 159, 3) := by decide +kernel
theorem dX10_lendNow_60 : decode cX10_lendNow 60 = .ok (.iload_n 2, 1) := by decide +kernel
theorem dX10_lendNow_61 : decode cX10_lendNow 61 = .ok (.iastore, 1) := by decide +kernel
theorem dX10_lendNow_62 : decode cX10_lendNow 62 = .ok (.aload_n 0, 1) := by decide +kernel
theorem dX10_lendNow_63 : decode cX10_lendNow 63 = .ok (.getfield 9, 3) := by decide +kernel
theorem dX10_lendNow_66 : decode cX10_lendNow 66 = .ok (.iload 6, 2) := by decide +kernel
theorem dX10_lendNow_68 : decode cX10_lendNow 68 = .ok (.iconst 2, 1) := by decide +kernel
theorem dX10_lendNow_69 : decode cX10_lendNow 69 = .ok (.invokestatic 159, 3) := by decide +kernel
theorem dX10_lendNow_72 : decode cX10_lendNow 72 = .ok (.iload_n 3, 1) := by decide +kernel
theorem dX10_lendNow_73 : decode cX10_lendNow 73 = .ok (.iastore, 1) := by decide +kernel
theorem dX10_lendNow_74 : decode cX10_lendNow 74 = .ok (.aload_n 0, 1) := by decide +kernel
theorem dX10_lendNow_75 : decode cX10_lendNow 75 = .ok (.getfield 9, 3) := by decide +kernel
theorem dX10_lendNow_78 : decode cX10_lendNow 78 = .ok (.iload 6, 2) := by decide +kernel
theorem dX10_lendNow_80 : decode cX10_lendNow 80 = .ok (.iconst 3, 1) := by decide +kernel
theorem dX10_lendNow_81 : decode cX10_lendNow 81 = .ok (.invokestatic 159, 3) := by decide +kernel
theorem dX10_lendNow_84 : decode cX10_lendNow 84 = .ok (.iload 4, 2) := by decide +kernel
theorem dX10_lendNow_86 : decode cX10_lendNow 86 = .ok (.iastore, 1) := by decide +kernel
theorem dX10_lendNow_87 : decode cX10_lendNow 87 = .ok (.aload_n 0, 1) := by decide +kernel
theorem dX10_lendNow_88 : decode cX10_lendNow 88 = .ok (.getfield 9, 3) := by decide +kernel
theorem dX10_lendNow_91 : decode cX10_lendNow 91 = .ok (.iload 6, 2) := by decide +kernel
theorem dX10_lendNow_93 : decode cX10_lendNow 93 = .ok (.iconst 4, 1) := by decide +kernel
theorem dX10_lendNow_94 : decode cX10_lendNow 94 = .ok (.invokestatic 159, 3) := by decide +kernel
theorem dX10_lendNow_97 : decode cX10_lendNow 97 = .ok (.aload_n 0, 1) := by decide +kernel
theorem dX10_lendNow_98 : decode cX10_lendNow 98 = .ok (.getfield 9, 3) := by decide +kernel
theorem dX10_lendNow_101 : decode cX10_lendNow 101 = .ok (.iconst 0, 1) := by decide +kernel
theorem dX10_lendNow_102 : decode cX10_lendNow 102 = .ok (.iaload, 1) := by decide +kernel
theorem dX10_lendNow_103 : decode cX10_lendNow 103 = .ok (.iload 5, 2) := by decide +kernel
theorem dX10_lendNow_105 : decode cX10_lendNow 105 = .ok (.iadd, 1) := by decide +kernel
theorem dX10_lendNow_106 : decode cX10_lendNow 106 = .ok (.iastore, 1) := by decide +kernel
theorem dX10_lendNow_107 : decode cX10_lendNow 107 = .ok (.aload_n 0, 1) := by decide +kernel
theorem dX10_lendNow_108 : decode cX10_lendNow 108 = .ok (.getfield 9, 3) := by decide +kernel
theorem dX10_lendNow_111 : decode cX10_lendNow 111 = .ok (.iconst 3, 1) := by decide +kernel
theorem dX10_lendNow_112 : decode cX10_lendNow 112 = .ok (.dup2, 1) := by decide +kernel
theorem dX10_lendNow_113 : decode cX10_lendNow 113 = .ok (.iaload, 1) := by decide +kernel
theorem dX10_lendNow_114 : decode cX10_lendNow 114 = .ok (.iconst 1, 1) := by decide +kernel
theorem dX10_lendNow_115 : decode cX10_lendNow 115 = .ok (.iadd, 1) := by decide +kernel
theorem dX10_lendNow_116 : decode cX10_lendNow 116 = .ok (.iastore, 1) := by decide +kernel
theorem dX10_lendNow_117 : decode cX10_lendNow 117 = .ok (.iload 6, 2) := by decide +kernel
theorem dX10_lendNow_119 : decode cX10_lendNow 119 = .ok (.ireturn, 1) := by decide +kernel
theorem dX10_canLend_0 : decode cX10_canLend 0 = .ok (.aload_n 0, 1) := by decide +kernel
theorem dX10_canLend_1 : decode cX10_canLend 1 = .ok (.getfield 9, 3) := by decide +kernel
theorem dX10_canLend_4 : decode cX10_canLend 4 = .ok (.iload_n 1, 1) := by decide +kernel
theorem dX10_canLend_5 : decode cX10_canLend 5 = .ok (.iload_n 3, 1) := by decide +kernel
theorem dX10_canLend_6 : decode cX10_canLend 6 = .ok (.invokestatic 162, 3) := by decide +kernel
theorem dX10_canLend_9 : decode cX10_canLend 9 = .ok (.iaload, 1) := by decide +kernel
theorem dX10_canLend_10 : decode cX10_canLend 10 = .ok (.iload 4, 2) := by decide +kernel
theorem dX10_canLend_12 : decode cX10_canLend 12 = .ok (.if_icmp .lt 26, 3) := by decide +kernel
theorem dX10_canLend_15 : decode cX10_canLend 15 = .ok (.aload_n 0, 1) := by decide +kernel
theorem dX10_canLend_16 : decode cX10_canLend 16 = .ok (.getfield 9, 3) := by decide +kernel
theorem dX10_canLend_19 : decode cX10_canLend 19 = .ok (.iload_n 2, 1) := by decide +kernel
theorem dX10_canLend_20 : decode cX10_canLend 20 = .ok (.iload_n 3, 1) := by decide +kernel
theorem dX10_canLend_21 : decode cX10_canLend 21 = .ok (.invokestatic 162, 3) := by decide +kernel
theorem dX10_canLend_24 : decode cX10_canLend 24 = .ok (.iaload, 1) := by decide +kernel
theorem dX10_canLend_25 : decode cX10_canLend 25 = .ok (.iload 4, 2) := by decide +kernel
theorem dX10_canLend_27 : decode cX10_canLend 27 = .ok (.iadd, 1) := by decide +kernel
theorem dX10_canLend_28 : decode cX10_canLend 28 = .ok (.sipush 999, 3) := by decide +kernel
theorem dX10_canLend_31 : decode cX10_canLend 31 = .ok (.if_icmp .gt 7, 3) := by decide +kernel
theorem dX10_canLend_34 : decode cX10_canLend 34 = .ok (.iconst 1, 1) := by decide +kernel
theorem dX10_canLend_35 : decode cX10_canLend 35 = .ok (.goto 4, 3) := by decide +kernel
theorem dX10_canLend_38 : decode cX10_canLend 38 = .ok (.iconst 0, 1) := by decide +kernel
theorem dX10_canLend_39 : decode cX10_canLend 39 = .ok (.ireturn, 1) := by decide +kernel
theorem dX10_lend_0 : decode cX10_lend 0 = .ok (.aload_n 0, 1) := by decide +kernel
theorem dX10_lend_1 : decode cX10_lend 1 = .ok (.iload_n 1, 1) := by decide +kernel
theorem dX10_lend_2 : decode cX10_lend 2 = .ok (.invokevirtual 197, 3) := by decide +kernel
theorem dX10_lend_5 : decode cX10_lend 5 = .ok (.ifCond .eq 46, 3) := by decide +kernel
theorem dX10_lend_8 : decode cX10_lend 8 = .ok (.aload_n 0, 1) := by decide +kernel
theorem dX10_lend_9 : decode cX10_lend 9 = .ok (.iload_n 2, 1) := by decide +kernel
theorem dX10_lend_10 : decode cX10_lend 10 = .ok (.invokevirtual 197, 3) := by decide +kernel
theorem dX10_lend_13 : decode cX10_lend 13 = .ok (.ifCond .eq 38, 3) := by decide +kernel
theorem dX10_lend_16 : decode cX10_lend 16 = .ok (.iload_n 1, 1) := by decide +kernel
theorem dX10_lend_17 : decode cX10_lend 17 = .ok (.iload_n 2, 1) := by decide +kernel
theorem dX10_lend_18 : decode cX10_lend 18 = .ok (.if_icmp .eq 33, 3) := by decide +kernel
theorem dX10_lend_21 : decode cX10_lend 21 = .ok (.aload_n 0, 1) := by decide +kernel
theorem dX10_lend_22 : decode cX10_lend 22 = .ok (.iload_n 3, 1) := by decide +kernel
theorem dX10_lend_23 : decode cX10_lend 23 = .ok (.invokevirtual 171, 3) := by decide +kernel
theorem dX10_lend_26 : decode cX10_lend 26 = .ok (.ifCond .eq 25, 3) := by decide +kernel
theorem dX10_lend_29 : decode cX10_lend 29 = .ok (.iload 4, 2) := by decide +kernel
theorem dX10_lend_31 : decode cX10_lend 31 = .ok (.iconst 1, 1) := by decide +kernel
theorem dX10_lend_32 : decode cX10_lend 32 = .ok (.bipush 99, 2) := by decide +kernel
theorem dX10_lend_34 : decode cX10_lend 34 = .ok (.invokestatic 70, 3) := by decide +kernel
theorem dX10_lend_37 : decode cX10_lend 37 = .ok (.ifCond .eq 14, 3) := by decide +kernel
theorem dX10_lend_40 : decode cX10_lend 40 = .ok (.iload 5, 2) := by decide +kernel
theorem dX10_lend_42 : decode cX10_lend 42 = .ok (.iconst 1, 1) := by decide +kernel
theorem dX10_lend_43 : decode cX10_lend 43 = .ok (.bipush 60, 2) := by decide +kernel
theorem dX10_lend_45 : decode cX10_lend 45 = .ok (.invokestatic 70, 3) := by decide +kernel
theorem dX10_lend_48 : decode cX10_lend 48 = .ok (.ifCond .ne 10, 3) := by decide +kernel
theorem dX10_lend_51 : decode cX10_lend 51 = .ok (.aload_n 0, 1) := by decide +kernel
theorem dX10_lend_52 : decode cX10_lend 52 = .ok (.ldc 74, 2) := by decide +kernel
theorem dX10_lend_54 : decode cX10_lend 54 = .ok (.invokevirtual 75, 3) := by decide +kernel
theorem dX10_lend_57 : decode cX10_lend 57 = .ok (.ireturn, 1) := by decide +kernel
theorem dX10_lend_58 : decode cX10_lend 58 = .ok (.aload_n 0, 1) := by decide +kernel
theorem dX10_lend_59 : decode cX10_lend 59 = .ok (.iload_n 1, 1) := by decide +kernel
theorem dX10_lend_60 : decode cX10_lend 60 = .ok (.iload_n 2, 1) := by decide +kernel
theorem dX10_lend_61 : decode cX10_lend 61 = .ok (.iload_n 3, 1) := by decide +kernel
theorem dX10_lend_62 : decode cX10_lend 62 = .ok (.iload 4, 2) := by decide +kernel
theorem dX10_lend_64 : decode cX10_lend 64 = .ok (.invokevirtual 233, 3) := by decide +kernel
theorem dX10_lend_67 : decode cX10_lend 67 = .ok (.ifCond .ne 10, 3) := by decide +kernel
theorem dX10_lend_70 : decode cX10_lend 70 = .ok (.aload_n 0, 1) := by decide +kernel
theorem dX10_lend_71 : decode cX10_lend 71 = .ok (.ldc 229, 2) := by decide +kernel
theorem dX10_lend_73 : decode cX10_lend 73 = .ok (.invokevirtual 75, 3) := by decide +kernel
theorem dX10_lend_76 : decode cX10_lend 76 = .ok (.ireturn, 1) := by decide +kernel
theorem dX10_lend_77 : decode cX10_lend 77 = .ok (.aload_n 0, 1) := by decide +kernel
theorem dX10_lend_78 : decode cX10_lend 78 = .ok (.getfield 9, 3) := by decide +kernel
theorem dX10_lend_81 : decode cX10_lend 81 = .ok (.iconst 3, 1) := by decide +kernel
theorem dX10_lend_82 : decode cX10_lend 82 = .ok (.iaload, 1) := by decide +kernel
theorem dX10_lend_83 : decode cX10_lend 83 = .ok (.bipush 10, 2) := by decide +kernel
theorem dX10_lend_85 : decode cX10_lend 85 = .ok (.if_icmp .ne 12, 3) := by decide +kernel
theorem dX10_lend_88 : decode cX10_lend 88 = .ok (.aload_n 0, 1) := by decide +kernel
theorem dX10_lend_89 : decode cX10_lend 89 = .ok (.ldc 79, 2) := by decide +kernel
theorem dX10_lend_91 : decode cX10_lend 91 = .ok (.invokevirtual 75, 3) := by decide +kernel
theorem dX10_lend_94 : decode cX10_lend 94 = .ok (.goto 14, 3) := by decide +kernel
theorem dX10_lend_97 : decode cX10_lend 97 = .ok (.aload_n 0, 1) := by decide +kernel
theorem dX10_lend_98 : decode cX10_lend 98 = .ok (.iload_n 1, 1) := by decide +kernel
theorem dX10_lend_99 : decode cX10_lend 99 = .ok (.iload_n 2, 1) := by decide +kernel
theorem dX10_lend_100 : decode cX10_lend 100 = .ok (.iload_n 3, 1) := by decide +kernel
theorem dX10_lend_101 : decode cX10_lend 101 = .ok (.iload 4, 2) := by decide +kernel
theorem dX10_lend_103 : decode cX10_lend 103 = .ok (.iload 5, 2) := by decide +kernel
theorem dX10_lend_105 : decode cX10_lend 105 = .ok (.invokevirtual 237, 3) := by decide +kernel
theorem dX10_lend_108 : decode cX10_lend 108 = .ok (.ireturn, 1) := by decide +kernel
theorem dX10_ofLoan_0 : decode cX10_ofLoan 0 = .ok (.aload_n 0, 1) := by decide +kernel
theorem dX10_ofLoan_1 : decode cX10_ofLoan 1 = .ok (.iload_n 1, 1) := by decide +kernel
theorem dX10_ofLoan_2 : decode cX10_ofLoan 2 = .ok (.invokevirtual 241, 3) := by decide +kernel
theorem dX10_ofLoan_5 : decode cX10_ofLoan 5 = .ok (.ifCond .eq 21, 3) := by decide +kernel
theorem dX10_ofLoan_8 : decode cX10_ofLoan 8 = .ok (.iload_n 2, 1) := by decide +kernel
theorem dX10_ofLoan_9 : decode cX10_ofLoan 9 = .ok (.iconst 0, 1) := by decide +kernel
theorem dX10_ofLoan_10 : decode cX10_ofLoan 10 = .ok (.iconst 4, 1) := by decide +kernel
theorem dX10_ofLoan_11 : decode cX10_ofLoan 11 = .ok (.invokestatic 70, 3) := by decide +kernel
theorem dX10_ofLoan_14 : decode cX10_ofLoan 14 = .ok (.ifCond .eq 12, 3) := by decide +kernel
theorem dX10_ofLoan_17 : decode cX10_ofLoan 17 = .ok (.aload_n 0, 1) := by decide +kernel
theorem dX10_ofLoan_18 : decode cX10_ofLoan 18 = .ok (.iload_n 1, 1) := by decide +kernel
theorem dX10_ofLoan_19 : decode cX10_ofLoan 19 = .ok (.iload_n 2, 1) := by decide +kernel
theorem dX10_ofLoan_20 : decode cX10_ofLoan 20 = .ok (.invokevirtual 194, 3) := by decide +kernel
theorem dX10_ofLoan_23 : decode cX10_ofLoan 23 = .ok (.goto 9, 3) := by decide +kernel
theorem dX10_ofLoan_26 : decode cX10_ofLoan 26 = .ok (.aload_n 0, 1) := by decide +kernel
theorem dX10_ofLoan_27 : decode cX10_ofLoan 27 = .ok (.ldc 74, 2) := by decide +kernel
theorem dX10_ofLoan_29 : decode cX10_ofLoan 29 = .ok (.invokevirtual 75, 3) := by decide +kernel
theorem dX10_ofLoan_32 : decode cX10_ofLoan 32 = .ok (.ireturn, 1) := by decide +kernel
theorem dX10_canGiveBack_0 : decode cX10_canGiveBack 0 = .ok (.aload_n 0, 1) := by decide +kernel
theorem dX10_canGiveBack_1 : decode cX10_canGiveBack 1 = .ok (.getfield 9, 3) := by decide +kernel
theorem dX10_canGiveBack_4 : decode cX10_canGiveBack 4 = .ok (.aload_n 0, 1) := by decide +kernel
theorem dX10_canGiveBack_5 : decode cX10_canGiveBack 5 = .ok (.iload_n 1, 1) := by decide +kernel
theorem dX10_canGiveBack_6 : decode cX10_canGiveBack 6 = .ok (.iconst 1, 1) := by decide +kernel
theorem dX10_canGiveBack_7 : decode cX10_canGiveBack 7 = .ok (.invokevirtual 194, 3) := by decide +kernel
theorem dX10_canGiveBack_10 : decode cX10_canGiveBack 10 = .ok (.aload_n 0, 1) := by decide +kernel
theorem dX10_canGiveBack_11 : decode cX10_canGiveBack 11 = .ok (.iload_n 1, 1) := by decide +kernel
theorem dX10_canGiveBack_12 : decode cX10_canGiveBack 12 = .ok (.iconst 2, 1) := by decide +kernel
theorem dX10_canGiveBack_13 : decode cX10_canGiveBack 13 = .ok (.invokevirtual 194, 3) := by decide +kernel
theorem dX10_canGiveBack_16 : decode cX10_canGiveBack 16 = .ok (.invokestatic 162, 3) := by decide +kernel
theorem dX10_canGiveBack_19 : decode cX10_canGiveBack 19 = .ok (.iaload, 1) := by decide +kernel
theorem dX10_canGiveBack_20 : decode cX10_canGiveBack 20 = .ok (.aload_n 0, 1) := by decide +kernel
theorem dX10_canGiveBack_21 : decode cX10_canGiveBack 21 = .ok (.iload_n 1, 1) := by decide +kernel
theorem dX10_canGiveBack_22 : decode cX10_canGiveBack 22 = .ok (.iconst 3, 1) := by decide +kernel
theorem dX10_canGiveBack_23 : decode cX10_canGiveBack 23 = .ok (.invokevirtual 194, 3) := by decide +kernel
theorem dX10_canGiveBack_26 : decode cX10_canGiveBack 26 = .ok (.if_icmp .lt 7, 3) := by decide +kernel
theorem dX10_canGiveBack_29 : decode cX10_canGiveBack 29 = .ok (.iconst 1, 1) := by decide +kernel
theorem dX10_canGiveBack_30 : decode cX10_canGiveBack 30 = .ok (.goto 4, 3) := by decide +kernel
theorem dX10_canGiveBack_33 : decode cX10_canGiveBack 33 = .ok (.iconst 0, 1) := by decide +kernel
theorem dX10_canGiveBack_34 : decode cX10_canGiveBack 34 = .ok (.ireturn, 1) := by decide +kernel
theorem dX10_goes_0 : decode cX10_goes 0 = .ok (.iload_n 1, 1) := by decide +kernel
theorem dX10_goes_1 : decode cX10_goes 1 = .ok (.istore_n 2, 1) := by decide +kernel
theorem dX10_goes_2 : decode cX10_goes 2 = .ok (.iload_n 2, 1) := by decide +kernel
theorem dX10_goes_3 : decode cX10_goes 3 = .ok (.iconst 1, 1) := by decide +kernel
theorem dX10_goes_4 : decode cX10_goes 4 = .ok (.iadd, 1) := by decide +kernel
theorem dX10_goes_5 : decode cX10_goes 5 = .ok (.aload_n 0, 1) := by decide +kernel
theorem dX10_goes_6 : decode cX10_goes 6 = .ok (.getfield 9, 3) := by decide +kernel
theorem dX10_goes_9 : decode cX10_goes 9 = .ok (.iconst 3, 1) := by decide +kernel
theorem dX10_goes_10 : decode cX10_goes 10 = .ok (.iaload, 1) := by decide +kernel
theorem dX10_goes_11 : decode cX10_goes 11 = .ok (.if_icmp .ge 40, 3) := by decide +kernel
theorem dX10_goes_14 : decode cX10_goes 14 = .ok (.iconst 0, 1) := by decide +kernel
theorem dX10_goes_15 : decode cX10_goes 15 = .ok (.istore_n 3, 1) := by decide +kernel
theorem dX10_goes_16 : decode cX10_goes 16 = .ok (.iload_n 3, 1) := by decide +kernel
theorem dX10_goes_17 : decode cX10_goes 17 = .ok (.iconst 5, 1) := by decide +kernel
theorem dX10_goes_18 : decode cX10_goes 18 = .ok (.if_icmp .ge 27, 3) := by decide +kernel
theorem dX10_goes_21 : decode cX10_goes 21 = .ok (.aload_n 0, 1) := by decide +kernel
theorem dX10_goes_22 : decode cX10_goes 22 = .ok (.getfield 9, 3) := by decide +kernel
theorem dX10_goes_25 : decode cX10_goes 25 = .ok (.iload_n 2, 1) := by decide +kernel
theorem dX10_goes_26 : decode cX10_goes 26 = .ok (.iload_n 3, 1) := by decide +kernel
theorem dX10_goes_27 : decode cX10_goes 27 = .ok (.invokestatic 159, 3) := by decide +kernel
theorem dX10_goes_30 : decode cX10_goes 30 = .ok (.aload_n 0, 1) := by decide +kernel
theorem dX10_goes_31 : decode cX10_goes 31 = .ok (.iload_n 2, 1) := by decide +kernel
theorem dX10_goes_32 : decode cX10_goes 32 = .ok (.iconst 1, 1) := by decide +kernel
theorem dX10_goes_33 : decode cX10_goes 33 = .ok (.iadd, 1) := by decide +kernel
theorem dX10_goes_34 : decode cX10_goes 34 = .ok (.iload_n 3, 1) := by decide +kernel
theorem dX10_goes_35 : decode cX10_goes 35 = .ok (.invokevirtual 194, 3) := by decide +kernel
theorem dX10_goes_38 : decode cX10_goes 38 = .ok (.iastore, 1) := by decide +kernel
theorem dX10_goes_39 : decode cX10_goes 39 = .ok (.iinc 3 1, 3) := by decide +kernel
theorem dX10_goes_42 : decode cX10_goes 42 = .ok (.goto (-26), 3) := by decide +kernel
theorem dX10_goes_45 : decode cX10_goes 45 = .ok (.iinc 2 1, 3) := by decide +kernel
theorem dX10_goes_48 : decode cX10_goes 48 = .ok (.goto (-46), 3) := by decide +kernel
theorem dX10_goes_51 : decode cX10_goes 51 = .ok (.aload_n 0, 1) := by decide +kernel
theorem dX10_goes_52 : decode cX10_goes 52 = .ok (.getfield 9, 3) := by decide +kernel
theorem dX10_goes_55 : decode cX10_goes 55 = .ok (.iconst 3, 1) := by decide +kernel
theorem dX10_goes_56 : decode cX10_goes 56 = .ok (.dup2, 1) := by decide +kernel
theorem dX10_goes_57 : decode cX10_goes 57 = .ok (.iaload, 1) := by decide +kernel
theorem dX10_goes_58 : decode cX10_goes 58 = .ok (.iconst 1, 1) := by decide +kernel
theorem dX10_goes_59 : decode cX10_goes 59 = .ok (.isub, 1) := by decide +kernel
theorem dX10_goes_60 : decode cX10_goes 60 = .ok (.iastore, 1) := by decide +kernel
theorem dX10_goes_61 : decode cX10_goes 61 = .ok (.return_, 1) := by decide +kernel
theorem dX10_givesBack_0 : decode cX10_givesBack 0 = .ok (.aload_n 0, 1) := by decide +kernel
theorem dX10_givesBack_1 : decode cX10_givesBack 1 = .ok (.iload_n 1, 1) := by decide +kernel
theorem dX10_givesBack_2 : decode cX10_givesBack 2 = .ok (.iconst 2, 1) := by decide +kernel
theorem dX10_givesBack_3 : decode cX10_givesBack 3 = .ok (.invokevirtual 194, 3) := by decide +kernel
theorem dX10_givesBack_6 : decode cX10_givesBack 6 = .ok (.istore_n 2, 1) := by decide +kernel
theorem dX10_givesBack_7 : decode cX10_givesBack 7 = .ok (.aload_n 0, 1) := by decide +kernel
theorem dX10_givesBack_8 : decode cX10_givesBack 8 = .ok (.iload_n 1, 1) := by decide +kernel
theorem dX10_givesBack_9 : decode cX10_givesBack 9 = .ok (.iconst 3, 1) := by decide +kernel
theorem dX10_givesBack_10 : decode cX10_givesBack 10 = .ok (.invokevirtual 194, 3) := by decide +kernel
theorem dX10_givesBack_13 : decode cX10_givesBack 13 = .ok (.istore_n 3, 1) := by decide +kernel
theorem dX10_givesBack_14 : decode cX10_givesBack 14 = .ok (.aload_n 0, 1) := by decide +kernel
theorem dX10_givesBack_15 : decode cX10_givesBack 15 = .ok (.iconst 1, 1) := by decide +kernel
theorem dX10_givesBack_16 : decode cX10_givesBack 16 = .ok (.iload_n 3, 1) := by decide +kernel
theorem dX10_givesBack_17 : decode cX10_givesBack 17 = .ok (.aload_n 0, 1) := by decide +kernel
theorem dX10_givesBack_18 : decode cX10_givesBack 18 = .ok (.iload_n 2, 1) := by decide +kernel
theorem dX10_givesBack_19 : decode cX10_givesBack 19 = .ok (.iconst 1, 1) := by decide +kernel
theorem dX10_givesBack_20 : decode cX10_givesBack 20 = .ok (.invokevirtual 177, 3) := by decide +kernel
theorem dX10_givesBack_23 : decode cX10_givesBack 23 = .ok (.aload_n 0, 1) := by decide +kernel
theorem dX10_givesBack_24 : decode cX10_givesBack 24 = .ok (.getfield 9, 3) := by decide +kernel
theorem dX10_givesBack_27 : decode cX10_givesBack 27 = .ok (.iconst 0, 1) := by decide +kernel
theorem dX10_givesBack_28 : decode cX10_givesBack 28 = .ok (.iaload, 1) := by decide +kernel
theorem dX10_givesBack_29 : decode cX10_givesBack 29 = .ok (.invokevirtual 152, 3) := by decide +kernel
theorem dX10_givesBack_32 : decode cX10_givesBack 32 = .ok (.istore 4, 2) := by decide +kernel
theorem dX10_givesBack_34 : decode cX10_givesBack 34 = .ok (.aload_n 0, 1) := by decide +kernel
theorem dX10_givesBack_35 : decode cX10_givesBack 35 = .ok (.iload_n 1, 1) := by decide +kernel
theorem dX10_givesBack_36 : decode cX10_givesBack 36 = .ok (.iconst 0, 1) := by decide +kernel
theorem dX10_givesBack_37 : decode cX10_givesBack 37 = .ok (.invokevirtual 194, 3) := by decide +kernel
theorem dX10_givesBack_40 : decode cX10_givesBack 40 = .ok (.iload_n 2, 1) := by decide +kernel
theorem dX10_givesBack_41 : decode cX10_givesBack 41 = .ok (.invokestatic 162, 3) := by decide +kernel
theorem dX10_givesBack_44 : decode cX10_givesBack 44 = .ok (.istore 5, 2) := by decide +kernel
theorem dX10_givesBack_46 : decode cX10_givesBack 46 = .ok (.aload_n 0, 1) := by decide +kernel
theorem dX10_givesBack_47 : decode cX10_givesBack 47 = .ok (.getfield 9, 3) := by decide +kernel
theorem dX10_givesBack_50 : decode cX10_givesBack 50 = .ok (.aload_n 0, 1) := by decide +kernel
theorem dX10_givesBack_51 : decode cX10_givesBack 51 = .ok (.iload_n 1, 1) := by decide +kernel
theorem dX10_givesBack_52 : decode cX10_givesBack 52 = .ok (.iconst 1, 1) := by decide +kernel
theorem dX10_givesBack_53 : decode cX10_givesBack 53 = .ok (.invokevirtual 194, 3) := by decide +kernel
theorem dX10_givesBack_56 : decode cX10_givesBack 56 = .ok (.iload_n 2, 1) := by decide +kernel
theorem dX10_givesBack_57 : decode cX10_givesBack 57 = .ok (.invokestatic 162, 3) := by decide +kernel
theorem dX10_givesBack_60 : decode cX10_givesBack 60 = .ok (.dup2, 1) := by decide +kernel
theorem dX10_givesBack_61 : decode cX10_givesBack 61 = .ok (.iaload, 1) := by decide +kernel
theorem dX10_givesBack_62 : decode cX10_givesBack 62 = .ok (.iload_n 3, 1) := by decide +kernel
theorem dX10_givesBack_63 : decode cX10_givesBack 63 = .ok (.isub, 1) := by decide +kernel
theorem dX10_givesBack_64 : decode cX10_givesBack 64 = .ok (.iastore, 1) := by decide +kernel
theorem dX10_givesBack_65 : decode cX10_givesBack 65 = .ok (.aload_n 0, 1) := by decide +kernel
theorem dX10_givesBack_66 : decode cX10_givesBack 66 = .ok (.getfield 9, 3) := by decide +kernel
theorem dX10_givesBack_69 : decode cX10_givesBack 69 = .ok (.iload 5, 2) := by decide +kernel
theorem dX10_givesBack_71 : decode cX10_givesBack 71 = .ok (.sipush 999, 3) := by decide +kernel
theorem dX10_givesBack_74 : decode cX10_givesBack 74 = .ok (.aload_n 0, 1) := by decide +kernel
theorem dX10_givesBack_75 : decode cX10_givesBack 75 = .ok (.getfield 9, 3) := by decide +kernel
theorem dX10_givesBack_78 : decode cX10_givesBack 78 = .ok (.iload 5, 2) := by decide +kernel
theorem dX10_givesBack_80 : decode cX10_givesBack 80 = .ok (.iaload, 1) := by decide +kernel
theorem dX10_givesBack_81 : decode cX10_givesBack 81 = .ok (.iload 4, 2) := by decide +kernel
theorem dX10_givesBack_83 : decode cX10_givesBack 83 = .ok (.iadd, 1) := by decide +kernel
theorem dX10_givesBack_84 : decode cX10_givesBack 84 = .ok (.invokestatic 57, 3) := by decide +kernel
theorem dX10_givesBack_87 : decode cX10_givesBack 87 = .ok (.iastore, 1) := by decide +kernel
theorem dX10_givesBack_88 : decode cX10_givesBack 88 = .ok (.aload_n 0, 1) := by decide +kernel
theorem dX10_givesBack_89 : decode cX10_givesBack 89 = .ok (.iload_n 1, 1) := by decide +kernel
theorem dX10_givesBack_90 : decode cX10_givesBack 90 = .ok (.invokevirtual 244, 3) := by decide +kernel
theorem dX10_givesBack_93 : decode cX10_givesBack 93 = .ok (.iload 4, 2) := by decide +kernel
theorem dX10_givesBack_95 : decode cX10_givesBack 95 = .ok (.ireturn, 1) := by decide +kernel
theorem dX10_back_0 : decode cX10_back 0 = .ok (.aload_n 0, 1) := by decide +kernel
theorem dX10_back_1 : decode cX10_back 1 = .ok (.iload_n 1, 1) := by decide +kernel
theorem dX10_back_2 : decode cX10_back 2 = .ok (.invokevirtual 241, 3) := by decide +kernel
theorem dX10_back_5 : decode cX10_back 5 = .ok (.ifCond .ne 10, 3) := by decide +kernel
theorem dX10_back_8 : decode cX10_back 8 = .ok (.aload_n 0, 1) := by decide +kernel
theorem dX10_back_9 : decode cX10_back 9 = .ok (.ldc 74, 2) := by decide +kernel
theorem dX10_back_11 : decode cX10_back 11 = .ok (.invokevirtual 75, 3) := by decide +kernel
theorem dX10_back_14 : decode cX10_back 14 = .ok (.ireturn, 1) := by decide +kernel
theorem dX10_back_15 : decode cX10_back 15 = .ok (.aload_n 0, 1) := by decide +kernel
theorem dX10_back_16 : decode cX10_back 16 = .ok (.iload_n 1, 1) := by decide +kernel
theorem dX10_back_17 : decode cX10_back 17 = .ok (.invokevirtual 247, 3) := by decide +kernel
theorem dX10_back_20 : decode cX10_back 20 = .ok (.ifCond .eq 11, 3) := by decide +kernel
theorem dX10_back_23 : decode cX10_back 23 = .ok (.aload_n 0, 1) := by decide +kernel
theorem dX10_back_24 : decode cX10_back 24 = .ok (.iload_n 1, 1) := by decide +kernel
theorem dX10_back_25 : decode cX10_back 25 = .ok (.invokevirtual 250, 3) := by decide +kernel
theorem dX10_back_28 : decode cX10_back 28 = .ok (.goto 9, 3) := by decide +kernel
theorem dX10_back_31 : decode cX10_back 31 = .ok (.aload_n 0, 1) := by decide +kernel
theorem dX10_back_32 : decode cX10_back 32 = .ok (.ldc 229, 2) := by decide +kernel
theorem dX10_back_34 : decode cX10_back 34 = .ok (.invokevirtual 75, 3) := by decide +kernel
theorem dX10_back_37 : decode cX10_back 37 = .ok (.ireturn, 1) := by decide +kernel
theorem dX10_breaksOne_0 : decode cX10_breaksOne 0 = .ok (.aload_n 0, 1) := by decide +kernel
theorem dX10_breaksOne_1 : decode cX10_breaksOne 1 = .ok (.iload_n 1, 1) := by decide +kernel
theorem dX10_breaksOne_2 : decode cX10_breaksOne 2 = .ok (.iconst 1, 1) := by decide +kernel
theorem dX10_breaksOne_3 : decode cX10_breaksOne 3 = .ok (.invokevirtual 194, 3) := by decide +kernel
theorem dX10_breaksOne_6 : decode cX10_breaksOne 6 = .ok (.iconst 1, 1) := by decide +kernel
theorem dX10_breaksOne_7 : decode cX10_breaksOne 7 = .ok (.invokestatic 191, 3) := by decide +kernel
theorem dX10_breaksOne_10 : decode cX10_breaksOne 10 = .ok (.istore_n 2, 1) := by decide +kernel
theorem dX10_breaksOne_11 : decode cX10_breaksOne 11 = .ok (.aload_n 0, 1) := by decide +kernel
theorem dX10_breaksOne_12 : decode cX10_breaksOne 12 = .ok (.getfield 9, 3) := by decide +kernel
theorem dX10_breaksOne_15 : decode cX10_breaksOne 15 = .ok (.iload_n 2, 1) := by decide +kernel
theorem dX10_breaksOne_16 : decode cX10_breaksOne 16 = .ok (.bipush 99, 2) := by decide +kernel
theorem dX10_breaksOne_18 : decode cX10_breaksOne 18 = .ok (.aload_n 0, 1) := by decide +kernel
theorem dX10_breaksOne_19 : decode cX10_breaksOne 19 = .ok (.getfield 9, 3) := by decide +kernel
theorem dX10_breaksOne_22 : decode cX10_breaksOne 22 = .ok (.iload_n 2, 1) := by decide +kernel
theorem dX10_breaksOne_23 : decode cX10_breaksOne 23 = .ok (.iaload, 1) := by decide +kernel
theorem dX10_breaksOne_24 : decode cX10_breaksOne 24 = .ok (.iconst 1, 1) := by decide +kernel
theorem dX10_breaksOne_25 : decode cX10_breaksOne 25 = .ok (.iadd, 1) := by decide +kernel
theorem dX10_breaksOne_26 : decode cX10_breaksOne 26 = .ok (.invokestatic 57, 3) := by decide +kernel
theorem dX10_breaksOne_29 : decode cX10_breaksOne 29 = .ok (.iastore, 1) := by decide +kernel
theorem dX10_breaksOne_30 : decode cX10_breaksOne 30 = .ok (.aload_n 0, 1) := by decide +kernel
theorem dX10_breaksOne_31 : decode cX10_breaksOne 31 = .ok (.iload_n 1, 1) := by decide +kernel
theorem dX10_breaksOne_32 : decode cX10_breaksOne 32 = .ok (.invokevirtual 244, 3) := by decide +kernel
theorem dX10_breaksOne_35 : decode cX10_breaksOne 35 = .ok (.return_, 1) := by decide +kernel
theorem dX10_day_0 : decode cX10_day 0 = .ok (.aload_n 0, 1) := by decide +kernel
theorem dX10_day_1 : decode cX10_day 1 = .ok (.getfield 9, 3) := by decide +kernel
theorem dX10_day_4 : decode cX10_day 4 = .ok (.iconst 0, 1) := by decide +kernel
theorem dX10_day_5 : decode cX10_day 5 = .ok (.dup2, 1) := by decide +kernel
theorem dX10_day_6 : decode cX10_day 6 = .ok (.iaload, 1) := by decide +kernel
theorem dX10_day_7 : decode cX10_day 7 = .ok (.iconst 1, 1) := by decide +kernel
theorem dX10_day_8 : decode cX10_day 8 = .ok (.iadd, 1) := by decide +kernel
theorem dX10_day_9 : decode cX10_day 9 = .ok (.iastore, 1) := by decide +kernel
theorem dX10_day_10 : decode cX10_day 10 = .ok (.iconst 0, 1) := by decide +kernel
theorem dX10_day_11 : decode cX10_day 11 = .ok (.istore_n 1, 1) := by decide +kernel
theorem dX10_day_12 : decode cX10_day 12 = .ok (.iload_n 1, 1) := by decide +kernel
theorem dX10_day_13 : decode cX10_day 13 = .ok (.aload_n 0, 1) := by decide +kernel
theorem dX10_day_14 : decode cX10_day 14 = .ok (.getfield 9, 3) := by decide +kernel
theorem dX10_day_17 : decode cX10_day 17 = .ok (.iconst 1, 1) := by decide +kernel
theorem dX10_day_18 : decode cX10_day 18 = .ok (.iaload, 1) := by decide +kernel
theorem dX10_day_19 : decode cX10_day 19 = .ok (.if_icmp .ge 57, 3) := by decide +kernel
theorem dX10_day_22 : decode cX10_day 22 = .ok (.aload_n 0, 1) := by decide +kernel
theorem dX10_day_23 : decode cX10_day 23 = .ok (.iload_n 1, 1) := by decide +kernel
theorem dX10_day_24 : decode cX10_day 24 = .ok (.iconst 3, 1) := by decide +kernel
theorem dX10_day_25 : decode cX10_day 25 = .ok (.invokevirtual 177, 3) := by decide +kernel
theorem dX10_day_28 : decode cX10_day 28 = .ok (.istore_n 2, 1) := by decide +kernel
theorem dX10_day_29 : decode cX10_day 29 = .ok (.aload_n 0, 1) := by decide +kernel
theorem dX10_day_30 : decode cX10_day 30 = .ok (.iload_n 2, 1) := by decide +kernel
theorem dX10_day_31 : decode cX10_day 31 = .ok (.invokevirtual 197, 3) := by decide +kernel
theorem dX10_day_34 : decode cX10_day 34 = .ok (.ifCond .eq 36, 3) := by decide +kernel
theorem dX10_day_37 : decode cX10_day 37 = .ok (.aload_n 0, 1) := by decide +kernel
theorem dX10_day_38 : decode cX10_day 38 = .ok (.getfield 9, 3) := by decide +kernel
theorem dX10_day_41 : decode cX10_day 41 = .ok (.iload_n 2, 1) := by decide +kernel
theorem dX10_day_42 : decode cX10_day 42 = .ok (.iload_n 1, 1) := by decide +kernel
theorem dX10_day_43 : decode cX10_day 43 = .ok (.invokestatic 162, 3) := by decide +kernel
theorem dX10_day_46 : decode cX10_day 46 = .ok (.sipush 999, 3) := by decide +kernel
theorem dX10_day_49 : decode cX10_day 49 = .ok (.aload_n 0, 1) := by decide +kernel
theorem dX10_day_50 : decode cX10_day 50 = .ok (.getfield 9, 3) := by decide +kernel
theorem dX10_day_53 : decode cX10_day 53 = .ok (.iload_n 2, 1) := by decide +kernel
theorem dX10_day_54 : decode cX10_day 54 = .ok (.iload_n 1, 1) := by decide +kernel
theorem dX10_day_55 : decode cX10_day 55 = .ok (.invokestatic 162, 3) := by decide +kernel
theorem dX10_day_58 : decode cX10_day 58 = .ok (.iaload, 1) := by decide +kernel
theorem dX10_day_59 : decode cX10_day 59 = .ok (.aload_n 0, 1) := by decide +kernel
theorem dX10_day_60 : decode cX10_day 60 = .ok (.iload_n 1, 1) := by decide +kernel
theorem dX10_day_61 : decode cX10_day 61 = .ok (.iconst 2, 1) := by decide +kernel
theorem dX10_day_62 : decode cX10_day 62 = .ok (.invokevirtual 177, 3) := by decide +kernel
theorem dX10_day_65 : decode cX10_day 65 = .ok (.iadd, 1) := by decide +kernel
theorem dX10_day_66 : decode cX10_day 66 = .ok (.invokestatic 57, 3) := by decide +kernel
theorem dX10_day_69 : decode cX10_day 69 = .ok (.iastore, 1) := by decide +kernel
theorem dX10_day_70 : decode cX10_day 70 = .ok (.iinc 1 1, 3) := by decide +kernel
theorem dX10_day_73 : decode cX10_day 73 = .ok (.goto (-61), 3) := by decide +kernel
theorem dX10_day_76 : decode cX10_day 76 = .ok (.iconst 0, 1) := by decide +kernel
theorem dX10_day_77 : decode cX10_day 77 = .ok (.istore_n 1, 1) := by decide +kernel
theorem dX10_day_78 : decode cX10_day 78 = .ok (.iload_n 1, 1) := by decide +kernel
theorem dX10_day_79 : decode cX10_day 79 = .ok (.aload_n 0, 1) := by decide +kernel
theorem dX10_day_80 : decode cX10_day 80 = .ok (.getfield 9, 3) := by decide +kernel
theorem dX10_day_83 : decode cX10_day 83 = .ok (.iconst 3, 1) := by decide +kernel
theorem dX10_day_84 : decode cX10_day 84 = .ok (.iaload, 1) := by decide +kernel
theorem dX10_day_85 : decode cX10_day 85 = .ok (.if_icmp .ge 49, 3) := by decide +kernel
theorem dX10_day_88 : decode cX10_day 88 = .ok (.aload_n 0, 1) := by decide +kernel
theorem dX10_day_89 : decode cX10_day 89 = .ok (.iload_n 1, 1) := by decide +kernel
theorem dX10_day_90 : decode cX10_day 90 = .ok (.iconst 4, 1) := by decide +kernel
theorem dX10_day_91 : decode cX10_day 91 = .ok (.invokevirtual 194, 3) := by decide +kernel
theorem dX10_day_94 : decode cX10_day 94 = .ok (.aload_n 0, 1) := by decide +kernel
theorem dX10_day_95 : decode cX10_day 95 = .ok (.getfield 9, 3) := by decide +kernel
theorem dX10_day_98 : decode cX10_day 98 = .ok (.iconst 0, 1) := by decide +kernel
theorem dX10_day_99 : decode cX10_day 99 = .ok (.iaload, 1) := by decide +kernel
theorem dX10_day_100 : decode cX10_day 100 = .ok (.if_icmp .eq 9, 3) := by decide +kernel
theorem dX10_day_103 : decode cX10_day 103 = .ok (.iinc 1 1, 3) := by decide +kernel
theorem dX10_day_106 : decode cX10_day 106 = .ok (.goto (-28), 3) := by decide +kernel
theorem dX10_day_109 : decode cX10_day 109 = .ok (.aload_n 0, 1) := by decide +kernel
theorem dX10_day_110 : decode cX10_day 110 = .ok (.iload_n 1, 1) := by decide +kernel
theorem dX10_day_111 : decode cX10_day 111 = .ok (.invokevirtual 247, 3) := by decide +kernel
theorem dX10_day_114 : decode cX10_day 114 = .ok (.ifCond .eq 12, 3) := by decide +kernel
theorem dX10_day_117 : decode cX10_day 117 = .ok (.aload_n 0, 1) := by decide +kernel
theorem dX10_day_118 : decode cX10_day 118 = .ok (.iload_n 1, 1) := by decide +kernel
theorem dX10_day_119 : decode cX10_day 119 = .ok (.invokevirtual 250, 3) := by decide +kernel
theorem dX10_day_122 : decode cX10_day 122 = .ok (.istore_n 2, 1) := by decide +kernel
theorem dX10_day_123 : decode cX10_day 123 = .ok (.goto (-45), 3) := by decide +kernel
theorem dX10_day_126 : decode cX10_day 126 = .ok (.aload_n 0, 1) := by decide +kernel
theorem dX10_day_127 : decode cX10_day 127 = .ok (.iload_n 1, 1) := by decide +kernel
theorem dX10_day_128 : decode cX10_day 128 = .ok (.invokevirtual 253, 3) := by decide +kernel
theorem dX10_day_131 : decode cX10_day 131 = .ok (.goto (-53), 3) := by decide +kernel
theorem dX10_day_134 : decode cX10_day 134 = .ok (.return_, 1) := by decide +kernel
theorem dX10_daysGo_0 : decode cX10_daysGo 0 = .ok (.iconst 0, 1) := by decide +kernel
theorem dX10_daysGo_1 : decode cX10_daysGo 1 = .ok (.istore_n 2, 1) := by decide +kernel
theorem dX10_daysGo_2 : decode cX10_daysGo 2 = .ok (.iload_n 2, 1) := by decide +kernel
theorem dX10_daysGo_3 : decode cX10_daysGo 3 = .ok (.iload_n 1, 1) := by decide +kernel
theorem dX10_daysGo_4 : decode cX10_daysGo 4 = .ok (.if_icmp .ge 13, 3) := by decide +kernel
theorem dX10_daysGo_7 : decode cX10_daysGo 7 = .ok (.aload_n 0, 1) := by decide +kernel
theorem dX10_daysGo_8 : decode cX10_daysGo 8 = .ok (.invokevirtual 256, 3) := by decide +kernel
theorem dX10_daysGo_11 : decode cX10_daysGo 11 = .ok (.iinc 2 1, 3) := by decide +kernel
theorem dX10_daysGo_14 : decode cX10_daysGo 14 = .ok (.goto (-12), 3) := by decide +kernel
theorem dX10_daysGo_17 : decode cX10_daysGo 17 = .ok (.return_, 1) := by decide +kernel
theorem dX10_days_0 : decode cX10_days 0 = .ok (.iload_n 1, 1) := by decide +kernel
theorem dX10_days_1 : decode cX10_days 1 = .ok (.iconst 1, 1) := by decide +kernel
theorem dX10_days_2 : decode cX10_days 2 = .ok (.bipush 60, 2) := by decide +kernel
theorem dX10_days_4 : decode cX10_days 4 = .ok (.invokestatic 70, 3) := by decide +kernel
theorem dX10_days_7 : decode cX10_days 7 = .ok (.ifCond .ne 10, 3) := by decide +kernel
theorem dX10_days_10 : decode cX10_days 10 = .ok (.aload_n 0, 1) := by decide +kernel
theorem dX10_days_11 : decode cX10_days 11 = .ok (.ldc 74, 2) := by decide +kernel
theorem dX10_days_13 : decode cX10_days 13 = .ok (.invokevirtual 75, 3) := by decide +kernel
theorem dX10_days_16 : decode cX10_days 16 = .ok (.ireturn, 1) := by decide +kernel
theorem dX10_days_17 : decode cX10_days 17 = .ok (.aload_n 0, 1) := by decide +kernel
theorem dX10_days_18 : decode cX10_days 18 = .ok (.getfield 9, 3) := by decide +kernel
theorem dX10_days_21 : decode cX10_days 21 = .ok (.iconst 0, 1) := by decide +kernel
theorem dX10_days_22 : decode cX10_days 22 = .ok (.iaload, 1) := by decide +kernel
theorem dX10_days_23 : decode cX10_days 23 = .ok (.iload_n 1, 1) := by decide +kernel
theorem dX10_days_24 : decode cX10_days 24 = .ok (.iadd, 1) := by decide +kernel
theorem dX10_days_25 : decode cX10_days 25 = .ok (.sipush 9999, 3) := by decide +kernel
theorem dX10_days_28 : decode cX10_days 28 = .ok (.if_icmp .le 10, 3) := by decide +kernel
theorem dX10_days_31 : decode cX10_days 31 = .ok (.aload_n 0, 1) := by decide +kernel
theorem dX10_days_32 : decode cX10_days 32 = .ok (.ldc 229, 2) := by decide +kernel
theorem dX10_days_34 : decode cX10_days 34 = .ok (.invokevirtual 75, 3) := by decide +kernel
theorem dX10_days_37 : decode cX10_days 37 = .ok (.ireturn, 1) := by decide +kernel
theorem dX10_days_38 : decode cX10_days 38 = .ok (.aload_n 0, 1) := by decide +kernel
theorem dX10_days_39 : decode cX10_days 39 = .ok (.iload_n 1, 1) := by decide +kernel
theorem dX10_days_40 : decode cX10_days 40 = .ok (.invokevirtual 259, 3) := by decide +kernel
theorem dX10_days_43 : decode cX10_days 43 = .ok (.aload_n 0, 1) := by decide +kernel
theorem dX10_days_44 : decode cX10_days 44 = .ok (.getfield 9, 3) := by decide +kernel
theorem dX10_days_47 : decode cX10_days 47 = .ok (.iconst 3, 1) := by decide +kernel
theorem dX10_days_48 : decode cX10_days 48 = .ok (.iaload, 1) := by decide +kernel
theorem dX10_days_49 : decode cX10_days 49 = .ok (.ireturn, 1) := by decide +kernel
theorem dX10_drawn_0 : decode cX10_drawn 0 = .ok (.aload_n 0, 1) := by decide +kernel
theorem dX10_drawn_1 : decode cX10_drawn 1 = .ok (.getfield 9, 3) := by decide +kernel
theorem dX10_drawn_4 : decode cX10_drawn 4 = .ok (.iconst 4, 1) := by decide +kernel
theorem dX10_drawn_5 : decode cX10_drawn 5 = .ok (.aload_n 0, 1) := by decide +kernel
theorem dX10_drawn_6 : decode cX10_drawn 6 = .ok (.getfield 9, 3) := by decide +kernel
theorem dX10_drawn_9 : decode cX10_drawn 9 = .ok (.iconst 4, 1) := by decide +kernel
theorem dX10_drawn_10 : decode cX10_drawn 10 = .ok (.iaload, 1) := by decide +kernel
theorem dX10_drawn_11 : decode cX10_drawn 11 = .ok (.ldc_w 262, 3) := by decide +kernel
theorem dX10_drawn_14 : decode cX10_drawn 14 = .ok (.imul, 1) := by decide +kernel
theorem dX10_drawn_15 : decode cX10_drawn 15 = .ok (.sipush 12345, 3) := by decide +kernel
theorem dX10_drawn_18 : decode cX10_drawn 18 = .ok (.iadd, 1) := by decide +kernel
theorem dX10_drawn_19 : decode cX10_drawn 19 = .ok (.iastore, 1) := by decide +kernel
theorem dX10_drawn_20 : decode cX10_drawn 20 = .ok (.aload_n 0, 1) := by decide +kernel
theorem dX10_drawn_21 : decode cX10_drawn 21 = .ok (.getfield 9, 3) := by decide +kernel
theorem dX10_drawn_24 : decode cX10_drawn 24 = .ok (.iconst 4, 1) := by decide +kernel
theorem dX10_drawn_25 : decode cX10_drawn 25 = .ok (.iaload, 1) := by decide +kernel
theorem dX10_drawn_26 : decode cX10_drawn 26 = .ok (.bipush 8, 2) := by decide +kernel
theorem dX10_drawn_28 : decode cX10_drawn 28 = .ok (.iushr, 1) := by decide +kernel
theorem dX10_drawn_29 : decode cX10_drawn 29 = .ok (.ireturn, 1) := by decide +kernel
theorem dX10_loose_0 : decode cX10_loose 0 = .ok (.iload_n 1, 1) := by decide +kernel
theorem dX10_loose_1 : decode cX10_loose 1 = .ok (.iconst 1, 1) := by decide +kernel
theorem dX10_loose_2 : decode cX10_loose 2 = .ok (.bipush 40, 2) := by decide +kernel
theorem dX10_loose_4 : decode cX10_loose 4 = .ok (.invokestatic 70, 3) := by decide +kernel
theorem dX10_loose_7 : decode cX10_loose 7 = .ok (.ifCond .ne 10, 3) := by decide +kernel
theorem dX10_loose_10 : decode cX10_loose 10 = .ok (.aload_n 0, 1) := by decide +kernel
theorem dX10_loose_11 : decode cX10_loose 11 = .ok (.ldc 74, 2) := by decide +kernel
theorem dX10_loose_13 : decode cX10_loose 13 = .ok (.invokevirtual 75, 3) := by decide +kernel
theorem dX10_loose_16 : decode cX10_loose 16 = .ok (.ireturn, 1) := by decide +kernel
theorem dX10_loose_17 : decode cX10_loose 17 = .ok (.aload_n 0, 1) := by decide +kernel
theorem dX10_loose_18 : decode cX10_loose 18 = .ok (.getfield 9, 3) := by decide +kernel
theorem dX10_loose_21 : decode cX10_loose 21 = .ok (.iconst 0, 1) := by decide +kernel
theorem dX10_loose_22 : decode cX10_loose 22 = .ok (.iaload, 1) := by decide +kernel
theorem dX10_loose_23 : decode cX10_loose 23 = .ok (.iload_n 1, 1) := by decide +kernel
theorem dX10_loose_24 : decode cX10_loose 24 = .ok (.iadd, 1) := by decide +kernel
theorem dX10_loose_25 : decode cX10_loose 25 = .ok (.sipush 9999, 3) := by decide +kernel
theorem dX10_loose_28 : decode cX10_loose 28 = .ok (.if_icmp .le 10, 3) := by decide +kernel
theorem dX10_loose_31 : decode cX10_loose 31 = .ok (.aload_n 0, 1) := by decide +kernel
theorem dX10_loose_32 : decode cX10_loose 32 = .ok (.ldc 229, 2) := by decide +kernel
theorem dX10_loose_34 : decode cX10_loose 34 = .ok (.invokevirtual 75, 3) := by decide +kernel
theorem dX10_loose_37 : decode cX10_loose 37 = .ok (.ireturn, 1) := by decide +kernel
theorem dX10_loose_38 : decode cX10_loose 38 = .ok (.iconst 0, 1) := by decide +kernel
theorem dX10_loose_39 : decode cX10_loose 39 = .ok (.istore_n 2, 1) := by decide +kernel
theorem dX10_loose_40 : decode cX10_loose 40 = .ok (.iload_n 2, 1) := by decide +kernel
theorem dX10_loose_41 : decode cX10_loose 41 = .ok (.iload_n 1, 1) := by decide +kernel
theorem dX10_loose_42 : decode cX10_loose 42 = .ok (.if_icmp .ge 51, 3) := by decide +kernel
theorem dX10_loose_45 : decode cX10_loose 45 = .ok (.aload_n 0, 1) := by decide +kernel
theorem dX10_loose_46 : decode cX10_loose 46 = .ok (.getfield 9, 3) := by decide +kernel
theorem dX10_loose_49 : decode cX10_loose 49 = .ok (.iconst 1, 1) := by decide +kernel
theorem dX10_loose_50 : decode cX10_loose 50 = .ok (.iaload, 1) := by decide +kernel
theorem dX10_loose_51 : decode cX10_loose 51 = .ok (.ifCond .le 32, 3) := by decide +kernel
theorem dX10_loose_54 : decode cX10_loose 54 = .ok (.aload_n 0, 1) := by decide +kernel
theorem dX10_loose_55 : decode cX10_loose 55 = .ok (.invokevirtual 263, 3) := by decide +kernel
theorem dX10_loose_58 : decode cX10_loose 58 = .ok (.aload_n 0, 1) := by decide +kernel
theorem dX10_loose_59 : decode cX10_loose 59 = .ok (.getfield 9, 3) := by decide +kernel
theorem dX10_loose_62 : decode cX10_loose 62 = .ok (.iconst 1, 1) := by decide +kernel
theorem dX10_loose_63 : decode cX10_loose 63 = .ok (.iaload, 1) := by decide +kernel
theorem dX10_loose_64 : decode cX10_loose 64 = .ok (.irem, 1) := by decide +kernel
theorem dX10_loose_65 : decode cX10_loose 65 = .ok (.istore_n 3, 1) := by decide +kernel
theorem dX10_loose_66 : decode cX10_loose 66 = .ok (.aload_n 0, 1) := by decide +kernel
theorem dX10_loose_67 : decode cX10_loose 67 = .ok (.getfield 9, 3) := by decide +kernel
theorem dX10_loose_70 : decode cX10_loose 70 = .ok (.iload_n 3, 1) := by decide +kernel
theorem dX10_loose_71 : decode cX10_loose 71 = .ok (.iconst 2, 1) := by decide +kernel
theorem dX10_loose_72 : decode cX10_loose 72 = .ok (.invokestatic 156, 3) := by decide +kernel
theorem dX10_loose_75 : decode cX10_loose 75 = .ok (.aload_n 0, 1) := by decide +kernel
theorem dX10_loose_76 : decode cX10_loose 76 = .ok (.invokevirtual 263, 3) := by decide +kernel
theorem dX10_loose_79 : decode cX10_loose 79 = .ok (.bipush 10, 2) := by decide +kernel
theorem dX10_loose_81 : decode cX10_loose 81 = .ok (.irem, 1) := by decide +kernel
theorem dX10_loose_82 : decode cX10_loose 82 = .ok (.iastore, 1) := by decide +kernel
theorem dX10_loose_83 : decode cX10_loose 83 = .ok (.aload_n 0, 1) := by decide +kernel
theorem dX10_loose_84 : decode cX10_loose 84 = .ok (.invokevirtual 256, 3) := by decide +kernel
theorem dX10_loose_87 : decode cX10_loose 87 = .ok (.iinc 2 1, 3) := by decide +kernel
theorem dX10_loose_90 : decode cX10_loose 90 = .ok (.goto (-50), 3) := by decide +kernel
theorem dX10_loose_93 : decode cX10_loose 93 = .ok (.aload_n 0, 1) := by decide +kernel
theorem dX10_loose_94 : decode cX10_loose 94 = .ok (.getfield 9, 3) := by decide +kernel
theorem dX10_loose_97 : decode cX10_loose 97 = .ok (.iconst 3, 1) := by decide +kernel
theorem dX10_loose_98 : decode cX10_loose 98 = .ok (.iaload, 1) := by decide +kernel
theorem dX10_loose_99 : decode cX10_loose 99 = .ok (.ireturn, 1) := by decide +kernel
theorem dX10_then_0 : decode cX10_then 0 = .ok (.iload_n 1, 1) := by decide +kernel
theorem dX10_then_1 : decode cX10_then 1 = .ok (.iconst 0, 1) := by decide +kernel
theorem dX10_then_2 : decode cX10_then 2 = .ok (.bipush 60, 2) := by decide +kernel
theorem dX10_then_4 : decode cX10_then 4 = .ok (.invokestatic 70, 3) := by decide +kernel
theorem dX10_then_7 : decode cX10_then 7 = .ok (.ifCond .eq 27, 3) := by decide +kernel
theorem dX10_then_10 : decode cX10_then 10 = .ok (.aload_n 0, 1) := by decide +kernel
theorem dX10_then_11 : decode cX10_then 11 = .ok (.iload_n 2, 1) := by decide +kernel
theorem dX10_then_12 : decode cX10_then 12 = .ok (.invokevirtual 197, 3) := by decide +kernel
theorem dX10_then_15 : decode cX10_then 15 = .ok (.ifCond .eq 19, 3) := by decide +kernel
theorem dX10_then_18 : decode cX10_then 18 = .ok (.iload_n 3, 1) := by decide +kernel
theorem dX10_then_19 : decode cX10_then 19 = .ok (.iconst (-1), 1) := by decide +kernel
theorem dX10_then_20 : decode cX10_then 20 = .ok (.aload_n 0, 1) := by decide +kernel
theorem dX10_then_21 : decode cX10_then 21 = .ok (.getfield 9, 3) := by decide +kernel
theorem dX10_then_24 : decode cX10_then 24 = .ok (.iconst 1, 1) := by decide +kernel
theorem dX10_then_25 : decode cX10_then 25 = .ok (.iaload, 1) := by decide +kernel
theorem dX10_then_26 : decode cX10_then 26 = .ok (.iconst 1, 1) := by decide +kernel
theorem dX10_then_27 : decode cX10_then 27 = .ok (.isub, 1) := by decide +kernel
theorem dX10_then_28 : decode cX10_then 28 = .ok (.invokestatic 70, 3) := by decide +kernel
theorem dX10_then_31 : decode cX10_then 31 = .ok (.ifCond .ne 10, 3) := by decide +kernel
theorem dX10_then_34 : decode cX10_then 34 = .ok (.aload_n 0, 1) := by decide +kernel
theorem dX10_then_35 : decode cX10_then 35 = .ok (.ldc 74, 2) := by decide +kernel
theorem dX10_then_37 : decode cX10_then 37 = .ok (.invokevirtual 75, 3) := by decide +kernel
theorem dX10_then_40 : decode cX10_then 40 = .ok (.ireturn, 1) := by decide +kernel
theorem dX10_then_41 : decode cX10_then 41 = .ok (.aload_n 0, 1) := by decide +kernel
theorem dX10_then_42 : decode cX10_then 42 = .ok (.getfield 9, 3) := by decide +kernel
theorem dX10_then_45 : decode cX10_then 45 = .ok (.aload_n 0, 1) := by decide +kernel
theorem dX10_then_46 : decode cX10_then 46 = .ok (.getfield 16, 3) := by decide +kernel
theorem dX10_then_49 : decode cX10_then 49 = .ok (.invokestatic 66, 3) := by decide +kernel
theorem dX10_then_52 : decode cX10_then 52 = .ok (.aload_n 0, 1) := by decide +kernel
theorem dX10_then_53 : decode cX10_then 53 = .ok (.iload_n 1, 1) := by decide +kernel
theorem dX10_then_54 : decode cX10_then 54 = .ok (.invokevirtual 259, 3) := by decide +kernel
theorem dX10_then_57 : decode cX10_then 57 = .ok (.aload_n 0, 1) := by decide +kernel
theorem dX10_then_58 : decode cX10_then 58 = .ok (.aload_n 0, 1) := by decide +kernel
theorem dX10_then_59 : decode cX10_then 59 = .ok (.getfield 9, 3) := by decide +kernel
theorem dX10_then_62 : decode cX10_then 62 = .ok (.iload_n 3, 1) := by decide +kernel
theorem dX10_then_63 : decode cX10_then 63 = .ok (.ifCond .ge 11, 3) := by decide +kernel
theorem dX10_then_66 : decode cX10_then 66 = .ok (.iload_n 2, 1) := by decide +kernel
theorem dX10_then_67 : decode cX10_then 67 = .ok (.iconst 1, 1) := by decide +kernel
theorem dX10_then_68 : decode cX10_then 68 = .ok (.invokestatic 191, 3) := by decide +kernel
theorem dX10_then_71 : decode cX10_then 71 = .ok (.goto 8, 3) := by decide +kernel
theorem dX10_then_74 : decode cX10_then 74 = .ok (.iload_n 2, 1) := by decide +kernel
theorem dX10_then_75 : decode cX10_then 75 = .ok (.iload_n 3, 1) := by decide +kernel
theorem dX10_then_76 : decode cX10_then 76 = .ok (.invokestatic 162, 3) := by decide +kernel
theorem dX10_then_79 : decode cX10_then 79 = .ok (.iaload, 1) := by decide +kernel
theorem dX10_then_80 : decode cX10_then 80 = .ok (.invokevirtual 266, 3) := by decide +kernel
theorem dX10_then_83 : decode cX10_then 83 = .ok (.ireturn, 1) := by decide +kernel
theorem dX10_breaks_0 : decode cX10_breaks 0 = .ok (.aload_n 0, 1) := by decide +kernel
theorem dX10_breaks_1 : decode cX10_breaks 1 = .ok (.iload_n 1, 1) := by decide +kernel
theorem dX10_breaks_2 : decode cX10_breaks 2 = .ok (.invokevirtual 197, 3) := by decide +kernel
theorem dX10_breaks_5 : decode cX10_breaks 5 = .ok (.ifCond .ne 10, 3) := by decide +kernel
theorem dX10_breaks_8 : decode cX10_breaks 8 = .ok (.aload_n 0, 1) := by decide +kernel
theorem dX10_breaks_9 : decode cX10_breaks 9 = .ok (.ldc 74, 2) := by decide +kernel
theorem dX10_breaks_11 : decode cX10_breaks 11 = .ok (.invokevirtual 75, 3) := by decide +kernel
theorem dX10_breaks_14 : decode cX10_breaks 14 = .ok (.ireturn, 1) := by decide +kernel
theorem dX10_breaks_15 : decode cX10_breaks 15 = .ok (.aload_n 0, 1) := by decide +kernel
theorem dX10_breaks_16 : decode cX10_breaks 16 = .ok (.getfield 9, 3) := by decide +kernel
theorem dX10_breaks_19 : decode cX10_breaks 19 = .ok (.aload_n 0, 1) := by decide +kernel
theorem dX10_breaks_20 : decode cX10_breaks 20 = .ok (.getfield 16, 3) := by decide +kernel
theorem dX10_breaks_23 : decode cX10_breaks 23 = .ok (.invokestatic 66, 3) := by decide +kernel
theorem dX10_breaks_26 : decode cX10_breaks 26 = .ok (.iload_n 1, 1) := by decide +kernel
theorem dX10_breaks_27 : decode cX10_breaks 27 = .ok (.iconst 1, 1) := by decide +kernel
theorem dX10_breaks_28 : decode cX10_breaks 28 = .ok (.invokestatic 191, 3) := by decide +kernel
theorem dX10_breaks_31 : decode cX10_breaks 31 = .ok (.istore_n 2, 1) := by decide +kernel
theorem dX10_breaks_32 : decode cX10_breaks 32 = .ok (.iconst 0, 1) := by decide +kernel
theorem dX10_breaks_33 : decode cX10_breaks 33 = .ok (.istore_n 3, 1) := by decide +kernel
theorem dX10_breaks_34 : decode cX10_breaks 34 = .ok (.iload_n 3, 1) := by decide +kernel
theorem dX10_breaks_35 : decode cX10_breaks 35 = .ok (.bipush 60, 2) := by decide +kernel
theorem dX10_breaks_37 : decode cX10_breaks 37 = .ok (.if_icmp .ge 28, 3) := by decide +kernel
theorem dX10_breaks_40 : decode cX10_breaks 40 = .ok (.aload_n 0, 1) := by decide +kernel
theorem dX10_breaks_41 : decode cX10_breaks 41 = .ok (.getfield 9, 3) := by decide +kernel
theorem dX10_breaks_44 : decode cX10_breaks 44 = .ok (.iload_n 2, 1) := by decide +kernel
theorem dX10_breaks_45 : decode cX10_breaks 45 = .ok (.iaload, 1) := by decide +kernel
theorem dX10_breaks_46 : decode cX10_breaks 46 = .ok (.aload_n 0, 1) := by decide +kernel
theorem dX10_breaks_47 : decode cX10_breaks 47 = .ok (.getfield 16, 3) := by decide +kernel
theorem dX10_breaks_50 : decode cX10_breaks 50 = .ok (.iload_n 2, 1) := by decide +kernel
theorem dX10_breaks_51 : decode cX10_breaks 51 = .ok (.iaload, 1) := by decide +kernel
theorem dX10_breaks_52 : decode cX10_breaks 52 = .ok (.if_icmp .ne 13, 3) := by decide +kernel
theorem dX10_breaks_55 : decode cX10_breaks 55 = .ok (.aload_n 0, 1) := by decide +kernel
theorem dX10_breaks_56 : decode cX10_breaks 56 = .ok (.invokevirtual 256, 3) := by decide +kernel
theorem dX10_breaks_59 : decode cX10_breaks 59 = .ok (.iinc 3 1, 3) := by decide +kernel
theorem dX10_breaks_62 : decode cX10_breaks 62 = .ok (.goto (-28), 3) := by decide +kernel
theorem dX10_breaks_65 : decode cX10_breaks 65 = .ok (.aload_n 0, 1) := by decide +kernel
theorem dX10_breaks_66 : decode cX10_breaks 66 = .ok (.getfield 9, 3) := by decide +kernel
theorem dX10_breaks_69 : decode cX10_breaks 69 = .ok (.iload_n 2, 1) := by decide +kernel
theorem dX10_breaks_70 : decode cX10_breaks 70 = .ok (.iaload, 1) := by decide +kernel
theorem dX10_breaks_71 : decode cX10_breaks 71 = .ok (.aload_n 0, 1) := by decide +kernel
theorem dX10_breaks_72 : decode cX10_breaks 72 = .ok (.getfield 16, 3) := by decide +kernel
theorem dX10_breaks_75 : decode cX10_breaks 75 = .ok (.iload_n 2, 1) := by decide +kernel
theorem dX10_breaks_76 : decode cX10_breaks 76 = .ok (.iaload, 1) := by decide +kernel
theorem dX10_breaks_77 : decode cX10_breaks 77 = .ok (.if_icmp .le 7, 3) := by decide +kernel
theorem dX10_breaks_80 : decode cX10_breaks 80 = .ok (.iconst 1, 1) := by decide +kernel
theorem dX10_breaks_81 : decode cX10_breaks 81 = .ok (.goto 4, 3) := by decide +kernel
theorem dX10_breaks_84 : decode cX10_breaks 84 = .ok (.iconst 0, 1) := by decide +kernel
theorem dX10_breaks_85 : decode cX10_breaks 85 = .ok (.istore 4, 2) := by decide +kernel
theorem dX10_breaks_87 : decode cX10_breaks 87 = .ok (.aload_n 0, 1) := by decide +kernel
theorem dX10_breaks_88 : decode cX10_breaks 88 = .ok (.getfield 16, 3) := by decide +kernel
theorem dX10_breaks_91 : decode cX10_breaks 91 = .ok (.aload_n 0, 1) := by decide +kernel
theorem dX10_breaks_92 : decode cX10_breaks 92 = .ok (.getfield 9, 3) := by decide +kernel
theorem dX10_breaks_95 : decode cX10_breaks 95 = .ok (.invokestatic 66, 3) := by decide +kernel
theorem dX10_breaks_98 : decode cX10_breaks 98 = .ok (.iload 4, 2) := by decide +kernel
theorem dX10_breaks_100 : decode cX10_breaks 100 = .ok (.ifCond .eq 7, 3) := by decide +kernel
theorem dX10_breaks_103 : decode cX10_breaks 103 = .ok (.iload_n 3, 1) := by decide +kernel
theorem dX10_breaks_104 : decode cX10_breaks 104 = .ok (.goto 9, 3) := by decide +kernel
theorem dX10_breaks_107 : decode cX10_breaks 107 = .ok (.aload_n 0, 1) := by decide +kernel
theorem dX10_breaks_108 : decode cX10_breaks 108 = .ok (.ldc 225, 2) := by decide +kernel
theorem dX10_breaks_110 : decode cX10_breaks 110 = .ok (.invokevirtual 75, 3) := by decide +kernel
theorem dX10_breaks_113 : decode cX10_breaks 113 = .ok (.ireturn, 1) := by decide +kernel
theorem dX10_bushels_0 : decode cX10_bushels 0 = .ok (.iconst 0, 1) := by decide +kernel
theorem dX10_bushels_1 : decode cX10_bushels 1 = .ok (.istore_n 1, 1) := by decide +kernel
theorem dX10_bushels_2 : decode cX10_bushels 2 = .ok (.iconst 0, 1) := by decide +kernel
theorem dX10_bushels_3 : decode cX10_bushels 3 = .ok (.istore_n 2, 1) := by decide +kernel
theorem dX10_bushels_4 : decode cX10_bushels 4 = .ok (.iload_n 2, 1) := by decide +kernel
theorem dX10_bushels_5 : decode cX10_bushels 5 = .ok (.iconst 5, 1) := by decide +kernel
theorem dX10_bushels_6 : decode cX10_bushels 6 = .ok (.if_icmp .ge 17, 3) := by decide +kernel
theorem dX10_bushels_9 : decode cX10_bushels 9 = .ok (.iload_n 1, 1) := by decide +kernel
theorem dX10_bushels_10 : decode cX10_bushels 10 = .ok (.iload_n 0, 1) := by decide +kernel
theorem dX10_bushels_11 : decode cX10_bushels 11 = .ok (.iload_n 2, 1) := by decide +kernel
theorem dX10_bushels_12 : decode cX10_bushels 12 = .ok (.invokestatic 204, 3) := by decide +kernel
theorem dX10_bushels_15 : decode cX10_bushels 15 = .ok (.iadd, 1) := by decide +kernel
theorem dX10_bushels_16 : decode cX10_bushels 16 = .ok (.istore_n 1, 1) := by decide +kernel
theorem dX10_bushels_17 : decode cX10_bushels 17 = .ok (.iinc 2 1, 3) := by decide +kernel
theorem dX10_bushels_20 : decode cX10_bushels 20 = .ok (.goto (-16), 3) := by decide +kernel
theorem dX10_bushels_23 : decode cX10_bushels 23 = .ok (.iload_n 1, 1) := by decide +kernel
theorem dX10_bushels_24 : decode cX10_bushels 24 = .ok (.ireturn, 1) := by decide +kernel
theorem dX10_mixOf_0 : decode cX10_mixOf 0 = .ok (.iconst 0, 1) := by decide +kernel
theorem dX10_mixOf_1 : decode cX10_mixOf 1 = .ok (.istore_n 1, 1) := by decide +kernel
theorem dX10_mixOf_2 : decode cX10_mixOf 2 = .ok (.iload_n 0, 1) := by decide +kernel
theorem dX10_mixOf_3 : decode cX10_mixOf 3 = .ok (.istore_n 2, 1) := by decide +kernel
theorem dX10_mixOf_4 : decode cX10_mixOf 4 = .ok (.iconst 1, 1) := by decide +kernel
theorem dX10_mixOf_5 : decode cX10_mixOf 5 = .ok (.istore_n 3, 1) := by decide +kernel
theorem dX10_mixOf_6 : decode cX10_mixOf 6 = .ok (.iload_n 3, 1) := by decide +kernel
theorem dX10_mixOf_7 : decode cX10_mixOf 7 = .ok (.ldc_w 269, 3) := by decide +kernel
theorem dX10_mixOf_10 : decode cX10_mixOf 10 = .ok (.if_icmp .ge 23, 3) := by decide +kernel
theorem dX10_mixOf_13 : decode cX10_mixOf 13 = .ok (.iload_n 1, 1) := by decide +kernel
theorem dX10_mixOf_14 : decode cX10_mixOf 14 = .ok (.iload_n 2, 1) := by decide +kernel
theorem dX10_mixOf_15 : decode cX10_mixOf 15 = .ok (.iconst 4, 1) := by decide +kernel
theorem dX10_mixOf_16 : decode cX10_mixOf 16 = .ok (.irem, 1) := by decide +kernel
theorem dX10_mixOf_17 : decode cX10_mixOf 17 = .ok (.iload_n 3, 1) := by decide +kernel
theorem dX10_mixOf_18 : decode cX10_mixOf 18 = .ok (.imul, 1) := by decide +kernel
theorem dX10_mixOf_19 : decode cX10_mixOf 19 = .ok (.iadd, 1) := by decide +kernel
theorem dX10_mixOf_20 : decode cX10_mixOf 20 = .ok (.istore_n 1, 1) := by decide +kernel
theorem dX10_mixOf_21 : decode cX10_mixOf 21 = .ok (.iload_n 2, 1) := by decide +kernel
theorem dX10_mixOf_22 : decode cX10_mixOf 22 = .ok (.iconst 4, 1) := by decide +kernel
theorem dX10_mixOf_23 : decode cX10_mixOf 23 = .ok (.idiv, 1) := by decide +kernel
theorem dX10_mixOf_24 : decode cX10_mixOf 24 = .ok (.istore_n 2, 1) := by decide +kernel
theorem dX10_mixOf_25 : decode cX10_mixOf 25 = .ok (.iload_n 3, 1) := by decide +kernel
theorem dX10_mixOf_26 : decode cX10_mixOf 26 = .ok (.bipush 10, 2) := by decide +kernel
theorem dX10_mixOf_28 : decode cX10_mixOf 28 = .ok (.imul, 1) := by decide +kernel
theorem dX10_mixOf_29 : decode cX10_mixOf 29 = .ok (.istore_n 3, 1) := by decide +kernel
theorem dX10_mixOf_30 : decode cX10_mixOf 30 = .ok (.goto (-24), 3) := by decide +kernel
theorem dX10_mixOf_33 : decode cX10_mixOf 33 = .ok (.iload_n 1, 1) := by decide +kernel
theorem dX10_mixOf_34 : decode cX10_mixOf 34 = .ok (.ireturn, 1) := by decide +kernel
theorem dX10_recipe_0 : decode cX10_recipe 0 = .ok (.aload_n 0, 1) := by decide +kernel
theorem dX10_recipe_1 : decode cX10_recipe 1 = .ok (.iload_n 1, 1) := by decide +kernel
theorem dX10_recipe_2 : decode cX10_recipe 2 = .ok (.invokevirtual 197, 3) := by decide +kernel
theorem dX10_recipe_5 : decode cX10_recipe 5 = .ok (.ifCond .eq 17, 3) := by decide +kernel
theorem dX10_recipe_8 : decode cX10_recipe 8 = .ok (.iload_n 2, 1) := by decide +kernel
theorem dX10_recipe_9 : decode cX10_recipe 9 = .ok (.invokestatic 216, 3) := by decide +kernel
theorem dX10_recipe_12 : decode cX10_recipe 12 = .ok (.ifCond .eq 10, 3) := by decide +kernel
theorem dX10_recipe_15 : decode cX10_recipe 15 = .ok (.iload_n 3, 1) := by decide +kernel
theorem dX10_recipe_16 : decode cX10_recipe 16 = .ok (.invokestatic 216, 3) := by decide +kernel
theorem dX10_recipe_19 : decode cX10_recipe 19 = .ok (.ifCond .ne 10, 3) := by decide +kernel
theorem dX10_recipe_22 : decode cX10_recipe 22 = .ok (.aload_n 0, 1) := by decide +kernel
theorem dX10_recipe_23 : decode cX10_recipe 23 = .ok (.ldc 74, 2) := by decide +kernel
theorem dX10_recipe_25 : decode cX10_recipe 25 = .ok (.invokevirtual 75, 3) := by decide +kernel
theorem dX10_recipe_28 : decode cX10_recipe 28 = .ok (.ireturn, 1) := by decide +kernel
theorem dX10_recipe_29 : decode cX10_recipe 29 = .ok (.iconst (-1), 1) := by decide +kernel
theorem dX10_recipe_30 : decode cX10_recipe 30 = .ok (.istore 4, 2) := by decide +kernel
theorem dX10_recipe_32 : decode cX10_recipe 32 = .ok (.iconst 1, 1) := by decide +kernel
theorem dX10_recipe_33 : decode cX10_recipe 33 = .ok (.istore 5, 2) := by decide +kernel
theorem dX10_recipe_35 : decode cX10_recipe 35 = .ok (.iload 5, 2) := by decide +kernel
theorem dX10_recipe_37 : decode cX10_recipe 37 = .ok (.iconst 1, 1) := by decide +kernel
theorem dX10_recipe_38 : decode cX10_recipe 38 = .ok (.iconst 2, 1) := by decide +kernel
theorem dX10_recipe_39 : decode cX10_recipe 39 = .ok (.aload_n 0, 1) := by decide +kernel
theorem dX10_recipe_40 : decode cX10_recipe 40 = .ok (.getfield 9, 3) := by decide +kernel
theorem dX10_recipe_43 : decode cX10_recipe 43 = .ok (.iconst 1, 1) := by decide +kernel
theorem dX10_recipe_44 : decode cX10_recipe 44 = .ok (.iaload, 1) := by decide +kernel
theorem dX10_recipe_45 : decode cX10_recipe 45 = .ok (.imul, 1) := by decide +kernel
theorem dX10_recipe_46 : decode cX10_recipe 46 = .ok (.ishl, 1) := by decide +kernel
theorem dX10_recipe_47 : decode cX10_recipe 47 = .ok (.if_icmp .ge 86, 3) := by decide +kernel
theorem dX10_recipe_50 : decode cX10_recipe 50 = .ok (.iload 5, 2) := by decide +kernel
theorem dX10_recipe_52 : decode cX10_recipe 52 = .ok (.invokestatic 270, 3) := by decide +kernel
theorem dX10_recipe_55 : decode cX10_recipe 55 = .ok (.istore 6, 2) := by decide +kernel
theorem dX10_recipe_57 : decode cX10_recipe 57 = .ok (.iload 4, 2) := by decide +kernel
theorem dX10_recipe_59 : decode cX10_recipe 59 = .ok (.ifCond .lt 16, 3) := by decide +kernel
theorem dX10_recipe_62 : decode cX10_recipe 62 = .ok (.iload 6, 2) := by decide +kernel
theorem dX10_recipe_64 : decode cX10_recipe 64 = .ok (.invokestatic 273, 3) := by decide +kernel
theorem dX10_recipe_67 : decode cX10_recipe 67 = .ok (.iload 4, 2) := by decide +kernel
theorem dX10_recipe_69 : decode cX10_recipe 69 = .ok (.invokestatic 273, 3) := by decide +kernel
theorem dX10_recipe_72 : decode cX10_recipe 72 = .ok (.if_icmp .ge 27, 3) := by decide +kernel
theorem dX10_recipe_75 : decode cX10_recipe 75 = .ok (.aload_n 0, 1) := by decide +kernel
theorem dX10_recipe_76 : decode cX10_recipe 76 = .ok (.iload_n 1, 1) := by decide +kernel
theorem dX10_recipe_77 : decode cX10_recipe 77 = .ok (.iload 6, 2) := by decide +kernel
theorem dX10_recipe_79 : decode cX10_recipe 79 = .ok (.invokevirtual 226, 3) := by decide +kernel
theorem dX10_recipe_82 : decode cX10_recipe 82 = .ok (.ifCond .eq 17, 3) := by decide +kernel
theorem dX10_recipe_85 : decode cX10_recipe 85 = .ok (.aload_n 0, 1) := by decide +kernel
theorem dX10_recipe_86 : decode cX10_recipe 86 = .ok (.iload 6, 2) := by decide +kernel
theorem dX10_recipe_88 : decode cX10_recipe 88 = .ok (.iload_n 3, 1) := by decide +kernel
theorem dX10_recipe_89 : decode cX10_recipe 89 = .ok (.invokevirtual 219, 3) := by decide +kernel
theorem dX10_recipe_92 : decode cX10_recipe 92 = .ok (.ifCond .ne 7, 3) := by decide +kernel
theorem dX10_recipe_95 : decode cX10_recipe 95 = .ok (.iconst 1, 1) := by decide +kernel
theorem dX10_recipe_96 : decode cX10_recipe 96 = .ok (.goto 4, 3) := by decide +kernel
theorem dX10_recipe_99 : decode cX10_recipe 99 = .ok (.iconst 0, 1) := by decide +kernel
theorem dX10_recipe_100 : decode cX10_recipe 100 = .ok (.istore 7, 2) := by decide +kernel
theorem dX10_recipe_102 : decode cX10_recipe 102 = .ok (.iload 7, 2) := by decide +kernel
theorem dX10_recipe_104 : decode cX10_recipe 104 = .ok (.ifCond .eq 19, 3) := by decide +kernel
theorem dX10_recipe_107 : decode cX10_recipe 107 = .ok (.aload_n 0, 1) := by decide +kernel
theorem dX10_recipe_108 : decode cX10_recipe 108 = .ok (.iload 6, 2) := by decide +kernel
theorem dX10_recipe_110 : decode cX10_recipe 110 = .ok (.iload_n 3, 1) := by decide +kernel
theorem dX10_recipe_111 : decode cX10_recipe 111 = .ok (.invokevirtual 222, 3) := by decide +kernel
theorem dX10_recipe_114 : decode cX10_recipe 114 = .ok (.iload_n 2, 1) := by decide +kernel
theorem dX10_recipe_115 : decode cX10_recipe 115 = .ok (.if_icmp .ne 8, 3) := by decide +kernel
theorem dX10_recipe_118 : decode cX10_recipe 118 = .ok (.iload 6, 2) := by decide +kernel
theorem dX10_recipe_120 : decode cX10_recipe 120 = .ok (.goto 5, 3) := by decide +kernel
theorem dX10_recipe_123 : decode cX10_recipe 123 = .ok (.iload 4, 2) := by decide +kernel
theorem dX10_recipe_125 : decode cX10_recipe 125 = .ok (.istore 4, 2) := by decide +kernel
theorem dX10_recipe_127 : decode cX10_recipe 127 = .ok (.iinc 5 1, 3) := by decide +kernel
theorem dX10_recipe_130 : decode cX10_recipe 130 = .ok (.goto (-95), 3) := by decide +kernel
theorem dX10_recipe_133 : decode cX10_recipe 133 = .ok (.iload 4, 2) := by decide +kernel
theorem dX10_recipe_135 : decode cX10_recipe 135 = .ok (.ifCond .ge 12, 3) := by decide +kernel
theorem dX10_recipe_138 : decode cX10_recipe 138 = .ok (.aload_n 0, 1) := by decide +kernel
theorem dX10_recipe_139 : decode cX10_recipe 139 = .ok (.ldc 225, 2) := by decide +kernel
theorem dX10_recipe_141 : decode cX10_recipe 141 = .ok (.invokevirtual 75, 3) := by decide +kernel
theorem dX10_recipe_144 : decode cX10_recipe 144 = .ok (.goto 5, 3) := by decide +kernel
theorem dX10_recipe_147 : decode cX10_recipe 147 = .ok (.iload 4, 2) := by decide +kernel
theorem dX10_recipe_149 : decode cX10_recipe 149 = .ok (.ireturn, 1) := by decide +kernel
theorem dX10_heatsOf_0 : decode cX10_heatsOf 0 = .ok (.iconst 0, 1) := by decide +kernel
theorem dX10_heatsOf_1 : decode cX10_heatsOf 1 = .ok (.istore_n 3, 1) := by decide +kernel
theorem dX10_heatsOf_2 : decode cX10_heatsOf 2 = .ok (.iconst 0, 1) := by decide +kernel
theorem dX10_heatsOf_3 : decode cX10_heatsOf 3 = .ok (.istore 4, 2) := by decide +kernel
theorem dX10_heatsOf_5 : decode cX10_heatsOf 5 = .ok (.iload 4, 2) := by decide +kernel
theorem dX10_heatsOf_7 : decode cX10_heatsOf 7 = .ok (.bipush 10, 2) := by decide +kernel
theorem dX10_heatsOf_9 : decode cX10_heatsOf 9 = .ok (.if_icmp .ge 41, 3) := by decide +kernel
theorem dX10_heatsOf_12 : decode cX10_heatsOf 12 = .ok (.iload_n 3, 1) := by decide +kernel
theorem dX10_heatsOf_13 : decode cX10_heatsOf 13 = .ok (.aload_n 0, 1) := by decide +kernel
theorem dX10_heatsOf_14 : decode cX10_heatsOf 14 = .ok (.iload_n 1, 1) := by decide +kernel
theorem dX10_heatsOf_15 : decode cX10_heatsOf 15 = .ok (.iload 4, 2) := by decide +kernel
theorem dX10_heatsOf_17 : decode cX10_heatsOf 17 = .ok (.invokevirtual 219, 3) := by decide +kernel
theorem dX10_heatsOf_20 : decode cX10_heatsOf 20 = .ok (.ifCond .ne 21, 3) := by decide +kernel
theorem dX10_heatsOf_23 : decode cX10_heatsOf 23 = .ok (.aload_n 0, 1) := by decide +kernel
theorem dX10_heatsOf_24 : decode cX10_heatsOf 24 = .ok (.iload_n 1, 1) := by decide +kernel
theorem dX10_heatsOf_25 : decode cX10_heatsOf 25 = .ok (.iload 4, 2) := by decide +kernel
theorem dX10_heatsOf_27 : decode cX10_heatsOf 27 = .ok (.invokevirtual 222, 3) := by decide +kernel
theorem dX10_heatsOf_30 : decode cX10_heatsOf 30 = .ok (.iload_n 2, 1) := by decide +kernel
theorem dX10_heatsOf_31 : decode cX10_heatsOf 31 = .ok (.if_icmp .ne 10, 3) := by decide +kernel
theorem dX10_heatsOf_34 : decode cX10_heatsOf 34 = .ok (.iconst 1, 1) := by decide +kernel
theorem dX10_heatsOf_35 : decode cX10_heatsOf 35 = .ok (.iload 4, 2) := by decide +kernel
theorem dX10_heatsOf_37 : decode cX10_heatsOf 37 = .ok (.ishl, 1) := by decide +kernel
theorem dX10_heatsOf_38 : decode cX10_heatsOf 38 = .ok (.goto 4, 3) := by decide +kernel
theorem dX10_heatsOf_41 : decode cX10_heatsOf 41 = .ok (.iconst 0, 1) := by decide +kernel
theorem dX10_heatsOf_42 : decode cX10_heatsOf 42 = .ok (.ior, 1) := by decide +kernel
theorem dX10_heatsOf_43 : decode cX10_heatsOf 43 = .ok (.istore_n 3, 1) := by decide +kernel
theorem dX10_heatsOf_44 : decode cX10_heatsOf 44 = .ok (.iinc 4 1, 3) := by decide +kernel
theorem dX10_heatsOf_47 : decode cX10_heatsOf 47 = .ok (.goto (-42), 3) := by decide +kernel
theorem dX10_heatsOf_50 : decode cX10_heatsOf 50 = .ok (.iload_n 3, 1) := by decide +kernel
theorem dX10_heatsOf_51 : decode cX10_heatsOf 51 = .ok (.ireturn, 1) := by decide +kernel
theorem dX10_heats_0 : decode cX10_heats 0 = .ok (.aload_n 0, 1) := by decide +kernel
theorem dX10_heats_1 : decode cX10_heats 1 = .ok (.iload_n 1, 1) := by decide +kernel
theorem dX10_heats_2 : decode cX10_heats 2 = .ok (.invokevirtual 213, 3) := by decide +kernel
theorem dX10_heats_5 : decode cX10_heats 5 = .ok (.ifCond .eq 19, 3) := by decide +kernel
theorem dX10_heats_8 : decode cX10_heats 8 = .ok (.iload_n 2, 1) := by decide +kernel
theorem dX10_heats_9 : decode cX10_heats 9 = .ok (.invokestatic 216, 3) := by decide +kernel
theorem dX10_heats_12 : decode cX10_heats 12 = .ok (.ifCond .eq 12, 3) := by decide +kernel
theorem dX10_heats_15 : decode cX10_heats 15 = .ok (.aload_n 0, 1) := by decide +kernel
theorem dX10_heats_16 : decode cX10_heats 16 = .ok (.iload_n 1, 1) := by decide +kernel
theorem dX10_heats_17 : decode cX10_heats 17 = .ok (.iload_n 2, 1) := by decide +kernel
theorem dX10_heats_18 : decode cX10_heats 18 = .ok (.invokevirtual 276, 3) := by decide +kernel
theorem dX10_heats_21 : decode cX10_heats 21 = .ok (.goto 9, 3) := by decide +kernel
theorem dX10_heats_24 : decode cX10_heats 24 = .ok (.aload_n 0, 1) := by decide +kernel
theorem dX10_heats_25 : decode cX10_heats 25 = .ok (.ldc 74, 2) := by decide +kernel
theorem dX10_heats_27 : decode cX10_heats 27 = .ok (.invokevirtual 75, 3) := by decide +kernel
theorem dX10_heats_30 : decode cX10_heats 30 = .ok (.ireturn, 1) := by decide +kernel
theorem dX10_burnt_0 : decode cX10_burnt 0 = .ok (.iload_n 1, 1) := by decide +kernel
theorem dX10_burnt_1 : decode cX10_burnt 1 = .ok (.invokestatic 279, 3) := by decide +kernel
theorem dX10_burnt_4 : decode cX10_burnt 4 = .ok (.ifCond .ne 10, 3) := by decide +kernel
theorem dX10_burnt_7 : decode cX10_burnt 7 = .ok (.aload_n 0, 1) := by decide +kernel
theorem dX10_burnt_8 : decode cX10_burnt 8 = .ok (.ldc 74, 2) := by decide +kernel
theorem dX10_burnt_10 : decode cX10_burnt 10 = .ok (.invokevirtual 75, 3) := by decide +kernel
theorem dX10_burnt_13 : decode cX10_burnt 13 = .ok (.ireturn, 1) := by decide +kernel
theorem dX10_burnt_14 : decode cX10_burnt 14 = .ok (.aload_n 0, 1) := by decide +kernel
theorem dX10_burnt_15 : decode cX10_burnt 15 = .ok (.getfield 44, 3) := by decide +kernel
theorem dX10_burnt_18 : decode cX10_burnt 18 = .ok (.iload_n 1, 1) := by decide +kernel
theorem dX10_burnt_19 : decode cX10_burnt 19 = .ok (.iaload, 1) := by decide +kernel
theorem dX10_burnt_20 : decode cX10_burnt 20 = .ok (.ifCond .eq 14, 3) := by decide +kernel
theorem dX10_burnt_23 : decode cX10_burnt 23 = .ok (.aload_n 0, 1) := by decide +kernel
theorem dX10_burnt_24 : decode cX10_burnt 24 = .ok (.getfield 47, 3) := by decide +kernel
theorem dX10_burnt_27 : decode cX10_burnt 27 = .ok (.iload_n 1, 1) := by decide +kernel
theorem dX10_burnt_28 : decode cX10_burnt 28 = .ok (.iaload, 1) := by decide +kernel
theorem dX10_burnt_29 : decode cX10_burnt 29 = .ok (.bipush 10, 2) := by decide +kernel
theorem dX10_burnt_31 : decode cX10_burnt 31 = .ok (.if_icmp .le 10, 3) := by decide +kernel
theorem dX10_burnt_34 : decode cX10_burnt 34 = .ok (.aload_n 0, 1) := by decide +kernel
theorem dX10_burnt_35 : decode cX10_burnt 35 = .ok (.ldc 225, 2) := by decide +kernel
theorem dX10_burnt_37 : decode cX10_burnt 37 = .ok (.invokevirtual 75, 3) := by decide +kernel
theorem dX10_burnt_40 : decode cX10_burnt 40 = .ok (.ireturn, 1) := by decide +kernel
theorem dX10_burnt_41 : decode cX10_burnt 41 = .ok (.iconst 0, 1) := by decide +kernel
theorem dX10_burnt_42 : decode cX10_burnt 42 = .ok (.istore_n 2, 1) := by decide +kernel
theorem dX10_burnt_43 : decode cX10_burnt 43 = .ok (.iconst 0, 1) := by decide +kernel
theorem dX10_burnt_44 : decode cX10_burnt 44 = .ok (.istore_n 3, 1) := by decide +kernel
theorem dX10_burnt_45 : decode cX10_burnt 45 = .ok (.iload_n 3, 1) := by decide +kernel
theorem dX10_burnt_46 : decode cX10_burnt 46 = .ok (.aload_n 0, 1) := by decide +kernel
theorem dX10_burnt_47 : decode cX10_burnt 47 = .ok (.getfield 9, 3) := by decide +kernel
theorem dX10_burnt_50 : decode cX10_burnt 50 = .ok (.iconst 1, 1) := by decide +kernel
theorem dX10_burnt_51 : decode cX10_burnt 51 = .ok (.iaload, 1) := by decide +kernel
theorem dX10_burnt_52 : decode cX10_burnt 52 = .ok (.if_icmp .ge 93, 3) := by decide +kernel
theorem dX10_burnt_55 : decode cX10_burnt 55 = .ok (.iconst 1, 1) := by decide +kernel
theorem dX10_burnt_56 : decode cX10_burnt 56 = .ok (.istore 4, 2) := by decide +kernel
theorem dX10_burnt_58 : decode cX10_burnt 58 = .ok (.iconst 0, 1) := by decide +kernel
theorem dX10_burnt_59 : decode cX10_burnt 59 = .ok (.istore 5, 2) := by decide +kernel
theorem dX10_burnt_61 : decode cX10_burnt 61 = .ok (.iload 5, 2) := by decide +kernel
theorem dX10_burnt_63 : decode cX10_burnt 63 = .ok (.aload_n 0, 1) := by decide +kernel
theorem dX10_burnt_64 : decode cX10_burnt 64 = .ok (.getfield 47, 3) := by decide +kernel
theorem dX10_burnt_67 : decode cX10_burnt 67 = .ok (.iload_n 1, 1) := by decide +kernel
theorem dX10_burnt_68 : decode cX10_burnt 68 = .ok (.iaload, 1) := by decide +kernel
theorem dX10_burnt_69 : decode cX10_burnt 69 = .ok (.if_icmp .ge 55, 3) := by decide +kernel
theorem dX10_burnt_72 : decode cX10_burnt 72 = .ok (.aload_n 0, 1) := by decide +kernel
theorem dX10_burnt_73 : decode cX10_burnt 73 = .ok (.getfield 50, 3) := by decide +kernel
theorem dX10_burnt_76 : decode cX10_burnt 76 = .ok (.bipush 40, 2) := by decide +kernel
theorem dX10_burnt_78 : decode cX10_burnt 78 = .ok (.iload_n 1, 1) := by decide +kernel
theorem dX10_burnt_79 : decode cX10_burnt 79 = .ok (.imul, 1) := by decide +kernel
theorem dX10_burnt_80 : decode cX10_burnt 80 = .ok (.iload 5, 2) := by decide +kernel
theorem dX10_burnt_82 : decode cX10_burnt 82 = .ok (.iadd, 1) := by decide +kernel
theorem dX10_burnt_83 : decode cX10_burnt 83 = .ok (.iaload, 1) := by decide +kernel
theorem dX10_burnt_84 : decode cX10_burnt 84 = .ok (.istore 6, 2) := by decide +kernel
theorem dX10_burnt_86 : decode cX10_burnt 86 = .ok (.iload 4, 2) := by decide +kernel
theorem dX10_burnt_88 : decode cX10_burnt 88 = .ok (.ifCond .eq 27, 3) := by decide +kernel
theorem dX10_burnt_91 : decode cX10_burnt 91 = .ok (.iload 6, 2) := by decide +kernel
theorem dX10_burnt_93 : decode cX10_burnt 93 = .ok (.ifCond .lt 18, 3) := by decide +kernel
theorem dX10_burnt_96 : decode cX10_burnt 96 = .ok (.iload 6, 2) := by decide +kernel
theorem dX10_burnt_98 : decode cX10_burnt 98 = .ok (.aload_n 0, 1) := by decide +kernel
theorem dX10_burnt_99 : decode cX10_burnt 99 = .ok (.iload_n 3, 1) := by decide +kernel
theorem dX10_burnt_100 : decode cX10_burnt 100 = .ok (.iload 5, 2) := by decide +kernel
theorem dX10_burnt_102 : decode cX10_burnt 102 = .ok (.invokevirtual 207, 3) := by decide +kernel
theorem dX10_burnt_105 : decode cX10_burnt 105 = .ok (.invokestatic 210, 3) := by decide +kernel
theorem dX10_burnt_108 : decode cX10_burnt 108 = .ok (.if_icmp .ne 7, 3) := by decide +kernel
theorem dX10_burnt_111 : decode cX10_burnt 111 = .ok (.iconst 1, 1) := by decide +kernel
theorem dX10_burnt_112 : decode cX10_burnt 112 = .ok (.goto 4, 3) := by decide +kernel
theorem dX10_burnt_115 : decode cX10_burnt 115 = .ok (.iconst 0, 1) := by decide +kernel
theorem dX10_burnt_116 : decode cX10_burnt 116 = .ok (.istore 4, 2) := by decide +kernel
theorem dX10_burnt_118 : decode cX10_burnt 118 = .ok (.iinc 5 1, 3) := by decide +kernel
theorem dX10_burnt_121 : decode cX10_burnt 121 = .ok (.goto (-60), 3) := by decide +kernel
theorem dX10_burnt_124 : decode cX10_burnt 124 = .ok (.iload_n 2, 1) := by decide +kernel
theorem dX10_burnt_125 : decode cX10_burnt 125 = .ok (.iload 4, 2) := by decide +kernel
theorem dX10_burnt_127 : decode cX10_burnt 127 = .ok (.ifCond .eq 9, 3) := by decide +kernel
theorem dX10_burnt_130 : decode cX10_burnt 130 = .ok (.iconst 1, 1) := by decide +kernel
theorem dX10_burnt_131 : decode cX10_burnt 131 = .ok (.iload_n 3, 1) := by decide +kernel
theorem dX10_burnt_132 : decode cX10_burnt 132 = .ok (.ishl, 1) := by decide +kernel
theorem dX10_burnt_133 : decode cX10_burnt 133 = .ok (.goto 4, 3) := by decide +kernel
theorem dX10_burnt_136 : decode cX10_burnt 136 = .ok (.iconst 0, 1) := by decide +kernel
theorem dX10_burnt_137 : decode cX10_burnt 137 = .ok (.ior, 1) := by decide +kernel
theorem dX10_burnt_138 : decode cX10_burnt 138 = .ok (.istore_n 2, 1) := by decide +kernel
theorem dX10_burnt_139 : decode cX10_burnt 139 = .ok (.iinc 3 1, 3) := by decide +kernel
theorem dX10_burnt_142 : decode cX10_burnt 142 = .ok (.goto (-97), 3) := by decide +kernel
theorem dX10_burnt_145 : decode cX10_burnt 145 = .ok (.iload_n 2, 1) := by decide +kernel
theorem dX10_burnt_146 : decode cX10_burnt 146 = .ok (.ireturn, 1) := by decide +kernel
theorem dX10_has_0 : decode cX10_has 0 = .ok (.iconst 0, 1) := by decide +kernel
theorem dX10_has_1 : decode cX10_has 1 = .ok (.istore 4, 2) := by decide +kernel
theorem dX10_has_3 : decode cX10_has 3 = .ok (.iconst 0, 1) := by decide +kernel
theorem dX10_has_4 : decode cX10_has 4 = .ok (.istore 5, 2) := by decide +kernel
theorem dX10_has_6 : decode cX10_has 6 = .ok (.iload 5, 2) := by decide +kernel
theorem dX10_has_8 : decode cX10_has 8 = .ok (.aload_n 0, 1) := by decide +kernel
theorem dX10_has_9 : decode cX10_has 9 = .ok (.getfield 9, 3) := by decide +kernel
theorem dX10_has_12 : decode cX10_has 12 = .ok (.iconst 3, 1) := by decide +kernel
theorem dX10_has_13 : decode cX10_has 13 = .ok (.iaload, 1) := by decide +kernel
theorem dX10_has_14 : decode cX10_has 14 = .ok (.if_icmp .ge 58, 3) := by decide +kernel
theorem dX10_has_17 : decode cX10_has 17 = .ok (.iload 4, 2) := by decide +kernel
theorem dX10_has_19 : decode cX10_has 19 = .ok (.aload_n 0, 1) := by decide +kernel
theorem dX10_has_20 : decode cX10_has 20 = .ok (.iload 5, 2) := by decide +kernel
theorem dX10_has_22 : decode cX10_has 22 = .ok (.iconst 1, 1) := by decide +kernel
theorem dX10_has_23 : decode cX10_has 23 = .ok (.invokevirtual 194, 3) := by decide +kernel
theorem dX10_has_26 : decode cX10_has 26 = .ok (.iload_n 1, 1) := by decide +kernel
theorem dX10_has_27 : decode cX10_has 27 = .ok (.if_icmp .ne 35, 3) := by decide +kernel
theorem dX10_has_30 : decode cX10_has 30 = .ok (.aload_n 0, 1) := by decide +kernel
theorem dX10_has_31 : decode cX10_has 31 = .ok (.iload 5, 2) := by decide +kernel
theorem dX10_has_33 : decode cX10_has 33 = .ok (.iconst 0, 1) := by decide +kernel
theorem dX10_has_34 : decode cX10_has 34 = .ok (.invokevirtual 194, 3) := by decide +kernel
theorem dX10_has_37 : decode cX10_has 37 = .ok (.iload_n 2, 1) := by decide +kernel
theorem dX10_has_38 : decode cX10_has 38 = .ok (.if_icmp .ne 24, 3) := by decide +kernel
theorem dX10_has_41 : decode cX10_has 41 = .ok (.aload_n 0, 1) := by decide +kernel
theorem dX10_has_42 : decode cX10_has 42 = .ok (.iload 5, 2) := by decide +kernel
theorem dX10_has_44 : decode cX10_has 44 = .ok (.iconst 2, 1) := by decide +kernel
theorem dX10_has_45 : decode cX10_has 45 = .ok (.invokevirtual 194, 3) := by decide +kernel
theorem dX10_has_48 : decode cX10_has 48 = .ok (.iload_n 3, 1) := by decide +kernel
theorem dX10_has_49 : decode cX10_has 49 = .ok (.if_icmp .ne 13, 3) := by decide +kernel
theorem dX10_has_52 : decode cX10_has 52 = .ok (.aload_n 0, 1) := by decide +kernel
theorem dX10_has_53 : decode cX10_has 53 = .ok (.iload 5, 2) := by decide +kernel
theorem dX10_has_55 : decode cX10_has 55 = .ok (.iconst 3, 1) := by decide +kernel
theorem dX10_has_56 : decode cX10_has 56 = .ok (.invokevirtual 194, 3) := by decide +kernel
theorem dX10_has_59 : decode cX10_has 59 = .ok (.goto 4, 3) := by decide +kernel
theorem dX10_has_62 : decode cX10_has 62 = .ok (.iconst 0, 1) := by decide +kernel
theorem dX10_has_63 : decode cX10_has 63 = .ok (.iadd, 1) := by decide +kernel
theorem dX10_has_64 : decode cX10_has 64 = .ok (.istore 4, 2) := by decide +kernel
theorem dX10_has_66 : decode cX10_has 66 = .ok (.iinc 5 1, 3) := by decide +kernel
theorem dX10_has_69 : decode cX10_has 69 = .ok (.goto (-63), 3) := by decide +kernel
theorem dX10_has_72 : decode cX10_has 72 = .ok (.iload 4, 2) := by decide +kernel
theorem dX10_has_74 : decode cX10_has 74 = .ok (.ireturn, 1) := by decide +kernel
theorem dX10_round_0 : decode cX10_round 0 = .ok (.iconst 0, 1) := by decide +kernel
theorem dX10_round_1 : decode cX10_round 1 = .ok (.istore_n 1, 1) := by decide +kernel
theorem dX10_round_2 : decode cX10_round 2 = .ok (.iconst 0, 1) := by decide +kernel
theorem dX10_round_3 : decode cX10_round 3 = .ok (.istore_n 2, 1) := by decide +kernel
theorem dX10_round_4 : decode cX10_round 4 = .ok (.iload_n 2, 1) := by decide +kernel
theorem dX10_round_5 : decode cX10_round 5 = .ok (.aload_n 0, 1) := by decide +kernel
theorem dX10_round_6 : decode cX10_round 6 = .ok (.getfield 9, 3) := by decide +kernel
theorem dX10_round_9 : decode cX10_round 9 = .ok (.iconst 2, 1) := by decide +kernel
theorem dX10_round_10 : decode cX10_round 10 = .ok (.iaload, 1) := by decide +kernel
theorem dX10_round_11 : decode cX10_round 11 = .ok (.if_icmp .ge 71, 3) := by decide +kernel
theorem dX10_round_14 : decode cX10_round 14 = .ok (.iload_n 2, 1) := by decide +kernel
theorem dX10_round_15 : decode cX10_round 15 = .ok (.iconst 1, 1) := by decide +kernel
theorem dX10_round_16 : decode cX10_round 16 = .ok (.iadd, 1) := by decide +kernel
theorem dX10_round_17 : decode cX10_round 17 = .ok (.istore_n 3, 1) := by decide +kernel
theorem dX10_round_18 : decode cX10_round 18 = .ok (.iload_n 3, 1) := by decide +kernel
theorem dX10_round_19 : decode cX10_round 19 = .ok (.aload_n 0, 1) := by decide +kernel
theorem dX10_round_20 : decode cX10_round 20 = .ok (.getfield 9, 3) := by decide +kernel
theorem dX10_round_23 : decode cX10_round 23 = .ok (.iconst 2, 1) := by decide +kernel
theorem dX10_round_24 : decode cX10_round 24 = .ok (.iaload, 1) := by decide +kernel
theorem dX10_round_25 : decode cX10_round 25 = .ok (.if_icmp .ge 51, 3) := by decide +kernel
theorem dX10_round_28 : decode cX10_round 28 = .ok (.iconst 0, 1) := by decide +kernel
theorem dX10_round_29 : decode cX10_round 29 = .ok (.istore 4, 2) := by decide +kernel
theorem dX10_round_31 : decode cX10_round 31 = .ok (.iload 4, 2) := by decide +kernel
theorem dX10_round_33 : decode cX10_round 33 = .ok (.aload_n 0, 1) := by decide +kernel
theorem dX10_round_34 : decode cX10_round 34 = .ok (.getfield 9, 3) := by decide +kernel
theorem dX10_round_37 : decode cX10_round 37 = .ok (.iconst 1, 1) := by decide +kernel
theorem dX10_round_38 : decode cX10_round 38 = .ok (.iaload, 1) := by decide +kernel
theorem dX10_round_39 : decode cX10_round 39 = .ok (.if_icmp .ge 31, 3) := by decide +kernel
theorem dX10_round_42 : decode cX10_round 42 = .ok (.iload_n 1, 1) := by decide +kernel
theorem dX10_round_43 : decode cX10_round 43 = .ok (.aload_n 0, 1) := by decide +kernel
theorem dX10_round_44 : decode cX10_round 44 = .ok (.iload_n 2, 1) := by decide +kernel
theorem dX10_round_45 : decode cX10_round 45 = .ok (.iload_n 3, 1) := by decide +kernel
theorem dX10_round_46 : decode cX10_round 46 = .ok (.iload 4, 2) := by decide +kernel
theorem dX10_round_48 : decode cX10_round 48 = .ok (.invokevirtual 282, 3) := by decide +kernel
theorem dX10_round_51 : decode cX10_round 51 = .ok (.aload_n 0, 1) := by decide +kernel
theorem dX10_round_52 : decode cX10_round 52 = .ok (.iload_n 3, 1) := by decide +kernel
theorem dX10_round_53 : decode cX10_round 53 = .ok (.iload_n 2, 1) := by decide +kernel
theorem dX10_round_54 : decode cX10_round 54 = .ok (.iload 4, 2) := by decide +kernel
theorem dX10_round_56 : decode cX10_round 56 = .ok (.invokevirtual 282, 3) := by decide +kernel
theorem dX10_round_59 : decode cX10_round 59 = .ok (.invokestatic 57, 3) := by decide +kernel
theorem dX10_round_62 : decode cX10_round 62 = .ok (.iadd, 1) := by decide +kernel
theorem dX10_round_63 : decode cX10_round 63 = .ok (.istore_n 1, 1) := by decide +kernel
theorem dX10_round_64 : decode cX10_round 64 = .ok (.iinc 4 1, 3) := by decide +kernel
theorem dX10_round_67 : decode cX10_round 67 = .ok (.goto (-36), 3) := by decide +kernel
theorem dX10_round_70 : decode cX10_round 70 = .ok (.iinc 3 1, 3) := by decide +kernel
theorem dX10_round_73 : decode cX10_round 73 = .ok (.goto (-55), 3) := by decide +kernel
theorem dX10_round_76 : decode cX10_round 76 = .ok (.iinc 2 1, 3) := by decide +kernel
theorem dX10_round_79 : decode cX10_round 79 = .ok (.goto (-75), 3) := by decide +kernel
theorem dX10_round_82 : decode cX10_round 82 = .ok (.iload_n 1, 1) := by decide +kernel
theorem dX10_round_83 : decode cX10_round 83 = .ok (.ireturn, 1) := by decide +kernel
theorem dX10_brokenAll_0 : decode cX10_brokenAll 0 = .ok (.iconst 0, 1) := by decide +kernel
theorem dX10_brokenAll_1 : decode cX10_brokenAll 1 = .ok (.istore_n 1, 1) := by decide +kernel
theorem dX10_brokenAll_2 : decode cX10_brokenAll 2 = .ok (.iconst 0, 1) := by decide +kernel
theorem dX10_brokenAll_3 : decode cX10_brokenAll 3 = .ok (.istore_n 2, 1) := by decide +kernel
theorem dX10_brokenAll_4 : decode cX10_brokenAll 4 = .ok (.iload_n 2, 1) := by decide +kernel
theorem dX10_brokenAll_5 : decode cX10_brokenAll 5 = .ok (.aload_n 0, 1) := by decide +kernel
theorem dX10_brokenAll_6 : decode cX10_brokenAll 6 = .ok (.getfield 9, 3) := by decide +kernel
theorem dX10_brokenAll_9 : decode cX10_brokenAll 9 = .ok (.iconst 2, 1) := by decide +kernel
theorem dX10_brokenAll_10 : decode cX10_brokenAll 10 = .ok (.iaload, 1) := by decide +kernel
theorem dX10_brokenAll_11 : decode cX10_brokenAll 11 = .ok (.if_icmp .ge 22, 3) := by decide +kernel
theorem dX10_brokenAll_14 : decode cX10_brokenAll 14 = .ok (.iload_n 1, 1) := by decide +kernel
theorem dX10_brokenAll_15 : decode cX10_brokenAll 15 = .ok (.aload_n 0, 1) := by decide +kernel
theorem dX10_brokenAll_16 : decode cX10_brokenAll 16 = .ok (.getfield 9, 3) := by decide +kernel
theorem dX10_brokenAll_19 : decode cX10_brokenAll 19 = .ok (.iload_n 2, 1) := by decide +kernel
theorem dX10_brokenAll_20 : decode cX10_brokenAll 20 = .ok (.iconst 1, 1) := by decide +kernel
theorem dX10_brokenAll_21 : decode cX10_brokenAll 21 = .ok (.invokestatic 191, 3) := by decide +kernel
theorem dX10_brokenAll_24 : decode cX10_brokenAll 24 = .ok (.iaload, 1) := by decide +kernel
theorem dX10_brokenAll_25 : decode cX10_brokenAll 25 = .ok (.iadd, 1) := by decide +kernel
theorem dX10_brokenAll_26 : decode cX10_brokenAll 26 = .ok (.istore_n 1, 1) := by decide +kernel
theorem dX10_brokenAll_27 : decode cX10_brokenAll 27 = .ok (.iinc 2 1, 3) := by decide +kernel
theorem dX10_brokenAll_30 : decode cX10_brokenAll 30 = .ok (.goto (-26), 3) := by decide +kernel
theorem dX10_brokenAll_33 : decode cX10_brokenAll 33 = .ok (.iload_n 1, 1) := by decide +kernel
theorem dX10_brokenAll_34 : decode cX10_brokenAll 34 = .ok (.ireturn, 1) := by decide +kernel
theorem dX10_brokenIfLent_0 : decode cX10_brokenIfLent 0 = .ok (.aload_n 0, 1) := by decide +kernel
theorem dX10_brokenIfLent_1 : decode cX10_brokenIfLent 1 = .ok (.getfield 9, 3) := by decide +kernel
theorem dX10_brokenIfLent_4 : decode cX10_brokenIfLent 4 = .ok (.aload_n 0, 1) := by decide +kernel
theorem dX10_brokenIfLent_5 : decode cX10_brokenIfLent 5 = .ok (.getfield 16, 3) := by decide +kernel
theorem dX10_brokenIfLent_8 : decode cX10_brokenIfLent 8 = .ok (.invokestatic 66, 3) := by decide +kernel
theorem dX10_brokenIfLent_11 : decode cX10_brokenIfLent 11 = .ok (.aload_n 0, 1) := by decide +kernel
theorem dX10_brokenIfLent_12 : decode cX10_brokenIfLent 12 = .ok (.iload_n 1, 1) := by decide +kernel
theorem dX10_brokenIfLent_13 : decode cX10_brokenIfLent 13 = .ok (.iload_n 2, 1) := by decide +kernel
theorem dX10_brokenIfLent_14 : decode cX10_brokenIfLent 14 = .ok (.iload_n 3, 1) := by decide +kernel
theorem dX10_brokenIfLent_15 : decode cX10_brokenIfLent 15 = .ok (.iload 4, 2) := by decide +kernel
theorem dX10_brokenIfLent_17 : decode cX10_brokenIfLent 17 = .ok (.iload 5, 2) := by decide +kernel
theorem dX10_brokenIfLent_19 : decode cX10_brokenIfLent 19 = .ok (.invokevirtual 237, 3) := by decide +kernel
theorem dX10_brokenIfLent_22 : decode cX10_brokenIfLent 22 = .ok (.istore 6, 2) := by decide +kernel
theorem dX10_brokenIfLent_24 : decode cX10_brokenIfLent 24 = .ok (.aload_n 0, 1) := by decide +kernel
theorem dX10_brokenIfLent_25 : decode cX10_brokenIfLent 25 = .ok (.bipush 60, 2) := by decide +kernel
theorem dX10_brokenIfLent_27 : decode cX10_brokenIfLent 27 = .ok (.invokevirtual 259, 3) := by decide +kernel
theorem dX10_brokenIfLent_30 : decode cX10_brokenIfLent 30 = .ok (.aload_n 0, 1) := by decide +kernel
theorem dX10_brokenIfLent_31 : decode cX10_brokenIfLent 31 = .ok (.iload 6, 2) := by decide +kernel
theorem dX10_brokenIfLent_33 : decode cX10_brokenIfLent 33 = .ok (.ifCond .ge 8, 3) := by decide +kernel
theorem dX10_brokenIfLent_36 : decode cX10_brokenIfLent 36 = .ok (.iload 6, 2) := by decide +kernel
theorem dX10_brokenIfLent_38 : decode cX10_brokenIfLent 38 = .ok (.goto 7, 3) := by decide +kernel
theorem dX10_brokenIfLent_41 : decode cX10_brokenIfLent 41 = .ok (.aload_n 0, 1) := by decide +kernel
theorem dX10_brokenIfLent_42 : decode cX10_brokenIfLent 42 = .ok (.invokevirtual 285, 3) := by decide +kernel
theorem dX10_brokenIfLent_45 : decode cX10_brokenIfLent 45 = .ok (.invokevirtual 266, 3) := by decide +kernel
theorem dX10_brokenIfLent_48 : decode cX10_brokenIfLent 48 = .ok (.ireturn, 1) := by decide +kernel
theorem dX10_lender_0 : decode cX10_lender 0 = .ok (.aload_n 0, 1) := by decide +kernel
theorem dX10_lender_1 : decode cX10_lender 1 = .ok (.iload_n 1, 1) := by decide +kernel
theorem dX10_lender_2 : decode cX10_lender 2 = .ok (.invokevirtual 197, 3) := by decide +kernel
theorem dX10_lender_5 : decode cX10_lender 5 = .ok (.ifCond .eq 32, 3) := by decide +kernel
theorem dX10_lender_8 : decode cX10_lender 8 = .ok (.aload_n 0, 1) := by decide +kernel
theorem dX10_lender_9 : decode cX10_lender 9 = .ok (.iload_n 2, 1) := by decide +kernel
theorem dX10_lender_10 : decode cX10_lender 10 = .ok (.invokevirtual 171, 3) := by decide +kernel
theorem dX10_lender_13 : decode cX10_lender 13 = .ok (.ifCond .eq 24, 3) := by decide +kernel
theorem dX10_lender_16 : decode cX10_lender 16 = .ok (.iload_n 3, 1) := by decide +kernel
theorem dX10_lender_17 : decode cX10_lender 17 = .ok (.iconst 1, 1) := by decide +kernel
theorem dX10_lender_18 : decode cX10_lender 18 = .ok (.bipush 99, 2) := by decide +kernel
theorem dX10_lender_20 : decode cX10_lender 20 = .ok (.invokestatic 70, 3) := by decide +kernel
theorem dX10_lender_23 : decode cX10_lender 23 = .ok (.ifCond .eq 14, 3) := by decide +kernel
theorem dX10_lender_26 : decode cX10_lender 26 = .ok (.iload 4, 2) := by decide +kernel
theorem dX10_lender_28 : decode cX10_lender 28 = .ok (.iconst 1, 1) := by decide +kernel
theorem dX10_lender_29 : decode cX10_lender 29 = .ok (.bipush 20, 2) := by decide +kernel
theorem dX10_lender_31 : decode cX10_lender 31 = .ok (.invokestatic 70, 3) := by decide +kernel
theorem dX10_lender_34 : decode cX10_lender 34 = .ok (.ifCond .ne 10, 3) := by decide +kernel
theorem dX10_lender_37 : decode cX10_lender 37 = .ok (.aload_n 0, 1) := by decide +kernel
theorem dX10_lender_38 : decode cX10_lender 38 = .ok (.ldc 74, 2) := by decide +kernel
theorem dX10_lender_40 : decode cX10_lender 40 = .ok (.invokevirtual 75, 3) := by decide +kernel
theorem dX10_lender_43 : decode cX10_lender 43 = .ok (.ireturn, 1) := by decide +kernel
theorem dX10_lender_44 : decode cX10_lender 44 = .ok (.aload_n 0, 1) := by decide +kernel
theorem dX10_lender_45 : decode cX10_lender 45 = .ok (.getfield 9, 3) := by decide +kernel
theorem dX10_lender_48 : decode cX10_lender 48 = .ok (.iconst 3, 1) := by decide +kernel
theorem dX10_lender_49 : decode cX10_lender 49 = .ok (.iaload, 1) := by decide +kernel
theorem dX10_lender_50 : decode cX10_lender 50 = .ok (.bipush 10, 2) := by decide +kernel
theorem dX10_lender_52 : decode cX10_lender 52 = .ok (.if_icmp .ne 10, 3) := by decide +kernel
theorem dX10_lender_55 : decode cX10_lender 55 = .ok (.aload_n 0, 1) := by decide +kernel
theorem dX10_lender_56 : decode cX10_lender 56 = .ok (.ldc 79, 2) := by decide +kernel
theorem dX10_lender_58 : decode cX10_lender 58 = .ok (.invokevirtual 75, 3) := by decide +kernel
theorem dX10_lender_61 : decode cX10_lender 61 = .ok (.ireturn, 1) := by decide +kernel
theorem dX10_lender_62 : decode cX10_lender 62 = .ok (.iconst (-1), 1) := by decide +kernel
theorem dX10_lender_63 : decode cX10_lender 63 = .ok (.istore 5, 2) := by decide +kernel
theorem dX10_lender_65 : decode cX10_lender 65 = .ok (.sipush 397, 3) := by decide +kernel
theorem dX10_lender_68 : decode cX10_lender 68 = .ok (.istore 6, 2) := by decide +kernel
theorem dX10_lender_70 : decode cX10_lender 70 = .ok (.iconst 0, 1) := by decide +kernel
theorem dX10_lender_71 : decode cX10_lender 71 = .ok (.istore 7, 2) := by decide +kernel
theorem dX10_lender_73 : decode cX10_lender 73 = .ok (.iload 7, 2) := by decide +kernel
theorem dX10_lender_75 : decode cX10_lender 75 = .ok (.aload_n 0, 1) := by decide +kernel
theorem dX10_lender_76 : decode cX10_lender 76 = .ok (.getfield 9, 3) := by decide +kernel
theorem dX10_lender_79 : decode cX10_lender 79 = .ok (.iconst 2, 1) := by decide +kernel
theorem dX10_lender_80 : decode cX10_lender 80 = .ok (.iaload, 1) := by decide +kernel
theorem dX10_lender_81 : decode cX10_lender 81 = .ok (.if_icmp .ge 70, 3) := by decide +kernel
theorem dX10_lender_84 : decode cX10_lender 84 = .ok (.iload 7, 2) := by decide +kernel
theorem dX10_lender_86 : decode cX10_lender 86 = .ok (.iload_n 1, 1) := by decide +kernel
theorem dX10_lender_87 : decode cX10_lender 87 = .ok (.if_icmp .eq 29, 3) := by decide +kernel
theorem dX10_lender_90 : decode cX10_lender 90 = .ok (.aload_n 0, 1) := by decide +kernel
theorem dX10_lender_91 : decode cX10_lender 91 = .ok (.iload 7, 2) := by decide +kernel
theorem dX10_lender_93 : decode cX10_lender 93 = .ok (.iload_n 1, 1) := by decide +kernel
theorem dX10_lender_94 : decode cX10_lender 94 = .ok (.iload_n 2, 1) := by decide +kernel
theorem dX10_lender_95 : decode cX10_lender 95 = .ok (.iload_n 3, 1) := by decide +kernel
theorem dX10_lender_96 : decode cX10_lender 96 = .ok (.invokevirtual 233, 3) := by decide +kernel
theorem dX10_lender_99 : decode cX10_lender 99 = .ok (.ifCond .eq 17, 3) := by decide +kernel
theorem dX10_lender_102 : decode cX10_lender 102 = .ok (.aload_n 0, 1) := by decide +kernel
theorem dX10_lender_103 : decode cX10_lender 103 = .ok (.iload 7, 2) := by decide +kernel
theorem dX10_lender_105 : decode cX10_lender 105 = .ok (.iload_n 1, 1) := by decide +kernel
theorem dX10_lender_106 : decode cX10_lender 106 = .ok (.iload_n 2, 1) := by decide +kernel
theorem dX10_lender_107 : decode cX10_lender 107 = .ok (.iload_n 3, 1) := by decide +kernel
theorem dX10_lender_108 : decode cX10_lender 108 = .ok (.iload 4, 2) := by decide +kernel
theorem dX10_lender_110 : decode cX10_lender 110 = .ok (.invokevirtual 288, 3) := by decide +kernel
theorem dX10_lender_113 : decode cX10_lender 113 = .ok (.goto 5, 3) := by decide +kernel
theorem dX10_lender_116 : decode cX10_lender 116 = .ok (.iload 6, 2) := by decide +kernel
theorem dX10_lender_118 : decode cX10_lender 118 = .ok (.istore 8, 2) := by decide +kernel
theorem dX10_lender_120 : decode cX10_lender 120 = .ok (.iload 8, 2) := by decide +kernel
theorem dX10_lender_122 : decode cX10_lender 122 = .ok (.iload 6, 2) := by decide +kernel
theorem dX10_lender_124 : decode cX10_lender 124 = .ok (.if_icmp .ge 8, 3) := by decide +kernel
theorem dX10_lender_127 : decode cX10_lender 127 = .ok (.iload 7, 2) := by decide +kernel
theorem dX10_lender_129 : decode cX10_lender 129 = .ok (.goto 5, 3) := by decide +kernel
theorem dX10_lender_132 : decode cX10_lender 132 = .ok (.iload 5, 2) := by decide +kernel
theorem dX10_lender_134 : decode cX10_lender 134 = .ok (.istore 5, 2) := by decide +kernel
theorem dX10_lender_136 : decode cX10_lender 136 = .ok (.iload 6, 2) := by decide +kernel
theorem dX10_lender_138 : decode cX10_lender 138 = .ok (.iload 8, 2) := by decide +kernel
theorem dX10_lender_140 : decode cX10_lender 140 = .ok (.invokestatic 57, 3) := by decide +kernel
theorem dX10_lender_143 : decode cX10_lender 143 = .ok (.istore 6, 2) := by decide +kernel
theorem dX10_lender_145 : decode cX10_lender 145 = .ok (.iinc 7 1, 3) := by decide +kernel
theorem dX10_lender_148 : decode cX10_lender 148 = .ok (.goto (-75), 3) := by decide +kernel
theorem dX10_lender_151 : decode cX10_lender 151 = .ok (.iload 5, 2) := by decide +kernel
theorem dX10_lender_153 : decode cX10_lender 153 = .ok (.ifCond .ge 12, 3) := by decide +kernel
theorem dX10_lender_156 : decode cX10_lender 156 = .ok (.aload_n 0, 1) := by decide +kernel
theorem dX10_lender_157 : decode cX10_lender 157 = .ok (.ldc 225, 2) := by decide +kernel
theorem dX10_lender_159 : decode cX10_lender 159 = .ok (.invokevirtual 75, 3) := by decide +kernel
theorem dX10_lender_162 : decode cX10_lender 162 = .ok (.goto 5, 3) := by decide +kernel
theorem dX10_lender_165 : decode cX10_lender 165 = .ok (.iload 5, 2) := by decide +kernel
theorem dX10_lender_167 : decode cX10_lender 167 = .ok (.ireturn, 1) := by decide +kernel
theorem dX10_odds_0 : decode cX10_odds 0 = .ok (.aload_n 0, 1) := by decide +kernel
theorem dX10_odds_1 : decode cX10_odds 1 = .ok (.iload_n 1, 1) := by decide +kernel
theorem dX10_odds_2 : decode cX10_odds 2 = .ok (.invokevirtual 213, 3) := by decide +kernel
theorem dX10_odds_5 : decode cX10_odds 5 = .ok (.ifCond .eq 19, 3) := by decide +kernel
theorem dX10_odds_8 : decode cX10_odds 8 = .ok (.iload_n 2, 1) := by decide +kernel
theorem dX10_odds_9 : decode cX10_odds 9 = .ok (.invokestatic 216, 3) := by decide +kernel
theorem dX10_odds_12 : decode cX10_odds 12 = .ok (.ifCond .eq 12, 3) := by decide +kernel
theorem dX10_odds_15 : decode cX10_odds 15 = .ok (.iload_n 3, 1) := by decide +kernel
theorem dX10_odds_16 : decode cX10_odds 16 = .ok (.iconst 0, 1) := by decide +kernel
theorem dX10_odds_17 : decode cX10_odds 17 = .ok (.iconst 1, 1) := by decide +kernel
theorem dX10_odds_18 : decode cX10_odds 18 = .ok (.invokestatic 70, 3) := by decide +kernel
theorem dX10_odds_21 : decode cX10_odds 21 = .ok (.ifCond .ne 10, 3) := by decide +kernel
theorem dX10_odds_24 : decode cX10_odds 24 = .ok (.aload_n 0, 1) := by decide +kernel
theorem dX10_odds_25 : decode cX10_odds 25 = .ok (.ldc 74, 2) := by decide +kernel
theorem dX10_odds_27 : decode cX10_odds 27 = .ok (.invokevirtual 75, 3) := by decide +kernel
theorem dX10_odds_30 : decode cX10_odds 30 = .ok (.ireturn, 1) := by decide +kernel
theorem dX10_odds_31 : decode cX10_odds 31 = .ok (.iconst 0, 1) := by decide +kernel
theorem dX10_odds_32 : decode cX10_odds 32 = .ok (.istore 4, 2) := by decide +kernel
theorem dX10_odds_34 : decode cX10_odds 34 = .ok (.aload_n 0, 1) := by decide +kernel
theorem dX10_odds_35 : decode cX10_odds 35 = .ok (.iload_n 1, 1) := by decide +kernel
theorem dX10_odds_36 : decode cX10_odds 36 = .ok (.iload_n 2, 1) := by decide +kernel
theorem dX10_odds_37 : decode cX10_odds 37 = .ok (.invokevirtual 276, 3) := by decide +kernel
theorem dX10_odds_40 : decode cX10_odds 40 = .ok (.istore 5, 2) := by decide +kernel
theorem dX10_odds_42 : decode cX10_odds 42 = .ok (.iload 5, 2) := by decide +kernel
theorem dX10_odds_44 : decode cX10_odds 44 = .ok (.ifCond .eq 18, 3) := by decide +kernel
theorem dX10_odds_47 : decode cX10_odds 47 = .ok (.iinc 4 1, 3) := by decide +kernel
theorem dX10_odds_50 : decode cX10_odds 50 = .ok (.iload 5, 2) := by decide +kernel
theorem dX10_odds_52 : decode cX10_odds 52 = .ok (.iload 5, 2) := by decide +kernel
theorem dX10_odds_54 : decode cX10_odds 54 = .ok (.iconst 1, 1) := by decide +kernel
theorem dX10_odds_55 : decode cX10_odds 55 = .ok (.isub, 1) := by decide +kernel
theorem dX10_odds_56 : decode cX10_odds 56 = .ok (.iand, 1) := by decide +kernel
theorem dX10_odds_57 : decode cX10_odds 57 = .ok (.istore 5, 2) := by decide +kernel
theorem dX10_odds_59 : decode cX10_odds 59 = .ok (.goto (-17), 3) := by decide +kernel
theorem dX10_odds_62 : decode cX10_odds 62 = .ok (.bipush 10, 2) := by decide +kernel
theorem dX10_odds_64 : decode cX10_odds 64 = .ok (.istore 5, 2) := by decide +kernel
theorem dX10_odds_66 : decode cX10_odds 66 = .ok (.iload 4, 2) := by decide +kernel
theorem dX10_odds_68 : decode cX10_odds 68 = .ok (.istore 6, 2) := by decide +kernel
theorem dX10_odds_70 : decode cX10_odds 70 = .ok (.iload 6, 2) := by decide +kernel
theorem dX10_odds_72 : decode cX10_odds 72 = .ok (.ifCond .eq 21, 3) := by decide +kernel
theorem dX10_odds_75 : decode cX10_odds 75 = .ok (.iload 5, 2) := by decide +kernel
theorem dX10_odds_77 : decode cX10_odds 77 = .ok (.iload 6, 2) := by decide +kernel
theorem dX10_odds_79 : decode cX10_odds 79 = .ok (.irem, 1) := by decide +kernel
theorem dX10_odds_80 : decode cX10_odds 80 = .ok (.istore 7, 2) := by decide +kernel
theorem dX10_odds_82 : decode cX10_odds 82 = .ok (.iload 6, 2) := by decide +kernel
theorem dX10_odds_84 : decode cX10_odds 84 = .ok (.istore 5, 2) := by decide +kernel
theorem dX10_odds_86 : decode cX10_odds 86 = .ok (.iload 7, 2) := by decide +kernel
theorem dX10_odds_88 : decode cX10_odds 88 = .ok (.istore 6, 2) := by decide +kernel
theorem dX10_odds_90 : decode cX10_odds 90 = .ok (.goto (-20), 3) := by decide +kernel
theorem dX10_odds_93 : decode cX10_odds 93 = .ok (.iload_n 3, 1) := by decide +kernel
theorem dX10_odds_94 : decode cX10_odds 94 = .ok (.ifCond .ne 8, 3) := by decide +kernel
theorem dX10_odds_97 : decode cX10_odds 97 = .ok (.iload 4, 2) := by decide +kernel
theorem dX10_odds_99 : decode cX10_odds 99 = .ok (.goto 5, 3) := by decide +kernel
theorem dX10_odds_102 : decode cX10_odds 102 = .ok (.bipush 10, 2) := by decide +kernel
theorem dX10_odds_104 : decode cX10_odds 104 = .ok (.iload 5, 2) := by decide +kernel
theorem dX10_odds_106 : decode cX10_odds 106 = .ok (.idiv, 1) := by decide +kernel
theorem dX10_odds_107 : decode cX10_odds 107 = .ok (.ireturn, 1) := by decide +kernel
theorem dX10_seed_0 : decode cX10_seed 0 = .ok (.aload_n 0, 1) := by decide +kernel
theorem dX10_seed_1 : decode cX10_seed 1 = .ok (.iconst 4, 1) := by decide +kernel
theorem dX10_seed_2 : decode cX10_seed 2 = .ok (.iload_n 1, 1) := by decide +kernel
theorem dX10_seed_3 : decode cX10_seed 3 = .ok (.invokevirtual 180, 3) := by decide +kernel
theorem dX10_seed_6 : decode cX10_seed 6 = .ok (.ireturn, 1) := by decide +kernel
theorem dX10_ran_0 : decode cX10_ran 0 = .ok (.aload_n 0, 1) := by decide +kernel
theorem dX10_ran_1 : decode cX10_ran 1 = .ok (.getfield 291, 3) := by decide +kernel
theorem dX10_ran_4 : decode cX10_ran 4 = .ok (.bipush 40, 2) := by decide +kernel
theorem dX10_ran_6 : decode cX10_ran 6 = .ok (.if_icmp .ge 23, 3) := by decide +kernel
theorem dX10_ran_9 : decode cX10_ran 9 = .ok (.aload_n 0, 1) := by decide +kernel
theorem dX10_ran_10 : decode cX10_ran 10 = .ok (.getfield 41, 3) := by decide +kernel
theorem dX10_ran_13 : decode cX10_ran 13 = .ok (.aload_n 0, 1) := by decide +kernel
theorem dX10_ran_14 : decode cX10_ran 14 = .ok (.getfield 291, 3) := by decide +kernel
theorem dX10_ran_17 : decode cX10_ran 17 = .ok (.iload_n 1, 1) := by decide +kernel
theorem dX10_ran_18 : decode cX10_ran 18 = .ok (.iastore, 1) := by decide +kernel
theorem dX10_ran_19 : decode cX10_ran 19 = .ok (.aload_n 0, 1) := by decide +kernel
theorem dX10_ran_20 : decode cX10_ran 20 = .ok (.dup, 1) := by decide +kernel
theorem dX10_ran_21 : decode cX10_ran 21 = .ok (.getfield 291, 3) := by decide +kernel
theorem dX10_ran_24 : decode cX10_ran 24 = .ok (.iconst 1, 1) := by decide +kernel
theorem dX10_ran_25 : decode cX10_ran 25 = .ok (.iadd, 1) := by decide +kernel
theorem dX10_ran_26 : decode cX10_ran 26 = .ok (.putfield 291, 3) := by decide +kernel
theorem dX10_ran_29 : decode cX10_ran 29 = .ok (.return_, 1) := by decide +kernel
theorem dX10_burnsOf_0 : decode cX10_burnsOf 0 = .ok (.aload_n 0, 1) := by decide +kernel
theorem dX10_burnsOf_1 : decode cX10_burnsOf 1 = .ok (.getfield 294, 3) := by decide +kernel
theorem dX10_burnsOf_4 : decode cX10_burnsOf 4 = .ok (.iconst 1, 1) := by decide +kernel
theorem dX10_burnsOf_5 : decode cX10_burnsOf 5 = .ok (.invokestatic 186, 3) := by decide +kernel
theorem dX10_burnsOf_8 : decode cX10_burnsOf 8 = .ok (.istore_n 2, 1) := by decide +kernel
theorem dX10_burnsOf_9 : decode cX10_burnsOf 9 = .ok (.iload_n 2, 1) := by decide +kernel
theorem dX10_burnsOf_10 : decode cX10_burnsOf 10 = .ok (.ifCond .eq 9, 3) := by decide +kernel
theorem dX10_burnsOf_13 : decode cX10_burnsOf 13 = .ok (.aload_n 0, 1) := by decide +kernel
theorem dX10_burnsOf_14 : decode cX10_burnsOf 14 = .ok (.bipush 20, 2) := by decide +kernel
theorem dX10_burnsOf_16 : decode cX10_burnsOf 16 = .ok (.invokevirtual 297, 3) := by decide +kernel
theorem dX10_burnsOf_19 : decode cX10_burnsOf 19 = .ok (.aload_n 0, 1) := by decide +kernel
theorem dX10_burnsOf_20 : decode cX10_burnsOf 20 = .ok (.bipush 10, 2) := by decide +kernel
theorem dX10_burnsOf_22 : decode cX10_burnsOf 22 = .ok (.invokevirtual 297, 3) := by decide +kernel
theorem dX10_burnsOf_25 : decode cX10_burnsOf 25 = .ok (.iload_n 2, 1) := by decide +kernel
theorem dX10_burnsOf_26 : decode cX10_burnsOf 26 = .ok (.ifCond .eq 14, 3) := by decide +kernel
theorem dX10_burnsOf_29 : decode cX10_burnsOf 29 = .ok (.iload_n 1, 1) := by decide +kernel
theorem dX10_burnsOf_30 : decode cX10_burnsOf 30 = .ok (.aload_n 0, 1) := by decide +kernel
theorem dX10_burnsOf_31 : decode cX10_burnsOf 31 = .ok (.getfield 300, 3) := by decide +kernel
theorem dX10_burnsOf_34 : decode cX10_burnsOf 34 = .ok (.iadd, 1) := by decide +kernel
theorem dX10_burnsOf_35 : decode cX10_burnsOf 35 = .ok (.iconst 3, 1) := by decide +kernel
theorem dX10_burnsOf_36 : decode cX10_burnsOf 36 = .ok (.imul, 1) := by decide +kernel
theorem dX10_burnsOf_37 : decode cX10_burnsOf 37 = .ok (.goto 9, 3) := by decide +kernel
theorem dX10_burnsOf_40 : decode cX10_burnsOf 40 = .ok (.iload_n 1, 1) := by decide +kernel
theorem dX10_burnsOf_41 : decode cX10_burnsOf 41 = .ok (.aload_n 0, 1) := by decide +kernel
theorem dX10_burnsOf_42 : decode cX10_burnsOf 42 = .ok (.getfield 300, 3) := by decide +kernel
theorem dX10_burnsOf_45 : decode cX10_burnsOf 45 = .ok (.iadd, 1) := by decide +kernel
theorem dX10_burnsOf_46 : decode cX10_burnsOf 46 = .ok (.ireturn, 1) := by decide +kernel
theorem dX10_meltsOf_0 : decode cX10_meltsOf 0 = .ok (.iload_n 1, 1) := by decide +kernel
theorem dX10_meltsOf_1 : decode cX10_meltsOf 1 = .ok (.istore_n 2, 1) := by decide +kernel
theorem dX10_meltsOf_2 : decode cX10_meltsOf 2 = .ok (.aload_n 0, 1) := by decide +kernel
theorem dX10_meltsOf_3 : decode cX10_meltsOf 3 = .ok (.getfield 294, 3) := by decide +kernel
theorem dX10_meltsOf_6 : decode cX10_meltsOf 6 = .ok (.iconst 5, 1) := by decide +kernel
theorem dX10_meltsOf_7 : decode cX10_meltsOf 7 = .ok (.if_icmp .ne 12, 3) := by decide +kernel
theorem dX10_meltsOf_10 : decode cX10_meltsOf 10 = .ok (.aload_n 0, 1) := by decide +kernel
theorem dX10_meltsOf_11 : decode cX10_meltsOf 11 = .ok (.bipush 60, 2) := by decide +kernel
theorem dX10_meltsOf_13 : decode cX10_meltsOf 13 = .ok (.invokevirtual 297, 3) := by decide +kernel
theorem dX10_meltsOf_16 : decode cX10_meltsOf 16 = .ok (.iinc 2 1, 3) := by decide +kernel
theorem dX10_meltsOf_19 : decode cX10_meltsOf 19 = .ok (.aload_n 0, 1) := by decide +kernel
theorem dX10_meltsOf_20 : decode cX10_meltsOf 20 = .ok (.getfield 294, 3) := by decide +kernel
theorem dX10_meltsOf_23 : decode cX10_meltsOf 23 = .ok (.iconst 2, 1) := by decide +kernel
theorem dX10_meltsOf_24 : decode cX10_meltsOf 24 = .ok (.invokestatic 186, 3) := by decide +kernel
theorem dX10_meltsOf_27 : decode cX10_meltsOf 27 = .ok (.istore_n 3, 1) := by decide +kernel
theorem dX10_meltsOf_28 : decode cX10_meltsOf 28 = .ok (.iload_n 3, 1) := by decide +kernel
theorem dX10_meltsOf_29 : decode cX10_meltsOf 29 = .ok (.ifCond .eq 9, 3) := by decide +kernel
theorem dX10_meltsOf_32 : decode cX10_meltsOf 32 = .ok (.aload_n 0, 1) := by decide +kernel
theorem dX10_meltsOf_33 : decode cX10_meltsOf 33 = .ok (.bipush 30, 2) := by decide +kernel
theorem dX10_meltsOf_35 : decode cX10_meltsOf 35 = .ok (.invokevirtual 297, 3) := by decide +kernel
theorem dX10_meltsOf_38 : decode cX10_meltsOf 38 = .ok (.aload_n 0, 1) := by decide +kernel
theorem dX10_meltsOf_39 : decode cX10_meltsOf 39 = .ok (.bipush 11, 2) := by decide +kernel
theorem dX10_meltsOf_41 : decode cX10_meltsOf 41 = .ok (.invokevirtual 297, 3) := by decide +kernel
theorem dX10_meltsOf_44 : decode cX10_meltsOf 44 = .ok (.aload_n 0, 1) := by decide +kernel
theorem dX10_meltsOf_45 : decode cX10_meltsOf 45 = .ok (.iload_n 2, 1) := by decide +kernel
theorem dX10_meltsOf_46 : decode cX10_meltsOf 46 = .ok (.invokevirtual 303, 3) := by decide +kernel
theorem dX10_meltsOf_49 : decode cX10_meltsOf 49 = .ok (.iconst 2, 1) := by decide +kernel
theorem dX10_meltsOf_50 : decode cX10_meltsOf 50 = .ok (.imul, 1) := by decide +kernel
theorem dX10_meltsOf_51 : decode cX10_meltsOf 51 = .ok (.istore 4, 2) := by decide +kernel
theorem dX10_meltsOf_53 : decode cX10_meltsOf 53 = .ok (.iload_n 3, 1) := by decide +kernel
theorem dX10_meltsOf_54 : decode cX10_meltsOf 54 = .ok (.ifCond .eq 14, 3) := by decide +kernel
theorem dX10_meltsOf_57 : decode cX10_meltsOf 57 = .ok (.iload 4, 2) := by decide +kernel
theorem dX10_meltsOf_59 : decode cX10_meltsOf 59 = .ok (.aload_n 0, 1) := by decide +kernel
theorem dX10_meltsOf_60 : decode cX10_meltsOf 60 = .ok (.iconst 1, 1) := by decide +kernel
theorem dX10_meltsOf_61 : decode cX10_meltsOf 61 = .ok (.invokevirtual 306, 3) := by decide +kernel
theorem dX10_meltsOf_64 : decode cX10_meltsOf 64 = .ok (.isub, 1) := by decide +kernel
theorem dX10_meltsOf_65 : decode cX10_meltsOf 65 = .ok (.goto 5, 3) := by decide +kernel
theorem dX10_meltsOf_68 : decode cX10_meltsOf 68 = .ok (.iload 4, 2) := by decide +kernel
theorem dX10_meltsOf_70 : decode cX10_meltsOf 70 = .ok (.ireturn, 1) := by decide +kernel
theorem dX10_runsOf_0 : decode cX10_runsOf 0 = .ok (.aload_n 0, 1) := by decide +kernel
theorem dX10_runsOf_1 : decode cX10_runsOf 1 = .ok (.getfield 294, 3) := by decide +kernel
theorem dX10_runsOf_4 : decode cX10_runsOf 4 = .ok (.bipush 6, 2) := by decide +kernel
theorem dX10_runsOf_6 : decode cX10_runsOf 6 = .ok (.if_icmp .ne 9, 3) := by decide +kernel
theorem dX10_runsOf_9 : decode cX10_runsOf 9 = .ok (.aload_n 0, 1) := by decide +kernel
theorem dX10_runsOf_10 : decode cX10_runsOf 10 = .ok (.bipush 70, 2) := by decide +kernel
theorem dX10_runsOf_12 : decode cX10_runsOf 12 = .ok (.invokevirtual 297, 3) := by decide +kernel
theorem dX10_runsOf_15 : decode cX10_runsOf 15 = .ok (.aload_n 0, 1) := by decide +kernel
theorem dX10_runsOf_16 : decode cX10_runsOf 16 = .ok (.getfield 294, 3) := by decide +kernel
theorem dX10_runsOf_19 : decode cX10_runsOf 19 = .ok (.iconst 3, 1) := by decide +kernel
theorem dX10_runsOf_20 : decode cX10_runsOf 20 = .ok (.invokestatic 186, 3) := by decide +kernel
theorem dX10_runsOf_23 : decode cX10_runsOf 23 = .ok (.istore_n 2, 1) := by decide +kernel
theorem dX10_runsOf_24 : decode cX10_runsOf 24 = .ok (.iload_n 2, 1) := by decide +kernel
theorem dX10_runsOf_25 : decode cX10_runsOf 25 = .ok (.ifCond .eq 9, 3) := by decide +kernel
theorem dX10_runsOf_28 : decode cX10_runsOf 28 = .ok (.aload_n 0, 1) := by decide +kernel
theorem dX10_runsOf_29 : decode cX10_runsOf 29 = .ok (.bipush 40, 2) := by decide +kernel
theorem dX10_runsOf_31 : decode cX10_runsOf 31 = .ok (.invokevirtual 297, 3) := by decide +kernel
theorem dX10_runsOf_34 : decode cX10_runsOf 34 = .ok (.aload_n 0, 1) := by decide +kernel
theorem dX10_runsOf_35 : decode cX10_runsOf 35 = .ok (.bipush 12, 2) := by decide +kernel
theorem dX10_runsOf_37 : decode cX10_runsOf 37 = .ok (.invokevirtual 297, 3) := by decide +kernel
theorem dX10_runsOf_40 : decode cX10_runsOf 40 = .ok (.iload_n 2, 1) := by decide +kernel
theorem dX10_runsOf_41 : decode cX10_runsOf 41 = .ok (.ifCond .eq 13, 3) := by decide +kernel
theorem dX10_runsOf_44 : decode cX10_runsOf 44 = .ok (.iload_n 1, 1) := by decide +kernel
theorem dX10_runsOf_45 : decode cX10_runsOf 45 = .ok (.aload_n 0, 1) := by decide +kernel
theorem dX10_runsOf_46 : decode cX10_runsOf 46 = .ok (.getfield 309, 3) := by decide +kernel
theorem dX10_runsOf_49 : decode cX10_runsOf 49 = .ok (.isub, 1) := by decide +kernel
theorem dX10_runsOf_50 : decode cX10_runsOf 50 = .ok (.ineg, 1) := by decide +kernel
theorem dX10_runsOf_51 : decode cX10_runsOf 51 = .ok (.goto 9, 3) := by decide +kernel
theorem dX10_runsOf_54 : decode cX10_runsOf 54 = .ok (.iload_n 1, 1) := by decide +kernel
theorem dX10_runsOf_55 : decode cX10_runsOf 55 = .ok (.aload_n 0, 1) := by decide +kernel
theorem dX10_runsOf_56 : decode cX10_runsOf 56 = .ok (.getfield 309, 3) := by decide +kernel
theorem dX10_runsOf_59 : decode cX10_runsOf 59 = .ok (.isub, 1) := by decide +kernel
theorem dX10_runsOf_60 : decode cX10_runsOf 60 = .ok (.istore_n 3, 1) := by decide +kernel
theorem dX10_runsOf_61 : decode cX10_runsOf 61 = .ok (.aload_n 0, 1) := by decide +kernel
theorem dX10_runsOf_62 : decode cX10_runsOf 62 = .ok (.getfield 294, 3) := by decide +kernel
theorem dX10_runsOf_65 : decode cX10_runsOf 65 = .ok (.bipush 6, 2) := by decide +kernel
theorem dX10_runsOf_67 : decode cX10_runsOf 67 = .ok (.if_icmp .ne 12, 3) := by decide +kernel
theorem dX10_runsOf_70 : decode cX10_runsOf 70 = .ok (.iload_n 3, 1) := by decide +kernel
theorem dX10_runsOf_71 : decode cX10_runsOf 71 = .ok (.aload_n 0, 1) := by decide +kernel
theorem dX10_runsOf_72 : decode cX10_runsOf 72 = .ok (.getfield 300, 3) := by decide +kernel
theorem dX10_runsOf_75 : decode cX10_runsOf 75 = .ok (.ixor, 1) := by decide +kernel
theorem dX10_runsOf_76 : decode cX10_runsOf 76 = .ok (.goto 4, 3) := by decide +kernel
theorem dX10_runsOf_79 : decode cX10_runsOf 79 = .ok (.iload_n 3, 1) := by decide +kernel
theorem dX10_runsOf_80 : decode cX10_runsOf 80 = .ok (.ireturn, 1) := by decide +kernel
theorem dX10_plainGlows_0 : decode cX10_plainGlows 0 = .ok (.aload_n 0, 1) := by decide +kernel
theorem dX10_plainGlows_1 : decode cX10_plainGlows 1 = .ok (.bipush 13, 2) := by decide +kernel
theorem dX10_plainGlows_3 : decode cX10_plainGlows 3 = .ok (.invokevirtual 297, 3) := by decide +kernel
theorem dX10_plainGlows_6 : decode cX10_plainGlows 6 = .ok (.aload_n 0, 1) := by decide +kernel
theorem dX10_plainGlows_7 : decode cX10_plainGlows 7 = .ok (.iload_n 1, 1) := by decide +kernel
theorem dX10_plainGlows_8 : decode cX10_plainGlows 8 = .ok (.invokevirtual 312, 3) := by decide +kernel
theorem dX10_plainGlows_11 : decode cX10_plainGlows 11 = .ok (.istore_n 2, 1) := by decide +kernel
theorem dX10_plainGlows_12 : decode cX10_plainGlows 12 = .ok (.iload_n 2, 1) := by decide +kernel
theorem dX10_plainGlows_13 : decode cX10_plainGlows 13 = .ok (.aload_n 0, 1) := by decide +kernel
theorem dX10_plainGlows_14 : decode cX10_plainGlows 14 = .ok (.iload_n 1, 1) := by decide +kernel
theorem dX10_plainGlows_15 : decode cX10_plainGlows 15 = .ok (.invokevirtual 306, 3) := by decide +kernel
theorem dX10_plainGlows_18 : decode cX10_plainGlows 18 = .ok (.ixor, 1) := by decide +kernel
theorem dX10_plainGlows_19 : decode cX10_plainGlows 19 = .ok (.ireturn, 1) := by decide +kernel
theorem dX10_glowsOf_0 : decode cX10_glowsOf 0 = .ok (.aload_n 0, 1) := by decide +kernel
theorem dX10_glowsOf_1 : decode cX10_glowsOf 1 = .ok (.getfield 294, 3) := by decide +kernel
theorem dX10_glowsOf_4 : decode cX10_glowsOf 4 = .ok (.bipush 6, 2) := by decide +kernel
theorem dX10_glowsOf_6 : decode cX10_glowsOf 6 = .ok (.if_icmp .ne 23, 3) := by decide +kernel
theorem dX10_glowsOf_9 : decode cX10_glowsOf 9 = .ok (.aload_n 0, 1) := by decide +kernel
theorem dX10_glowsOf_10 : decode cX10_glowsOf 10 = .ok (.bipush 71, 2) := by decide +kernel
theorem dX10_glowsOf_12 : decode cX10_glowsOf 12 = .ok (.invokevirtual 297, 3) := by decide +kernel
theorem dX10_glowsOf_15 : decode cX10_glowsOf 15 = .ok (.aload_n 0, 1) := by decide +kernel
theorem dX10_glowsOf_16 : decode cX10_glowsOf 16 = .ok (.iload_n 1, 1) := by decide +kernel
theorem dX10_glowsOf_17 : decode cX10_glowsOf 17 = .ok (.invokevirtual 312, 3) := by decide +kernel
theorem dX10_glowsOf_20 : decode cX10_glowsOf 20 = .ok (.istore_n 2, 1) := by decide +kernel
theorem dX10_glowsOf_21 : decode cX10_glowsOf 21 = .ok (.iload_n 2, 1) := by decide +kernel
theorem dX10_glowsOf_22 : decode cX10_glowsOf 22 = .ok (.aload_n 0, 1) := by decide +kernel
theorem dX10_glowsOf_23 : decode cX10_glowsOf 23 = .ok (.iload_n 1, 1) := by decide +kernel
theorem dX10_glowsOf_24 : decode cX10_glowsOf 24 = .ok (.invokevirtual 315, 3) := by decide +kernel
theorem dX10_glowsOf_27 : decode cX10_glowsOf 27 = .ok (.isub, 1) := by decide +kernel
theorem dX10_glowsOf_28 : decode cX10_glowsOf 28 = .ok (.ireturn, 1) := by decide +kernel
theorem dX10_glowsOf_29 : decode cX10_glowsOf 29 = .ok (.aload_n 0, 1) := by decide +kernel
theorem dX10_glowsOf_30 : decode cX10_glowsOf 30 = .ok (.getfield 294, 3) := by decide +kernel
theorem dX10_glowsOf_33 : decode cX10_glowsOf 33 = .ok (.iconst 4, 1) := by decide +kernel
theorem dX10_glowsOf_34 : decode cX10_glowsOf 34 = .ok (.if_icmp .ne 23, 3) := by decide +kernel
theorem dX10_glowsOf_37 : decode cX10_glowsOf 37 = .ok (.aload_n 0, 1) := by decide +kernel
theorem dX10_glowsOf_38 : decode cX10_glowsOf 38 = .ok (.bipush 50, 2) := by decide +kernel
theorem dX10_glowsOf_40 : decode cX10_glowsOf 40 = .ok (.invokevirtual 297, 3) := by decide +kernel
theorem dX10_glowsOf_43 : decode cX10_glowsOf 43 = .ok (.aload_n 0, 1) := by decide +kernel
theorem dX10_glowsOf_44 : decode cX10_glowsOf 44 = .ok (.iload_n 1, 1) := by decide +kernel
theorem dX10_glowsOf_45 : decode cX10_glowsOf 45 = .ok (.invokevirtual 315, 3) := by decide +kernel
theorem dX10_glowsOf_48 : decode cX10_glowsOf 48 = .ok (.istore_n 2, 1) := by decide +kernel
theorem dX10_glowsOf_49 : decode cX10_glowsOf 49 = .ok (.iload_n 2, 1) := by decide +kernel
theorem dX10_glowsOf_50 : decode cX10_glowsOf 50 = .ok (.aload_n 0, 1) := by decide +kernel
theorem dX10_glowsOf_51 : decode cX10_glowsOf 51 = .ok (.iconst 2, 1) := by decide +kernel
theorem dX10_glowsOf_52 : decode cX10_glowsOf 52 = .ok (.invokevirtual 303, 3) := by decide +kernel
theorem dX10_glowsOf_55 : decode cX10_glowsOf 55 = .ok (.isub, 1) := by decide +kernel
theorem dX10_glowsOf_56 : decode cX10_glowsOf 56 = .ok (.ireturn, 1) := by decide +kernel
theorem dX10_glowsOf_57 : decode cX10_glowsOf 57 = .ok (.aload_n 0, 1) := by decide +kernel
theorem dX10_glowsOf_58 : decode cX10_glowsOf 58 = .ok (.iload_n 1, 1) := by decide +kernel
theorem dX10_glowsOf_59 : decode cX10_glowsOf 59 = .ok (.invokevirtual 315, 3) := by decide +kernel
theorem dX10_glowsOf_62 : decode cX10_glowsOf 62 = .ok (.ireturn, 1) := by decide +kernel
theorem dX10_voice_0 : decode cX10_voice 0 = .ok (.aload_n 0, 1) := by decide +kernel
theorem dX10_voice_1 : decode cX10_voice 1 = .ok (.iload_n 1, 1) := by decide +kernel
theorem dX10_voice_2 : decode cX10_voice 2 = .ok (.invokevirtual 171, 3) := by decide +kernel
theorem dX10_voice_5 : decode cX10_voice 5 = .ok (.ifCond .eq 12, 3) := by decide +kernel
theorem dX10_voice_8 : decode cX10_voice 8 = .ok (.iload_n 2, 1) := by decide +kernel
theorem dX10_voice_9 : decode cX10_voice 9 = .ok (.iconst 0, 1) := by decide +kernel
theorem dX10_voice_10 : decode cX10_voice 10 = .ok (.iconst 3, 1) := by decide +kernel
theorem dX10_voice_11 : decode cX10_voice 11 = .ok (.invokestatic 70, 3) := by decide +kernel
theorem dX10_voice_14 : decode cX10_voice 14 = .ok (.ifCond .ne 10, 3) := by decide +kernel
theorem dX10_voice_17 : decode cX10_voice 17 = .ok (.aload_n 0, 1) := by decide +kernel
theorem dX10_voice_18 : decode cX10_voice 18 = .ok (.ldc 74, 2) := by decide +kernel
theorem dX10_voice_20 : decode cX10_voice 20 = .ok (.invokevirtual 75, 3) := by decide +kernel
theorem dX10_voice_23 : decode cX10_voice 23 = .ok (.ireturn, 1) := by decide +kernel
theorem dX10_voice_24 : decode cX10_voice 24 = .ok (.aload_n 0, 1) := by decide +kernel
theorem dX10_voice_25 : decode cX10_voice 25 = .ok (.iconst 0, 1) := by decide +kernel
theorem dX10_voice_26 : decode cX10_voice 26 = .ok (.putfield 291, 3) := by decide +kernel
theorem dX10_voice_29 : decode cX10_voice 29 = .ok (.aload_n 0, 1) := by decide +kernel
theorem dX10_voice_30 : decode cX10_voice 30 = .ok (.aload_n 0, 1) := by decide +kernel
theorem dX10_voice_31 : decode cX10_voice 31 = .ok (.iload_n 1, 1) := by decide +kernel
theorem dX10_voice_32 : decode cX10_voice 32 = .ok (.iconst 0, 1) := by decide +kernel
theorem dX10_voice_33 : decode cX10_voice 33 = .ok (.invokevirtual 177, 3) := by decide +kernel
theorem dX10_voice_36 : decode cX10_voice 36 = .ok (.putfield 294, 3) := by decide +kernel
theorem dX10_voice_39 : decode cX10_voice 39 = .ok (.aload_n 0, 1) := by decide +kernel
theorem dX10_voice_40 : decode cX10_voice 40 = .ok (.iload_n 1, 1) := by decide +kernel
theorem dX10_voice_41 : decode cX10_voice 41 = .ok (.putfield 300, 3) := by decide +kernel
theorem dX10_voice_44 : decode cX10_voice 44 = .ok (.aload_n 0, 1) := by decide +kernel
theorem dX10_voice_45 : decode cX10_voice 45 = .ok (.aload_n 0, 1) := by decide +kernel
theorem dX10_voice_46 : decode cX10_voice 46 = .ok (.iload_n 1, 1) := by decide +kernel
theorem dX10_voice_47 : decode cX10_voice 47 = .ok (.iconst 1, 1) := by decide +kernel
theorem dX10_voice_48 : decode cX10_voice 48 = .ok (.invokevirtual 177, 3) := by decide +kernel
theorem dX10_voice_51 : decode cX10_voice 51 = .ok (.putfield 309, 3) := by decide +kernel
theorem dX10_voice_54 : decode cX10_voice 54 = .ok (.iload_n 2, 1) := by decide +kernel
theorem dX10_voice_55 : decode cX10_voice 55 = .ok (.ifCond .ne 11, 3) := by decide +kernel
theorem dX10_voice_58 : decode cX10_voice 58 = .ok (.aload_n 0, 1) := by decide +kernel
theorem dX10_voice_59 : decode cX10_voice 59 = .ok (.iload_n 3, 1) := by decide +kernel
theorem dX10_voice_60 : decode cX10_voice 60 = .ok (.invokevirtual 303, 3) := by decide +kernel
theorem dX10_voice_63 : decode cX10_voice 63 = .ok (.goto 34, 3) := by decide +kernel
theorem dX10_voice_66 : decode cX10_voice 66 = .ok (.iload_n 2, 1) := by decide +kernel
theorem dX10_voice_67 : decode cX10_voice 67 = .ok (.iconst 1, 1) := by decide +kernel
theorem dX10_voice_68 : decode cX10_voice 68 = .ok (.if_icmp .ne 11, 3) := by decide +kernel
theorem dX10_voice_71 : decode cX10_voice 71 = .ok (.aload_n 0, 1) := by decide +kernel
theorem dX10_voice_72 : decode cX10_voice 72 = .ok (.iload_n 3, 1) := by decide +kernel
theorem dX10_voice_73 : decode cX10_voice 73 = .ok (.invokevirtual 312, 3) := by decide +kernel
theorem dX10_voice_76 : decode cX10_voice 76 = .ok (.goto 21, 3) := by decide +kernel
theorem dX10_voice_79 : decode cX10_voice 79 = .ok (.iload_n 2, 1) := by decide +kernel
theorem dX10_voice_80 : decode cX10_voice 80 = .ok (.iconst 2, 1) := by decide +kernel
theorem dX10_voice_81 : decode cX10_voice 81 = .ok (.if_icmp .ne 11, 3) := by decide +kernel
theorem dX10_voice_84 : decode cX10_voice 84 = .ok (.aload_n 0, 1) := by decide +kernel
theorem dX10_voice_85 : decode cX10_voice 85 = .ok (.iload_n 3, 1) := by decide +kernel
theorem dX10_voice_86 : decode cX10_voice 86 = .ok (.invokevirtual 306, 3) := by decide +kernel
theorem dX10_voice_89 : decode cX10_voice 89 = .ok (.goto 8, 3) := by decide +kernel
theorem dX10_voice_92 : decode cX10_voice 92 = .ok (.aload_n 0, 1) := by decide +kernel
theorem dX10_voice_93 : decode cX10_voice 93 = .ok (.iload_n 3, 1) := by decide +kernel
theorem dX10_voice_94 : decode cX10_voice 94 = .ok (.invokevirtual 318, 3) := by decide +kernel
theorem dX10_voice_97 : decode cX10_voice 97 = .ok (.ireturn, 1) := by decide +kernel
theorem dX10_trace_0 : decode cX10_trace 0 = .ok (.iload_n 1, 1) := by decide +kernel
theorem dX10_trace_1 : decode cX10_trace 1 = .ok (.iconst 0, 1) := by decide +kernel
theorem dX10_trace_2 : decode cX10_trace 2 = .ok (.aload_n 0, 1) := by decide +kernel
theorem dX10_trace_3 : decode cX10_trace 3 = .ok (.getfield 291, 3) := by decide +kernel
theorem dX10_trace_6 : decode cX10_trace 6 = .ok (.iconst 1, 1) := by decide +kernel
theorem dX10_trace_7 : decode cX10_trace 7 = .ok (.isub, 1) := by decide +kernel
theorem dX10_trace_8 : decode cX10_trace 8 = .ok (.invokestatic 70, 3) := by decide +kernel
theorem dX10_trace_11 : decode cX10_trace 11 = .ok (.ifCond .eq 12, 3) := by decide +kernel
theorem dX10_trace_14 : decode cX10_trace 14 = .ok (.aload_n 0, 1) := by decide +kernel
theorem dX10_trace_15 : decode cX10_trace 15 = .ok (.getfield 41, 3) := by decide +kernel
theorem dX10_trace_18 : decode cX10_trace 18 = .ok (.iload_n 1, 1) := by decide +kernel
theorem dX10_trace_19 : decode cX10_trace 19 = .ok (.iaload, 1) := by decide +kernel
theorem dX10_trace_20 : decode cX10_trace 20 = .ok (.goto 9, 3) := by decide +kernel
theorem dX10_trace_23 : decode cX10_trace 23 = .ok (.aload_n 0, 1) := by decide +kernel
theorem dX10_trace_24 : decode cX10_trace 24 = .ok (.ldc 225, 2) := by decide +kernel
theorem dX10_trace_26 : decode cX10_trace 26 = .ok (.invokevirtual 75, 3) := by decide +kernel
theorem dX10_trace_29 : decode cX10_trace 29 = .ok (.ireturn, 1) := by decide +kernel
theorem dX10_isSheet_0 : decode cX10_isSheet 0 = .ok (.iload_n 0, 1) := by decide +kernel
theorem dX10_isSheet_1 : decode cX10_isSheet 1 = .ok (.iconst 0, 1) := by decide +kernel
theorem dX10_isSheet_2 : decode cX10_isSheet 2 = .ok (.iconst 3, 1) := by decide +kernel
theorem dX10_isSheet_3 : decode cX10_isSheet 3 = .ok (.invokestatic 70, 3) := by decide +kernel
theorem dX10_isSheet_6 : decode cX10_isSheet 6 = .ok (.ireturn, 1) := by decide +kernel
theorem dX10_sheet_0 : decode cX10_sheet 0 = .ok (.iload_n 1, 1) := by decide +kernel
theorem dX10_sheet_1 : decode cX10_sheet 1 = .ok (.invokestatic 279, 3) := by decide +kernel
theorem dX10_sheet_4 : decode cX10_sheet 4 = .ok (.ifCond .eq 25, 3) := by decide +kernel
theorem dX10_sheet_7 : decode cX10_sheet 7 = .ok (.iload_n 2, 1) := by decide +kernel
theorem dX10_sheet_8 : decode cX10_sheet 8 = .ok (.ifCond .eq 28, 3) := by decide +kernel
theorem dX10_sheet_11 : decode cX10_sheet 11 = .ok (.iload_n 2, 1) := by decide +kernel
theorem dX10_sheet_12 : decode cX10_sheet 12 = .ok (.bipush 8, 2) := by decide +kernel
theorem dX10_sheet_14 : decode cX10_sheet 14 = .ok (.if_icmp .eq 22, 3) := by decide +kernel
theorem dX10_sheet_17 : decode cX10_sheet 17 = .ok (.iload_n 2, 1) := by decide +kernel
theorem dX10_sheet_18 : decode cX10_sheet 18 = .ok (.bipush 16, 2) := by decide +kernel
theorem dX10_sheet_20 : decode cX10_sheet 20 = .ok (.if_icmp .eq 16, 3) := by decide +kernel
theorem dX10_sheet_23 : decode cX10_sheet 23 = .ok (.iload_n 2, 1) := by decide +kernel
theorem dX10_sheet_24 : decode cX10_sheet 24 = .ok (.bipush 32, 2) := by decide +kernel
theorem dX10_sheet_26 : decode cX10_sheet 26 = .ok (.if_icmp .eq 10, 3) := by decide +kernel
theorem dX10_sheet_29 : decode cX10_sheet 29 = .ok (.aload_n 0, 1) := by decide +kernel
theorem dX10_sheet_30 : decode cX10_sheet 30 = .ok (.ldc 74, 2) := by decide +kernel
theorem dX10_sheet_32 : decode cX10_sheet 32 = .ok (.invokevirtual 75, 3) := by decide +kernel
theorem dX10_sheet_35 : decode cX10_sheet 35 = .ok (.ireturn, 1) := by decide +kernel
theorem dX10_sheet_36 : decode cX10_sheet 36 = .ok (.iload_n 2, 1) := by decide +kernel
theorem dX10_sheet_37 : decode cX10_sheet 37 = .ok (.ifCond .eq 14, 3) := by decide +kernel
theorem dX10_sheet_40 : decode cX10_sheet 40 = .ok (.iload_n 3, 1) := by decide +kernel
theorem dX10_sheet_41 : decode cX10_sheet 41 = .ok (.ifCond .ge 10, 3) := by decide +kernel
theorem dX10_sheet_44 : decode cX10_sheet 44 = .ok (.aload_n 0, 1) := by decide +kernel
theorem dX10_sheet_45 : decode cX10_sheet 45 = .ok (.ldc 229, 2) := by decide +kernel
theorem dX10_sheet_47 : decode cX10_sheet 47 = .ok (.invokevirtual 75, 3) := by decide +kernel
theorem dX10_sheet_50 : decode cX10_sheet 50 = .ok (.ireturn, 1) := by decide +kernel
theorem dX10_sheet_51 : decode cX10_sheet 51 = .ok (.iload_n 2, 1) := by decide +kernel
theorem dX10_sheet_52 : decode cX10_sheet 52 = .ok (.ifCond .eq 16, 3) := by decide +kernel
theorem dX10_sheet_55 : decode cX10_sheet 55 = .ok (.iload_n 3, 1) := by decide +kernel
theorem dX10_sheet_56 : decode cX10_sheet 56 = .ok (.bipush 40, 2) := by decide +kernel
theorem dX10_sheet_58 : decode cX10_sheet 58 = .ok (.if_icmp .le 10, 3) := by decide +kernel
theorem dX10_sheet_61 : decode cX10_sheet 61 = .ok (.aload_n 0, 1) := by decide +kernel
theorem dX10_sheet_62 : decode cX10_sheet 62 = .ok (.ldc 74, 2) := by decide +kernel
theorem dX10_sheet_64 : decode cX10_sheet 64 = .ok (.invokevirtual 75, 3) := by decide +kernel
theorem dX10_sheet_67 : decode cX10_sheet 67 = .ok (.ireturn, 1) := by decide +kernel
theorem dX10_sheet_68 : decode cX10_sheet 68 = .ok (.aload_n 0, 1) := by decide +kernel
theorem dX10_sheet_69 : decode cX10_sheet 69 = .ok (.getfield 44, 3) := by decide +kernel
theorem dX10_sheet_72 : decode cX10_sheet 72 = .ok (.iload_n 1, 1) := by decide +kernel
theorem dX10_sheet_73 : decode cX10_sheet 73 = .ok (.iload_n 2, 1) := by decide +kernel
theorem dX10_sheet_74 : decode cX10_sheet 74 = .ok (.iastore, 1) := by decide +kernel
theorem dX10_sheet_75 : decode cX10_sheet 75 = .ok (.aload_n 0, 1) := by decide +kernel
theorem dX10_sheet_76 : decode cX10_sheet 76 = .ok (.getfield 47, 3) := by decide +kernel
theorem dX10_sheet_79 : decode cX10_sheet 79 = .ok (.iload_n 1, 1) := by decide +kernel
theorem dX10_sheet_80 : decode cX10_sheet 80 = .ok (.iload_n 2, 1) := by decide +kernel
theorem dX10_sheet_81 : decode cX10_sheet 81 = .ok (.ifCond .ne 7, 3) := by decide +kernel
theorem dX10_sheet_84 : decode cX10_sheet 84 = .ok (.iconst 0, 1) := by decide +kernel
theorem dX10_sheet_85 : decode cX10_sheet 85 = .ok (.goto 4, 3) := by decide +kernel
theorem dX10_sheet_88 : decode cX10_sheet 88 = .ok (.iload_n 3, 1) := by decide +kernel
theorem dX10_sheet_89 : decode cX10_sheet 89 = .ok (.iastore, 1) := by decide +kernel
theorem dX10_sheet_90 : decode cX10_sheet 90 = .ok (.iconst 0, 1) := by decide +kernel
theorem dX10_sheet_91 : decode cX10_sheet 91 = .ok (.istore 4, 2) := by decide +kernel
theorem dX10_sheet_93 : decode cX10_sheet 93 = .ok (.iload 4, 2) := by decide +kernel
theorem dX10_sheet_95 : decode cX10_sheet 95 = .ok (.bipush 40, 2) := by decide +kernel
theorem dX10_sheet_97 : decode cX10_sheet 97 = .ok (.if_icmp .ge 22, 3) := by decide +kernel
theorem dX10_sheet_100 : decode cX10_sheet 100 = .ok (.aload_n 0, 1) := by decide +kernel
theorem dX10_sheet_101 : decode cX10_sheet 101 = .ok (.getfield 50, 3) := by decide +kernel
theorem dX10_sheet_104 : decode cX10_sheet 104 = .ok (.bipush 40, 2) := by decide +kernel
theorem dX10_sheet_106 : decode cX10_sheet 106 = .ok (.iload_n 1, 1) := by decide +kernel
theorem dX10_sheet_107 : decode cX10_sheet 107 = .ok (.imul, 1) := by decide +kernel
theorem dX10_sheet_108 : decode cX10_sheet 108 = .ok (.iload 4, 2) := by decide +kernel
theorem dX10_sheet_110 : decode cX10_sheet 110 = .ok (.iadd, 1) := by decide +kernel
theorem dX10_sheet_111 : decode cX10_sheet 111 = .ok (.iconst 0, 1) := by decide +kernel
theorem dX10_sheet_112 : decode cX10_sheet 112 = .ok (.iastore, 1) := by decide +kernel
theorem dX10_sheet_113 : decode cX10_sheet 113 = .ok (.iinc 4 1, 3) := by decide +kernel
theorem dX10_sheet_116 : decode cX10_sheet 116 = .ok (.goto (-23), 3) := by decide +kernel
theorem dX10_sheet_119 : decode cX10_sheet 119 = .ok (.iconst 1, 1) := by decide +kernel
theorem dX10_sheet_120 : decode cX10_sheet 120 = .ok (.ireturn, 1) := by decide +kernel
theorem dX10_put_0 : decode cX10_put 0 = .ok (.iload_n 1, 1) := by decide +kernel
theorem dX10_put_1 : decode cX10_put 1 = .ok (.invokestatic 279, 3) := by decide +kernel
theorem dX10_put_4 : decode cX10_put 4 = .ok (.ifCond .ne 10, 3) := by decide +kernel
theorem dX10_put_7 : decode cX10_put 7 = .ok (.aload_n 0, 1) := by decide +kernel
theorem dX10_put_8 : decode cX10_put 8 = .ok (.ldc 74, 2) := by decide +kernel
theorem dX10_put_10 : decode cX10_put 10 = .ok (.invokevirtual 75, 3) := by decide +kernel
theorem dX10_put_13 : decode cX10_put 13 = .ok (.ireturn, 1) := by decide +kernel
theorem dX10_put_14 : decode cX10_put 14 = .ok (.aload_n 0, 1) := by decide +kernel
theorem dX10_put_15 : decode cX10_put 15 = .ok (.getfield 44, 3) := by decide +kernel
theorem dX10_put_18 : decode cX10_put 18 = .ok (.iload_n 1, 1) := by decide +kernel
theorem dX10_put_19 : decode cX10_put 19 = .ok (.iaload, 1) := by decide +kernel
theorem dX10_put_20 : decode cX10_put 20 = .ok (.ifCond .ne 10, 3) := by decide +kernel
theorem dX10_put_23 : decode cX10_put 23 = .ok (.aload_n 0, 1) := by decide +kernel
theorem dX10_put_24 : decode cX10_put 24 = .ok (.ldc 225, 2) := by decide +kernel
theorem dX10_put_26 : decode cX10_put 26 = .ok (.invokevirtual 75, 3) := by decide +kernel
theorem dX10_put_29 : decode cX10_put 29 = .ok (.ireturn, 1) := by decide +kernel
theorem dX10_put_30 : decode cX10_put 30 = .ok (.iload_n 2, 1) := by decide +kernel
theorem dX10_put_31 : decode cX10_put 31 = .ok (.iconst 0, 1) := by decide +kernel
theorem dX10_put_32 : decode cX10_put 32 = .ok (.aload_n 0, 1) := by decide +kernel
theorem dX10_put_33 : decode cX10_put 33 = .ok (.getfield 47, 3) := by decide +kernel
theorem dX10_put_36 : decode cX10_put 36 = .ok (.iload_n 1, 1) := by decide +kernel
theorem dX10_put_37 : decode cX10_put 37 = .ok (.iaload, 1) := by decide +kernel
theorem dX10_put_38 : decode cX10_put 38 = .ok (.iconst 1, 1) := by decide +kernel
theorem dX10_put_39 : decode cX10_put 39 = .ok (.isub, 1) := by decide +kernel
theorem dX10_put_40 : decode cX10_put 40 = .ok (.invokestatic 70, 3) := by decide +kernel
theorem dX10_put_43 : decode cX10_put 43 = .ok (.ifCond .ne 10, 3) := by decide +kernel
theorem dX10_put_46 : decode cX10_put 46 = .ok (.aload_n 0, 1) := by decide +kernel
theorem dX10_put_47 : decode cX10_put 47 = .ok (.ldc 74, 2) := by decide +kernel
theorem dX10_put_49 : decode cX10_put 49 = .ok (.invokevirtual 75, 3) := by decide +kernel
theorem dX10_put_52 : decode cX10_put 52 = .ok (.ireturn, 1) := by decide +kernel
theorem dX10_put_53 : decode cX10_put 53 = .ok (.aload_n 0, 1) := by decide +kernel
theorem dX10_put_54 : decode cX10_put 54 = .ok (.getfield 50, 3) := by decide +kernel
theorem dX10_put_57 : decode cX10_put 57 = .ok (.bipush 40, 2) := by decide +kernel
theorem dX10_put_59 : decode cX10_put 59 = .ok (.iload_n 1, 1) := by decide +kernel
theorem dX10_put_60 : decode cX10_put 60 = .ok (.imul, 1) := by decide +kernel
theorem dX10_put_61 : decode cX10_put 61 = .ok (.iload_n 2, 1) := by decide +kernel
theorem dX10_put_62 : decode cX10_put 62 = .ok (.iadd, 1) := by decide +kernel
theorem dX10_put_63 : decode cX10_put 63 = .ok (.aload_n 0, 1) := by decide +kernel
theorem dX10_put_64 : decode cX10_put 64 = .ok (.getfield 44, 3) := by decide +kernel
theorem dX10_put_67 : decode cX10_put 67 = .ok (.iload_n 1, 1) := by decide +kernel
theorem dX10_put_68 : decode cX10_put 68 = .ok (.iaload, 1) := by decide +kernel
theorem dX10_put_69 : decode cX10_put 69 = .ok (.bipush 8, 2) := by decide +kernel
theorem dX10_put_71 : decode cX10_put 71 = .ok (.if_icmp .ne 8, 3) := by decide +kernel
theorem dX10_put_74 : decode cX10_put 74 = .ok (.iload_n 3, 1) := by decide +kernel
theorem dX10_put_75 : decode cX10_put 75 = .ok (.i2b, 1) := by decide +kernel
theorem dX10_put_76 : decode cX10_put 76 = .ok (.goto 20, 3) := by decide +kernel
theorem dX10_put_79 : decode cX10_put 79 = .ok (.aload_n 0, 1) := by decide +kernel
theorem dX10_put_80 : decode cX10_put 80 = .ok (.getfield 44, 3) := by decide +kernel
theorem dX10_put_83 : decode cX10_put 83 = .ok (.iload_n 1, 1) := by decide +kernel
theorem dX10_put_84 : decode cX10_put 84 = .ok (.iaload, 1) := by decide +kernel
theorem dX10_put_85 : decode cX10_put 85 = .ok (.bipush 16, 2) := by decide +kernel
theorem dX10_put_87 : decode cX10_put 87 = .ok (.if_icmp .ne 8, 3) := by decide +kernel
theorem dX10_put_90 : decode cX10_put 90 = .ok (.iload_n 3, 1) := by decide +kernel
theorem dX10_put_91 : decode cX10_put 91 = .ok (.i2s, 1) := by decide +kernel
theorem dX10_put_92 : decode cX10_put 92 = .ok (.goto 4, 3) := by decide +kernel
theorem dX10_put_95 : decode cX10_put 95 = .ok (.iload_n 3, 1) := by decide +kernel
theorem dX10_put_96 : decode cX10_put 96 = .ok (.iastore, 1) := by decide +kernel
theorem dX10_put_97 : decode cX10_put 97 = .ok (.iconst 1, 1) := by decide +kernel
theorem dX10_put_98 : decode cX10_put 98 = .ok (.ireturn, 1) := by decide +kernel
theorem dX10_move_0 : decode cX10_move 0 = .ok (.iload_n 1, 1) := by decide +kernel
theorem dX10_move_1 : decode cX10_move 1 = .ok (.invokestatic 279, 3) := by decide +kernel
theorem dX10_move_4 : decode cX10_move 4 = .ok (.ifCond .eq 10, 3) := by decide +kernel
theorem dX10_move_7 : decode cX10_move 7 = .ok (.iload_n 3, 1) := by decide +kernel
theorem dX10_move_8 : decode cX10_move 8 = .ok (.invokestatic 279, 3) := by decide +kernel
theorem dX10_move_11 : decode cX10_move 11 = .ok (.ifCond .ne 10, 3) := by decide +kernel
theorem dX10_move_14 : decode cX10_move 14 = .ok (.aload_n 0, 1) := by decide +kernel
theorem dX10_move_15 : decode cX10_move 15 = .ok (.ldc 74, 2) := by decide +kernel
theorem dX10_move_17 : decode cX10_move 17 = .ok (.invokevirtual 75, 3) := by decide +kernel
theorem dX10_move_20 : decode cX10_move 20 = .ok (.ireturn, 1) := by decide +kernel
theorem dX10_move_21 : decode cX10_move 21 = .ok (.aload_n 0, 1) := by decide +kernel
theorem dX10_move_22 : decode cX10_move 22 = .ok (.getfield 44, 3) := by decide +kernel
theorem dX10_move_25 : decode cX10_move 25 = .ok (.iload_n 1, 1) := by decide +kernel
theorem dX10_move_26 : decode cX10_move 26 = .ok (.iaload, 1) := by decide +kernel
theorem dX10_move_27 : decode cX10_move 27 = .ok (.ifCond .eq 12, 3) := by decide +kernel
theorem dX10_move_30 : decode cX10_move 30 = .ok (.aload_n 0, 1) := by decide +kernel
theorem dX10_move_31 : decode cX10_move 31 = .ok (.getfield 44, 3) := by decide +kernel
theorem dX10_move_34 : decode cX10_move 34 = .ok (.iload_n 3, 1) := by decide +kernel
theorem dX10_move_35 : decode cX10_move 35 = .ok (.iaload, 1) := by decide +kernel
theorem dX10_move_36 : decode cX10_move 36 = .ok (.ifCond .ne 10, 3) := by decide +kernel
theorem dX10_move_39 : decode cX10_move 39 = .ok (.aload_n 0, 1) := by decide +kernel
theorem dX10_move_40 : decode cX10_move 40 = .ok (.ldc 225, 2) := by decide +kernel
theorem dX10_move_42 : decode cX10_move 42 = .ok (.invokevirtual 75, 3) := by decide +kernel
theorem dX10_move_45 : decode cX10_move 45 = .ok (.ireturn, 1) := by decide +kernel
theorem dX10_move_46 : decode cX10_move 46 = .ok (.aload_n 0, 1) := by decide +kernel
theorem dX10_move_47 : decode cX10_move 47 = .ok (.getfield 44, 3) := by decide +kernel
theorem dX10_move_50 : decode cX10_move 50 = .ok (.iload_n 1, 1) := by decide +kernel
theorem dX10_move_51 : decode cX10_move 51 = .ok (.iaload, 1) := by decide +kernel
theorem dX10_move_52 : decode cX10_move 52 = .ok (.aload_n 0, 1) := by decide +kernel
theorem dX10_move_53 : decode cX10_move 53 = .ok (.getfield 44, 3) := by decide +kernel
theorem dX10_move_56 : decode cX10_move 56 = .ok (.iload_n 3, 1) := by decide +kernel
theorem dX10_move_57 : decode cX10_move 57 = .ok (.iaload, 1) := by decide +kernel
theorem dX10_move_58 : decode cX10_move 58 = .ok (.if_icmp .eq 10, 3) := by decide +kernel
theorem dX10_move_61 : decode cX10_move 61 = .ok (.aload_n 0, 1) := by decide +kernel
theorem dX10_move_62 : decode cX10_move 62 = .ok (.ldc 190, 2) := by decide +kernel
theorem dX10_move_64 : decode cX10_move 64 = .ok (.invokevirtual 75, 3) := by decide +kernel
theorem dX10_move_67 : decode cX10_move 67 = .ok (.ireturn, 1) := by decide +kernel
theorem dX10_move_68 : decode cX10_move 68 = .ok (.iload 5, 2) := by decide +kernel
theorem dX10_move_70 : decode cX10_move 70 = .ok (.ifCond .lt 47, 3) := by decide +kernel
theorem dX10_move_73 : decode cX10_move 73 = .ok (.iload_n 2, 1) := by decide +kernel
theorem dX10_move_74 : decode cX10_move 74 = .ok (.ifCond .lt 43, 3) := by decide +kernel
theorem dX10_move_77 : decode cX10_move 77 = .ok (.iload 4, 2) := by decide +kernel
theorem dX10_move_79 : decode cX10_move 79 = .ok (.ifCond .lt 38, 3) := by decide +kernel
theorem dX10_move_82 : decode cX10_move 82 = .ok (.iload_n 2, 1) := by decide +kernel
theorem dX10_move_83 : decode cX10_move 83 = .ok (.i2l, 1) := by decide +kernel
theorem dX10_move_84 : decode cX10_move 84 = .ok (.iload 5, 2) := by decide +kernel
theorem dX10_move_86 : decode cX10_move 86 = .ok (.i2l, 1) := by decide +kernel
theorem dX10_move_87 : decode cX10_move 87 = .ok (.ladd, 1) := by decide +kernel
theorem dX10_move_88 : decode cX10_move 88 = .ok (.aload_n 0, 1) := by decide +kernel
theorem dX10_move_89 : decode cX10_move 89 = .ok (.getfield 47, 3) := by decide +kernel
theorem dX10_move_92 : decode cX10_move 92 = .ok (.iload_n 1, 1) := by decide +kernel
theorem dX10_move_93 : decode cX10_move 93 = .ok (.iaload, 1) := by decide +kernel
theorem dX10_move_94 : decode cX10_move 94 = .ok (.i2l, 1) := by decide +kernel
theorem dX10_move_95 : decode cX10_move 95 = .ok (.lcmp, 1) := by decide +kernel
theorem dX10_move_96 : decode cX10_move 96 = .ok (.ifCond .gt 21, 3) := by decide +kernel
theorem dX10_move_99 : decode cX10_move 99 = .ok (.iload 4, 2) := by decide +kernel
theorem dX10_move_101 : decode cX10_move 101 = .ok (.i2l, 1) := by decide +kernel
theorem dX10_move_102 : decode cX10_move 102 = .ok (.iload 5, 2) := by decide +kernel
theorem dX10_move_104 : decode cX10_move 104 = .ok (.i2l, 1) := by decide +kernel
theorem dX10_move_105 : decode cX10_move 105 = .ok (.ladd, 1) := by decide +kernel
theorem dX10_move_106 : decode cX10_move 106 = .ok (.aload_n 0, 1) := by decide +kernel
theorem dX10_move_107 : decode cX10_move 107 = .ok (.getfield 47, 3) := by decide +kernel
theorem dX10_move_110 : decode cX10_move 110 = .ok (.iload_n 3, 1) := by decide +kernel
theorem dX10_move_111 : decode cX10_move 111 = .ok (.iaload, 1) := by decide +kernel
theorem dX10_move_112 : decode cX10_move 112 = .ok (.i2l, 1) := by decide +kernel
theorem dX10_move_113 : decode cX10_move 113 = .ok (.lcmp, 1) := by decide +kernel
theorem dX10_move_114 : decode cX10_move 114 = .ok (.ifCond .le 10, 3) := by decide +kernel
theorem dX10_move_117 : decode cX10_move 117 = .ok (.aload_n 0, 1) := by decide +kernel
theorem dX10_move_118 : decode cX10_move 118 = .ok (.ldc 74, 2) := by decide +kernel
theorem dX10_move_120 : decode cX10_move 120 = .ok (.invokevirtual 75, 3) := by decide +kernel
theorem dX10_move_123 : decode cX10_move 123 = .ok (.ireturn, 1) := by decide +kernel
theorem dX10_move_124 : decode cX10_move 124 = .ok (.iconst 0, 1) := by decide +kernel
theorem dX10_move_125 : decode cX10_move 125 = .ok (.istore 6, 2) := by decide +kernel
theorem dX10_move_127 : decode cX10_move 127 = .ok (.iload 6, 2) := by decide +kernel
theorem dX10_move_129 : decode cX10_move 129 = .ok (.iload 5, 2) := by decide +kernel
theorem dX10_move_131 : decode cX10_move 131 = .ok (.if_icmp .ge 30, 3) := by decide +kernel
theorem dX10_move_134 : decode cX10_move 134 = .ok (.aload_n 0, 1) := by decide +kernel
theorem dX10_move_135 : decode cX10_move 135 = .ok (.getfield 53, 3) := by decide +kernel
theorem dX10_move_138 : decode cX10_move 138 = .ok (.iload 6, 2) := by decide +kernel
theorem dX10_move_140 : decode cX10_move 140 = .ok (.aload_n 0, 1) := by decide +kernel
theorem dX10_move_141 : decode cX10_move 141 = .ok (.getfield 50, 3) := by decide +kernel
theorem dX10_move_144 : decode cX10_move 144 = .ok (.bipush 40, 2) := by decide +kernel
theorem dX10_move_146 : decode cX10_move 146 = .ok (.iload_n 1, 1) := by decide +kernel
theorem dX10_move_147 : decode cX10_move 147 = .ok (.imul, 1) := by decide +kernel
theorem dX10_move_148 : decode cX10_move 148 = .ok (.iload_n 2, 1) := by decide +kernel
theorem dX10_move_149 : decode cX10_move 149 = .ok (.iadd, 1) := by decide +kernel
theorem dX10_move_150 : decode cX10_move 150 = .ok (.iload 6, 2) := by decide +kernel
theorem dX10_move_152 : decode cX10_move 152 = .ok (.iadd, 1) := by decide +kernel
theorem dX10_move_153 : decode cX10_move 153 = .ok (.iaload, 1) := by decide +kernel
theorem dX10_move_154 : decode cX10_move 154 = .ok (.iastore, 1) := by decide +kernel
theorem dX10_move_155 : decode cX10_move 155 = .ok (.iinc 6 1, 3) := by decide +kernel
theorem dX10_move_158 : decode cX10_move 158 = .ok (.goto (-31), 3) := by decide +kernel
theorem dX10_move_161 : decode cX10_move 161 = .ok (.iconst 0, 1) := by decide +kernel
theorem dX10_move_162 : decode cX10_move 162 = .ok (.istore 6, 2) := by decide +kernel
theorem dX10_move_164 : decode cX10_move 164 = .ok (.iload 6, 2) := by decide +kernel
theorem dX10_move_166 : decode cX10_move 166 = .ok (.iload 5, 2) := by decide +kernel
theorem dX10_move_168 : decode cX10_move 168 = .ok (.if_icmp .ge 31, 3) := by decide +kernel
theorem dX10_move_171 : decode cX10_move 171 = .ok (.aload_n 0, 1) := by decide +kernel
theorem dX10_move_172 : decode cX10_move 172 = .ok (.getfield 50, 3) := by decide +kernel
theorem dX10_move_175 : decode cX10_move 175 = .ok (.bipush 40, 2) := by decide +kernel
theorem dX10_move_177 : decode cX10_move 177 = .ok (.iload_n 3, 1) := by decide +kernel
theorem dX10_move_178 : decode cX10_move 178 = .ok (.imul, 1) := by decide +kernel
theorem dX10_move_179 : decode cX10_move 179 = .ok (.iload 4, 2) := by decide +kernel
theorem dX10_move_181 : decode cX10_move 181 = .ok (.iadd, 1) := by decide +kernel
theorem dX10_move_182 : decode cX10_move 182 = .ok (.iload 6, 2) := by decide +kernel
theorem dX10_move_184 : decode cX10_move 184 = .ok (.iadd, 1) := by decide +kernel
theorem dX10_move_185 : decode cX10_move 185 = .ok (.aload_n 0, 1) := by decide +kernel
theorem dX10_move_186 : decode cX10_move 186 = .ok (.getfield 53, 3) := by decide +kernel
theorem dX10_move_189 : decode cX10_move 189 = .ok (.iload 6, 2) := by decide +kernel
theorem dX10_move_191 : decode cX10_move 191 = .ok (.iaload, 1) := by decide +kernel
theorem dX10_move_192 : decode cX10_move 192 = .ok (.iastore, 1) := by decide +kernel
theorem dX10_move_193 : decode cX10_move 193 = .ok (.iinc 6 1, 3) := by decide +kernel
theorem dX10_move_196 : decode cX10_move 196 = .ok (.goto (-32), 3) := by decide +kernel
theorem dX10_move_199 : decode cX10_move 199 = .ok (.iload 5, 2) := by decide +kernel
theorem dX10_move_201 : decode cX10_move 201 = .ok (.ireturn, 1) := by decide +kernel
theorem dX10_hedges_0 : decode cX10_hedges 0 = .ok (.iload_n 1, 1) := by decide +kernel
theorem dX10_hedges_1 : decode cX10_hedges 1 = .ok (.invokestatic 279, 3) := by decide +kernel
theorem dX10_hedges_4 : decode cX10_hedges 4 = .ok (.ifCond .ne 10, 3) := by decide +kernel
theorem dX10_hedges_7 : decode cX10_hedges 7 = .ok (.aload_n 0, 1) := by decide +kernel
theorem dX10_hedges_8 : decode cX10_hedges 8 = .ok (.ldc 74, 2) := by decide +kernel
theorem dX10_hedges_10 : decode cX10_hedges 10 = .ok (.invokevirtual 75, 3) := by decide +kernel
theorem dX10_hedges_13 : decode cX10_hedges 13 = .ok (.ireturn, 1) := by decide +kernel
theorem dX10_hedges_14 : decode cX10_hedges 14 = .ok (.aload_n 0, 1) := by decide +kernel
theorem dX10_hedges_15 : decode cX10_hedges 15 = .ok (.getfield 44, 3) := by decide +kernel
theorem dX10_hedges_18 : decode cX10_hedges 18 = .ok (.iload_n 1, 1) := by decide +kernel
theorem dX10_hedges_19 : decode cX10_hedges 19 = .ok (.iaload, 1) := by decide +kernel
theorem dX10_hedges_20 : decode cX10_hedges 20 = .ok (.ifCond .ne 10, 3) := by decide +kernel
theorem dX10_hedges_23 : decode cX10_hedges 23 = .ok (.aload_n 0, 1) := by decide +kernel
theorem dX10_hedges_24 : decode cX10_hedges 24 = .ok (.ldc 225, 2) := by decide +kernel
theorem dX10_hedges_26 : decode cX10_hedges 26 = .ok (.invokevirtual 75, 3) := by decide +kernel
theorem dX10_hedges_29 : decode cX10_hedges 29 = .ok (.ireturn, 1) := by decide +kernel
theorem dX10_hedges_30 : decode cX10_hedges 30 = .ok (.iconst 0, 1) := by decide +kernel
theorem dX10_hedges_31 : decode cX10_hedges 31 = .ok (.istore_n 2, 1) := by decide +kernel
theorem dX10_hedges_32 : decode cX10_hedges 32 = .ok (.iload_n 2, 1) := by decide +kernel
theorem dX10_hedges_33 : decode cX10_hedges 33 = .ok (.aload_n 0, 1) := by decide +kernel
theorem dX10_hedges_34 : decode cX10_hedges 34 = .ok (.getfield 47, 3) := by decide +kernel
theorem dX10_hedges_37 : decode cX10_hedges 37 = .ok (.iload_n 1, 1) := by decide +kernel
theorem dX10_hedges_38 : decode cX10_hedges 38 = .ok (.iaload, 1) := by decide +kernel
theorem dX10_hedges_39 : decode cX10_hedges 39 = .ok (.if_icmp .ge 55, 3) := by decide +kernel
theorem dX10_hedges_42 : decode cX10_hedges 42 = .ok (.aload_n 0, 1) := by decide +kernel
theorem dX10_hedges_43 : decode cX10_hedges 43 = .ok (.iload_n 2, 1) := by decide +kernel
theorem dX10_hedges_44 : decode cX10_hedges 44 = .ok (.invokevirtual 171, 3) := by decide +kernel
theorem dX10_hedges_47 : decode cX10_hedges 47 = .ok (.ifCond .eq 47, 3) := by decide +kernel
theorem dX10_hedges_50 : decode cX10_hedges 50 = .ok (.aload_n 0, 1) := by decide +kernel
theorem dX10_hedges_51 : decode cX10_hedges 51 = .ok (.getfield 50, 3) := by decide +kernel
theorem dX10_hedges_54 : decode cX10_hedges 54 = .ok (.bipush 40, 2) := by decide +kernel
theorem dX10_hedges_56 : decode cX10_hedges 56 = .ok (.iload_n 1, 1) := by decide +kernel
theorem dX10_hedges_57 : decode cX10_hedges 57 = .ok (.imul, 1) := by decide +kernel
theorem dX10_hedges_58 : decode cX10_hedges 58 = .ok (.iload_n 2, 1) := by decide +kernel
theorem dX10_hedges_59 : decode cX10_hedges 59 = .ok (.iadd, 1) := by decide +kernel
theorem dX10_hedges_60 : decode cX10_hedges 60 = .ok (.iaload, 1) := by decide +kernel
theorem dX10_hedges_61 : decode cX10_hedges 61 = .ok (.invokestatic 216, 3) := by decide +kernel
theorem dX10_hedges_64 : decode cX10_hedges 64 = .ok (.ifCond .eq 30, 3) := by decide +kernel
theorem dX10_hedges_67 : decode cX10_hedges 67 = .ok (.aload_n 0, 1) := by decide +kernel
theorem dX10_hedges_68 : decode cX10_hedges 68 = .ok (.getfield 9, 3) := by decide +kernel
theorem dX10_hedges_71 : decode cX10_hedges 71 = .ok (.iload_n 2, 1) := by decide +kernel
theorem dX10_hedges_72 : decode cX10_hedges 72 = .ok (.iconst 2, 1) := by decide +kernel
theorem dX10_hedges_73 : decode cX10_hedges 73 = .ok (.invokestatic 156, 3) := by decide +kernel
theorem dX10_hedges_76 : decode cX10_hedges 76 = .ok (.aload_n 0, 1) := by decide +kernel
theorem dX10_hedges_77 : decode cX10_hedges 77 = .ok (.getfield 50, 3) := by decide +kernel
theorem dX10_hedges_80 : decode cX10_hedges 80 = .ok (.bipush 40, 2) := by decide +kernel
theorem dX10_hedges_82 : decode cX10_hedges 82 = .ok (.iload_n 1, 1) := by decide +kernel
theorem dX10_hedges_83 : decode cX10_hedges 83 = .ok (.imul, 1) := by decide +kernel
theorem dX10_hedges_84 : decode cX10_hedges 84 = .ok (.iload_n 2, 1) := by decide +kernel
theorem dX10_hedges_85 : decode cX10_hedges 85 = .ok (.iadd, 1) := by decide +kernel
theorem dX10_hedges_86 : decode cX10_hedges 86 = .ok (.iaload, 1) := by decide +kernel
theorem dX10_hedges_87 : decode cX10_hedges 87 = .ok (.iastore, 1) := by decide +kernel
theorem dX10_hedges_88 : decode cX10_hedges 88 = .ok (.iinc 2 1, 3) := by decide +kernel
theorem dX10_hedges_91 : decode cX10_hedges 91 = .ok (.goto (-59), 3) := by decide +kernel
theorem dX10_hedges_94 : decode cX10_hedges 94 = .ok (.iload_n 2, 1) := by decide +kernel
theorem dX10_hedges_95 : decode cX10_hedges 95 = .ok (.ireturn, 1) := by decide +kernel
theorem dX10_judge_0 : decode cX10_judge 0 = .ok (.iload_n 1, 1) := by decide +kernel
theorem dX10_judge_1 : decode cX10_judge 1 = .ok (.invokestatic 279, 3) := by decide +kernel
theorem dX10_judge_4 : decode cX10_judge 4 = .ok (.ifCond .ne 10, 3) := by decide +kernel
theorem dX10_judge_7 : decode cX10_judge 7 = .ok (.aload_n 0, 1) := by decide +kernel
theorem dX10_judge_8 : decode cX10_judge 8 = .ok (.ldc 74, 2) := by decide +kernel
theorem dX10_judge_10 : decode cX10_judge 10 = .ok (.invokevirtual 75, 3) := by decide +kernel
theorem dX10_judge_13 : decode cX10_judge 13 = .ok (.ireturn, 1) := by decide +kernel
theorem dX10_judge_14 : decode cX10_judge 14 = .ok (.aload_n 0, 1) := by decide +kernel
theorem dX10_judge_15 : decode cX10_judge 15 = .ok (.getfield 44, 3) := by decide +kernel
theorem dX10_judge_18 : decode cX10_judge 18 = .ok (.iload_n 1, 1) := by decide +kernel
theorem dX10_judge_19 : decode cX10_judge 19 = .ok (.iaload, 1) := by decide +kernel
theorem dX10_judge_20 : decode cX10_judge 20 = .ok (.ifCond .ne 10, 3) := by decide +kernel
theorem dX10_judge_23 : decode cX10_judge 23 = .ok (.aload_n 0, 1) := by decide +kernel
theorem dX10_judge_24 : decode cX10_judge 24 = .ok (.ldc 225, 2) := by decide +kernel
theorem dX10_judge_26 : decode cX10_judge 26 = .ok (.invokevirtual 75, 3) := by decide +kernel
theorem dX10_judge_29 : decode cX10_judge 29 = .ok (.ireturn, 1) := by decide +kernel
theorem dX10_judge_30 : decode cX10_judge 30 = .ok (.iconst 0, 1) := by decide +kernel
theorem dX10_judge_31 : decode cX10_judge 31 = .ok (.istore_n 2, 1) := by decide +kernel
theorem dX10_judge_32 : decode cX10_judge 32 = .ok (.iload_n 2, 1) := by decide +kernel
theorem dX10_judge_33 : decode cX10_judge 33 = .ok (.aload_n 0, 1) := by decide +kernel
theorem dX10_judge_34 : decode cX10_judge 34 = .ok (.getfield 47, 3) := by decide +kernel
theorem dX10_judge_37 : decode cX10_judge 37 = .ok (.iload_n 1, 1) := by decide +kernel
theorem dX10_judge_38 : decode cX10_judge 38 = .ok (.iaload, 1) := by decide +kernel
theorem dX10_judge_39 : decode cX10_judge 39 = .ok (.if_icmp .ge 37, 3) := by decide +kernel
theorem dX10_judge_42 : decode cX10_judge 42 = .ok (.aload_n 0, 1) := by decide +kernel
theorem dX10_judge_43 : decode cX10_judge 43 = .ok (.iload_n 2, 1) := by decide +kernel
theorem dX10_judge_44 : decode cX10_judge 44 = .ok (.invokevirtual 241, 3) := by decide +kernel
theorem dX10_judge_47 : decode cX10_judge 47 = .ok (.ifCond .eq 29, 3) := by decide +kernel
theorem dX10_judge_50 : decode cX10_judge 50 = .ok (.aload_n 0, 1) := by decide +kernel
theorem dX10_judge_51 : decode cX10_judge 51 = .ok (.getfield 50, 3) := by decide +kernel
theorem dX10_judge_54 : decode cX10_judge 54 = .ok (.bipush 40, 2) := by decide +kernel
theorem dX10_judge_56 : decode cX10_judge 56 = .ok (.iload_n 1, 1) := by decide +kernel
theorem dX10_judge_57 : decode cX10_judge 57 = .ok (.imul, 1) := by decide +kernel
theorem dX10_judge_58 : decode cX10_judge 58 = .ok (.iload_n 2, 1) := by decide +kernel
theorem dX10_judge_59 : decode cX10_judge 59 = .ok (.iadd, 1) := by decide +kernel
theorem dX10_judge_60 : decode cX10_judge 60 = .ok (.iaload, 1) := by decide +kernel
theorem dX10_judge_61 : decode cX10_judge 61 = .ok (.aload_n 0, 1) := by decide +kernel
theorem dX10_judge_62 : decode cX10_judge 62 = .ok (.iload_n 2, 1) := by decide +kernel
theorem dX10_judge_63 : decode cX10_judge 63 = .ok (.iconst 3, 1) := by decide +kernel
theorem dX10_judge_64 : decode cX10_judge 64 = .ok (.invokevirtual 194, 3) := by decide +kernel
theorem dX10_judge_67 : decode cX10_judge 67 = .ok (.if_icmp .ne 9, 3) := by decide +kernel
theorem dX10_judge_70 : decode cX10_judge 70 = .ok (.iinc 2 1, 3) := by decide +kernel
theorem dX10_judge_73 : decode cX10_judge 73 = .ok (.goto (-41), 3) := by decide +kernel
theorem dX10_judge_76 : decode cX10_judge 76 = .ok (.iload_n 2, 1) := by decide +kernel
theorem dX10_judge_77 : decode cX10_judge 77 = .ok (.aload_n 0, 1) := by decide +kernel
theorem dX10_judge_78 : decode cX10_judge 78 = .ok (.getfield 47, 3) := by decide +kernel
theorem dX10_judge_81 : decode cX10_judge 81 = .ok (.iload_n 1, 1) := by decide +kernel
theorem dX10_judge_82 : decode cX10_judge 82 = .ok (.iaload, 1) := by decide +kernel
theorem dX10_judge_83 : decode cX10_judge 83 = .ok (.if_icmp .ne 17, 3) := by decide +kernel
theorem dX10_judge_86 : decode cX10_judge 86 = .ok (.iload_n 2, 1) := by decide +kernel
theorem dX10_judge_87 : decode cX10_judge 87 = .ok (.aload_n 0, 1) := by decide +kernel
theorem dX10_judge_88 : decode cX10_judge 88 = .ok (.getfield 9, 3) := by decide +kernel
theorem dX10_judge_91 : decode cX10_judge 91 = .ok (.iconst 3, 1) := by decide +kernel
theorem dX10_judge_92 : decode cX10_judge 92 = .ok (.iaload, 1) := by decide +kernel
theorem dX10_judge_93 : decode cX10_judge 93 = .ok (.if_icmp .ne 7, 3) := by decide +kernel
theorem dX10_judge_96 : decode cX10_judge 96 = .ok (.iconst (-1), 1) := by decide +kernel
theorem dX10_judge_97 : decode cX10_judge 97 = .ok (.goto 4, 3) := by decide +kernel
theorem dX10_judge_100 : decode cX10_judge 100 = .ok (.iload_n 2, 1) := by decide +kernel
theorem dX10_judge_101 : decode cX10_judge 101 = .ok (.ireturn, 1) := by decide +kernel
theorem dX10_image_0 : decode cX10_image 0 = .ok (.aload_n 0, 1) := by decide +kernel
theorem dX10_image_1 : decode cX10_image 1 = .ok (.getfield 9, 3) := by decide +kernel
theorem dX10_image_4 : decode cX10_image 4 = .ok (.aload_n 0, 1) := by decide +kernel
theorem dX10_image_5 : decode cX10_image 5 = .ok (.getfield 13, 3) := by decide +kernel
theorem dX10_image_8 : decode cX10_image 8 = .ok (.invokestatic 66, 3) := by decide +kernel
theorem dX10_image_11 : decode cX10_image 11 = .ok (.aload_n 0, 1) := by decide +kernel
theorem dX10_image_12 : decode cX10_image 12 = .ok (.dup, 1) := by decide +kernel
theorem dX10_image_13 : decode cX10_image 13 = .ok (.getfield 321, 3) := by decide +kernel
theorem dX10_image_16 : decode cX10_image 16 = .ok (.iconst 1, 1) := by decide +kernel
theorem dX10_image_17 : decode cX10_image 17 = .ok (.iadd, 1) := by decide +kernel
theorem dX10_image_18 : decode cX10_image 18 = .ok (.putfield 321, 3) := by decide +kernel
theorem dX10_image_21 : decode cX10_image 21 = .ok (.aload_n 0, 1) := by decide +kernel
theorem dX10_image_22 : decode cX10_image 22 = .ok (.getfield 321, 3) := by decide +kernel
theorem dX10_image_25 : decode cX10_image 25 = .ok (.ireturn, 1) := by decide +kernel
theorem dX10_restore_0 : decode cX10_restore 0 = .ok (.aload_n 0, 1) := by decide +kernel
theorem dX10_restore_1 : decode cX10_restore 1 = .ok (.getfield 321, 3) := by decide +kernel
theorem dX10_restore_4 : decode cX10_restore 4 = .ok (.ifCond .ne 10, 3) := by decide +kernel
theorem dX10_restore_7 : decode cX10_restore 7 = .ok (.aload_n 0, 1) := by decide +kernel
theorem dX10_restore_8 : decode cX10_restore 8 = .ok (.ldc 225, 2) := by decide +kernel
theorem dX10_restore_10 : decode cX10_restore 10 = .ok (.invokevirtual 75, 3) := by decide +kernel
theorem dX10_restore_13 : decode cX10_restore 13 = .ok (.ireturn, 1) := by decide +kernel
theorem dX10_restore_14 : decode cX10_restore 14 = .ok (.aload_n 0, 1) := by decide +kernel
theorem dX10_restore_15 : decode cX10_restore 15 = .ok (.getfield 13, 3) := by decide +kernel
theorem dX10_restore_18 : decode cX10_restore 18 = .ok (.aload_n 0, 1) := by decide +kernel
theorem dX10_restore_19 : decode cX10_restore 19 = .ok (.getfield 9, 3) := by decide +kernel
theorem dX10_restore_22 : decode cX10_restore 22 = .ok (.invokestatic 66, 3) := by decide +kernel
theorem dX10_restore_25 : decode cX10_restore 25 = .ok (.aload_n 0, 1) := by decide +kernel
theorem dX10_restore_26 : decode cX10_restore 26 = .ok (.getfield 9, 3) := by decide +kernel
theorem dX10_restore_29 : decode cX10_restore 29 = .ok (.iconst 0, 1) := by decide +kernel
theorem dX10_restore_30 : decode cX10_restore 30 = .ok (.iaload, 1) := by decide +kernel
theorem dX10_restore_31 : decode cX10_restore 31 = .ok (.ireturn, 1) := by decide +kernel
theorem dX10_tell_0 : decode cX10_tell 0 = .ok (.aload_n 0, 1) := by decide +kernel
theorem dX10_tell_1 : decode cX10_tell 1 = .ok (.getfield 9, 3) := by decide +kernel
theorem dX10_tell_4 : decode cX10_tell 4 = .ok (.bipush 6, 2) := by decide +kernel
theorem dX10_tell_6 : decode cX10_tell 6 = .ok (.iaload, 1) := by decide +kernel
theorem dX10_tell_7 : decode cX10_tell 7 = .ok (.bipush 20, 2) := by decide +kernel
theorem dX10_tell_9 : decode cX10_tell 9 = .ok (.if_icmp .ne 10, 3) := by decide +kernel
theorem dX10_tell_12 : decode cX10_tell 12 = .ok (.aload_n 0, 1) := by decide +kernel
theorem dX10_tell_13 : decode cX10_tell 13 = .ok (.ldc 79, 2) := by decide +kernel
theorem dX10_tell_15 : decode cX10_tell 15 = .ok (.invokevirtual 75, 3) := by decide +kernel
theorem dX10_tell_18 : decode cX10_tell 18 = .ok (.ireturn, 1) := by decide +kernel
theorem dX10_tell_19 : decode cX10_tell 19 = .ok (.aload_n 0, 1) := by decide +kernel
theorem dX10_tell_20 : decode cX10_tell 20 = .ok (.getfield 9, 3) := by decide +kernel
theorem dX10_tell_23 : decode cX10_tell 23 = .ok (.sipush 155, 3) := by decide +kernel
theorem dX10_tell_26 : decode cX10_tell 26 = .ok (.aload_n 0, 1) := by decide +kernel
theorem dX10_tell_27 : decode cX10_tell 27 = .ok (.getfield 9, 3) := by decide +kernel
theorem dX10_tell_30 : decode cX10_tell 30 = .ok (.bipush 6, 2) := by decide +kernel
theorem dX10_tell_32 : decode cX10_tell 32 = .ok (.iaload, 1) := by decide +kernel
theorem dX10_tell_33 : decode cX10_tell 33 = .ok (.iadd, 1) := by decide +kernel
theorem dX10_tell_34 : decode cX10_tell 34 = .ok (.iload_n 1, 1) := by decide +kernel
theorem dX10_tell_35 : decode cX10_tell 35 = .ok (.iastore, 1) := by decide +kernel
theorem dX10_tell_36 : decode cX10_tell 36 = .ok (.aload_n 0, 1) := by decide +kernel
theorem dX10_tell_37 : decode cX10_tell 37 = .ok (.getfield 9, 3) := by decide +kernel
theorem dX10_tell_40 : decode cX10_tell 40 = .ok (.bipush 6, 2) := by decide +kernel
theorem dX10_tell_42 : decode cX10_tell 42 = .ok (.dup2, 1) := by decide +kernel
theorem dX10_tell_43 : decode cX10_tell 43 = .ok (.iaload, 1) := by decide +kernel
theorem dX10_tell_44 : decode cX10_tell 44 = .ok (.iconst 1, 1) := by decide +kernel
theorem dX10_tell_45 : decode cX10_tell 45 = .ok (.iadd, 1) := by decide +kernel
theorem dX10_tell_46 : decode cX10_tell 46 = .ok (.iastore, 1) := by decide +kernel
theorem dX10_tell_47 : decode cX10_tell 47 = .ok (.aload_n 0, 1) := by decide +kernel
theorem dX10_tell_48 : decode cX10_tell 48 = .ok (.getfield 9, 3) := by decide +kernel
theorem dX10_tell_51 : decode cX10_tell 51 = .ok (.bipush 6, 2) := by decide +kernel
theorem dX10_tell_53 : decode cX10_tell 53 = .ok (.iaload, 1) := by decide +kernel
theorem dX10_tell_54 : decode cX10_tell 54 = .ok (.ireturn, 1) := by decide +kernel
theorem dX10_check_0 : decode cX10_check 0 = .ok (.aload_n 0, 1) := by decide +kernel
theorem dX10_check_1 : decode cX10_check 1 = .ok (.getfield 9, 3) := by decide +kernel
theorem dX10_check_4 : decode cX10_check 4 = .ok (.bipush 6, 2) := by decide +kernel
theorem dX10_check_6 : decode cX10_check 6 = .ok (.iaload, 1) := by decide +kernel
theorem dX10_check_7 : decode cX10_check 7 = .ok (.istore_n 1, 1) := by decide +kernel
theorem dX10_check_8 : decode cX10_check 8 = .ok (.aload_n 0, 1) := by decide +kernel
theorem dX10_check_9 : decode cX10_check 9 = .ok (.getfield 9, 3) := by decide +kernel
theorem dX10_check_12 : decode cX10_check 12 = .ok (.bipush 6, 2) := by decide +kernel
theorem dX10_check_14 : decode cX10_check 14 = .ok (.iconst 0, 1) := by decide +kernel
theorem dX10_check_15 : decode cX10_check 15 = .ok (.iastore, 1) := by decide +kernel
theorem dX10_check_16 : decode cX10_check 16 = .ok (.aload_n 0, 1) := by decide +kernel
theorem dX10_check_17 : decode cX10_check 17 = .ok (.getfield 9, 3) := by decide +kernel
theorem dX10_check_20 : decode cX10_check 20 = .ok (.aload_n 0, 1) := by decide +kernel
theorem dX10_check_21 : decode cX10_check 21 = .ok (.getfield 16, 3) := by decide +kernel
theorem dX10_check_24 : decode cX10_check 24 = .ok (.invokestatic 66, 3) := by decide +kernel
theorem dX10_check_27 : decode cX10_check 27 = .ok (.iconst 0, 1) := by decide +kernel
theorem dX10_check_28 : decode cX10_check 28 = .ok (.istore_n 2, 1) := by decide +kernel
theorem dX10_check_29 : decode cX10_check 29 = .ok (.iconst 0, 1) := by decide +kernel
theorem dX10_check_30 : decode cX10_check 30 = .ok (.istore_n 3, 1) := by decide +kernel
theorem dX10_check_31 : decode cX10_check 31 = .ok (.iload_n 3, 1) := by decide +kernel
theorem dX10_check_32 : decode cX10_check 32 = .ok (.iload_n 1, 1) := by decide +kernel
theorem dX10_check_33 : decode cX10_check 33 = .ok (.if_icmp .ge 44, 3) := by decide +kernel
theorem dX10_check_36 : decode cX10_check 36 = .ok (.iload_n 2, 1) := by decide +kernel
theorem dX10_check_37 : decode cX10_check 37 = .ok (.ifCond .ne 40, 3) := by decide +kernel
theorem dX10_check_40 : decode cX10_check 40 = .ok (.aload_n 0, 1) := by decide +kernel
theorem dX10_check_41 : decode cX10_check 41 = .ok (.invokevirtual 256, 3) := by decide +kernel
theorem dX10_check_44 : decode cX10_check 44 = .ok (.aload_n 0, 1) := by decide +kernel
theorem dX10_check_45 : decode cX10_check 45 = .ok (.getfield 9, 3) := by decide +kernel
theorem dX10_check_48 : decode cX10_check 48 = .ok (.sipush 155, 3) := by decide +kernel
theorem dX10_check_51 : decode cX10_check 51 = .ok (.iload_n 3, 1) := by decide +kernel
theorem dX10_check_52 : decode cX10_check 52 = .ok (.iadd, 1) := by decide +kernel
theorem dX10_check_53 : decode cX10_check 53 = .ok (.iaload, 1) := by decide +kernel
theorem dX10_check_54 : decode cX10_check 54 = .ok (.aload_n 0, 1) := by decide +kernel
theorem dX10_check_55 : decode cX10_check 55 = .ok (.getfield 9, 3) := by decide +kernel
theorem dX10_check_58 : decode cX10_check 58 = .ok (.iconst 3, 1) := by decide +kernel
theorem dX10_check_59 : decode cX10_check 59 = .ok (.iaload, 1) := by decide +kernel
theorem dX10_check_60 : decode cX10_check 60 = .ok (.if_icmp .ne 7, 3) := by decide +kernel
theorem dX10_check_63 : decode cX10_check 63 = .ok (.iconst 0, 1) := by decide +kernel
theorem dX10_check_64 : decode cX10_check 64 = .ok (.goto 6, 3) := by decide +kernel
theorem dX10_check_67 : decode cX10_check 67 = .ok (.iconst 1, 1) := by decide +kernel
theorem dX10_check_68 : decode cX10_check 68 = .ok (.iload_n 3, 1) := by decide +kernel
theorem dX10_check_69 : decode cX10_check 69 = .ok (.iadd, 1) := by decide +kernel
theorem dX10_check_70 : decode cX10_check 70 = .ok (.istore_n 2, 1) := by decide +kernel
theorem dX10_check_71 : decode cX10_check 71 = .ok (.iinc 3 1, 3) := by decide +kernel
theorem dX10_check_74 : decode cX10_check 74 = .ok (.goto (-43), 3) := by decide +kernel
theorem dX10_check_77 : decode cX10_check 77 = .ok (.aload_n 0, 1) := by decide +kernel
theorem dX10_check_78 : decode cX10_check 78 = .ok (.iload_n 2, 1) := by decide +kernel
theorem dX10_check_79 : decode cX10_check 79 = .ok (.invokevirtual 266, 3) := by decide +kernel
theorem dX10_check_82 : decode cX10_check 82 = .ok (.ireturn, 1) := by decide +kernel
theorem dX10_potsAll_0 : decode cX10_potsAll 0 = .ok (.iconst 0, 1) := by decide +kernel
theorem dX10_potsAll_1 : decode cX10_potsAll 1 = .ok (.istore_n 1, 1) := by decide +kernel
theorem dX10_potsAll_2 : decode cX10_potsAll 2 = .ok (.iconst 0, 1) := by decide +kernel
theorem dX10_potsAll_3 : decode cX10_potsAll 3 = .ok (.istore_n 2, 1) := by decide +kernel
theorem dX10_potsAll_4 : decode cX10_potsAll 4 = .ok (.iload_n 2, 1) := by decide +kernel
theorem dX10_potsAll_5 : decode cX10_potsAll 5 = .ok (.aload_n 0, 1) := by decide +kernel
theorem dX10_potsAll_6 : decode cX10_potsAll 6 = .ok (.getfield 9, 3) := by decide +kernel
theorem dX10_potsAll_9 : decode cX10_potsAll 9 = .ok (.iconst 2, 1) := by decide +kernel
theorem dX10_potsAll_10 : decode cX10_potsAll 10 = .ok (.iaload, 1) := by decide +kernel
theorem dX10_potsAll_11 : decode cX10_potsAll 11 = .ok (.if_icmp .ge 22, 3) := by decide +kernel
theorem dX10_potsAll_14 : decode cX10_potsAll 14 = .ok (.iload_n 1, 1) := by decide +kernel
theorem dX10_potsAll_15 : decode cX10_potsAll 15 = .ok (.aload_n 0, 1) := by decide +kernel
theorem dX10_potsAll_16 : decode cX10_potsAll 16 = .ok (.getfield 9, 3) := by decide +kernel
theorem dX10_potsAll_19 : decode cX10_potsAll 19 = .ok (.iload_n 2, 1) := by decide +kernel
theorem dX10_potsAll_20 : decode cX10_potsAll 20 = .ok (.iconst 0, 1) := by decide +kernel
theorem dX10_potsAll_21 : decode cX10_potsAll 21 = .ok (.invokestatic 191, 3) := by decide +kernel
theorem dX10_potsAll_24 : decode cX10_potsAll 24 = .ok (.iaload, 1) := by decide +kernel
theorem dX10_potsAll_25 : decode cX10_potsAll 25 = .ok (.iadd, 1) := by decide +kernel
theorem dX10_potsAll_26 : decode cX10_potsAll 26 = .ok (.istore_n 1, 1) := by decide +kernel
theorem dX10_potsAll_27 : decode cX10_potsAll 27 = .ok (.iinc 2 1, 3) := by decide +kernel
theorem dX10_potsAll_30 : decode cX10_potsAll 30 = .ok (.goto (-26), 3) := by decide +kernel
theorem dX10_potsAll_33 : decode cX10_potsAll 33 = .ok (.iload_n 1, 1) := by decide +kernel
theorem dX10_potsAll_34 : decode cX10_potsAll 34 = .ok (.ireturn, 1) := by decide +kernel
theorem dX10_count_0 : decode cX10_count 0 = .ok (.iload_n 1, 1) := by decide +kernel
theorem dX10_count_1 : decode cX10_count 1 = .ok (.tableswitch 120 0 9 #[55, 62, 69, 76, 83, 88, 93, 100, 108, 113], 55) := by decide +kernel
theorem dX10_count_56 : decode cX10_count 56 = .ok (.aload_n 0, 1) := by decide +kernel
theorem dX10_count_57 : decode cX10_count 57 = .ok (.getfield 9, 3) := by decide +kernel
theorem dX10_count_60 : decode cX10_count 60 = .ok (.iconst 1, 1) := by decide +kernel
theorem dX10_count_61 : decode cX10_count 61 = .ok (.iaload, 1) := by decide +kernel
theorem dX10_count_62 : decode cX10_count 62 = .ok (.ireturn, 1) := by decide +kernel
theorem dX10_count_63 : decode cX10_count 63 = .ok (.aload_n 0, 1) := by decide +kernel
theorem dX10_count_64 : decode cX10_count 64 = .ok (.getfield 9, 3) := by decide +kernel
theorem dX10_count_67 : decode cX10_count 67 = .ok (.iconst 2, 1) := by decide +kernel
theorem dX10_count_68 : decode cX10_count 68 = .ok (.iaload, 1) := by decide +kernel
theorem dX10_count_69 : decode cX10_count 69 = .ok (.ireturn, 1) := by decide +kernel
theorem dX10_count_70 : decode cX10_count 70 = .ok (.aload_n 0, 1) := by decide +kernel
theorem dX10_count_71 : decode cX10_count 71 = .ok (.getfield 9, 3) := by decide +kernel
theorem dX10_count_74 : decode cX10_count 74 = .ok (.iconst 3, 1) := by decide +kernel
theorem dX10_count_75 : decode cX10_count 75 = .ok (.iaload, 1) := by decide +kernel
theorem dX10_count_76 : decode cX10_count 76 = .ok (.ireturn, 1) := by decide +kernel
theorem dX10_count_77 : decode cX10_count 77 = .ok (.aload_n 0, 1) := by decide +kernel
theorem dX10_count_78 : decode cX10_count 78 = .ok (.getfield 9, 3) := by decide +kernel
theorem dX10_count_81 : decode cX10_count 81 = .ok (.iconst 0, 1) := by decide +kernel
theorem dX10_count_82 : decode cX10_count 82 = .ok (.iaload, 1) := by decide +kernel
theorem dX10_count_83 : decode cX10_count 83 = .ok (.ireturn, 1) := by decide +kernel
theorem dX10_count_84 : decode cX10_count 84 = .ok (.aload_n 0, 1) := by decide +kernel
theorem dX10_count_85 : decode cX10_count 85 = .ok (.invokevirtual 324, 3) := by decide +kernel
theorem dX10_count_88 : decode cX10_count 88 = .ok (.ireturn, 1) := by decide +kernel
theorem dX10_count_89 : decode cX10_count 89 = .ok (.aload_n 0, 1) := by decide +kernel
theorem dX10_count_90 : decode cX10_count 90 = .ok (.invokevirtual 285, 3) := by decide +kernel
theorem dX10_count_93 : decode cX10_count 93 = .ok (.ireturn, 1) := by decide +kernel
theorem dX10_count_94 : decode cX10_count 94 = .ok (.aload_n 0, 1) := by decide +kernel
theorem dX10_count_95 : decode cX10_count 95 = .ok (.getfield 9, 3) := by decide +kernel
theorem dX10_count_98 : decode cX10_count 98 = .ok (.iconst 5, 1) := by decide +kernel
theorem dX10_count_99 : decode cX10_count 99 = .ok (.iaload, 1) := by decide +kernel
theorem dX10_count_100 : decode cX10_count 100 = .ok (.ireturn, 1) := by decide +kernel
theorem dX10_count_101 : decode cX10_count 101 = .ok (.aload_n 0, 1) := by decide +kernel
theorem dX10_count_102 : decode cX10_count 102 = .ok (.getfield 9, 3) := by decide +kernel
theorem dX10_count_105 : decode cX10_count 105 = .ok (.bipush 6, 2) := by decide +kernel
theorem dX10_count_107 : decode cX10_count 107 = .ok (.iaload, 1) := by decide +kernel
theorem dX10_count_108 : decode cX10_count 108 = .ok (.ireturn, 1) := by decide +kernel
theorem dX10_count_109 : decode cX10_count 109 = .ok (.aload_n 0, 1) := by decide +kernel
theorem dX10_count_110 : decode cX10_count 110 = .ok (.getfield 291, 3) := by decide +kernel
theorem dX10_count_113 : decode cX10_count 113 = .ok (.ireturn, 1) := by decide +kernel
theorem dX10_count_114 : decode cX10_count 114 = .ok (.aload_n 0, 1) := by decide +kernel
theorem dX10_count_115 : decode cX10_count 115 = .ok (.getfield 9, 3) := by decide +kernel
theorem dX10_count_118 : decode cX10_count 118 = .ok (.iconst 4, 1) := by decide +kernel
theorem dX10_count_119 : decode cX10_count 119 = .ok (.iaload, 1) := by decide +kernel
theorem dX10_count_120 : decode cX10_count 120 = .ok (.ireturn, 1) := by decide +kernel
theorem dX10_count_121 : decode cX10_count 121 = .ok (.aload_n 0, 1) := by decide +kernel
theorem dX10_count_122 : decode cX10_count 122 = .ok (.ldc 74, 2) := by decide +kernel
theorem dX10_count_124 : decode cX10_count 124 = .ok (.invokevirtual 75, 3) := by decide +kernel
theorem dX10_count_127 : decode cX10_count 127 = .ok (.ireturn, 1) := by decide +kernel
theorem dX10_told_0 : decode cX10_told 0 = .ok (.iload_n 1, 1) := by decide +kernel
theorem dX10_told_1 : decode cX10_told 1 = .ok (.iconst 1, 1) := by decide +kernel
theorem dX10_told_2 : decode cX10_told 2 = .ok (.iconst 5, 1) := by decide +kernel
theorem dX10_told_3 : decode cX10_told 3 = .ok (.invokestatic 70, 3) := by decide +kernel
theorem dX10_told_6 : decode cX10_told 6 = .ok (.ifCond .eq 12, 3) := by decide +kernel
theorem dX10_told_9 : decode cX10_told 9 = .ok (.aload_n 0, 1) := by decide +kernel
theorem dX10_told_10 : decode cX10_told 10 = .ok (.getfield 19, 3) := by decide +kernel
theorem dX10_told_13 : decode cX10_told 13 = .ok (.iload_n 1, 1) := by decide +kernel
theorem dX10_told_14 : decode cX10_told 14 = .ok (.iaload, 1) := by decide +kernel
theorem dX10_told_15 : decode cX10_told 15 = .ok (.goto 9, 3) := by decide +kernel
theorem dX10_told_18 : decode cX10_told 18 = .ok (.aload_n 0, 1) := by decide +kernel
theorem dX10_told_19 : decode cX10_told 19 = .ok (.ldc 74, 2) := by decide +kernel
theorem dX10_told_21 : decode cX10_told 21 = .ok (.invokevirtual 75, 3) := by decide +kernel
theorem dX10_told_24 : decode cX10_told 24 = .ok (.ireturn, 1) := by decide +kernel
theorem dJ6_bitCount_0f7a4_0 : decode cJ6_bitCount_0f7a4 0 = .ok (.iload_n 0, 1) := by decide +kernel
theorem dJ6_bitCount_0f7a4_1 : decode cJ6_bitCount_0f7a4 1 = .ok (.iload_n 0, 1) := by decide +kernel
theorem dJ6_bitCount_0f7a4_2 : decode cJ6_bitCount_0f7a4 2 = .ok (.iconst 1, 1) := by decide +kernel
theorem dJ6_bitCount_0f7a4_3 : decode cJ6_bitCount_0f7a4 3 = .ok (.iushr, 1) := by decide +kernel
theorem dJ6_bitCount_0f7a4_4 : decode cJ6_bitCount_0f7a4 4 = .ok (.ldc_w 265, 3) := by decide +kernel
theorem dJ6_bitCount_0f7a4_7 : decode cJ6_bitCount_0f7a4 7 = .ok (.iand, 1) := by decide +kernel
theorem dJ6_bitCount_0f7a4_8 : decode cJ6_bitCount_0f7a4 8 = .ok (.isub, 1) := by decide +kernel
theorem dJ6_bitCount_0f7a4_9 : decode cJ6_bitCount_0f7a4 9 = .ok (.istore_n 0, 1) := by decide +kernel
theorem dJ6_bitCount_0f7a4_10 : decode cJ6_bitCount_0f7a4 10 = .ok (.iload_n 0, 1) := by decide +kernel
theorem dJ6_bitCount_0f7a4_11 : decode cJ6_bitCount_0f7a4 11 = .ok (.ldc_w 266, 3) := by decide +kernel
theorem dJ6_bitCount_0f7a4_14 : decode cJ6_bitCount_0f7a4 14 = .ok (.iand, 1) := by decide +kernel
theorem dJ6_bitCount_0f7a4_15 : decode cJ6_bitCount_0f7a4 15 = .ok (.iload_n 0, 1) := by decide +kernel
theorem dJ6_bitCount_0f7a4_16 : decode cJ6_bitCount_0f7a4 16 = .ok (.iconst 2, 1) := by decide +kernel
theorem dJ6_bitCount_0f7a4_17 : decode cJ6_bitCount_0f7a4 17 = .ok (.iushr, 1) := by decide +kernel
theorem dJ6_bitCount_0f7a4_18 : decode cJ6_bitCount_0f7a4 18 = .ok (.ldc_w 266, 3) := by decide +kernel
theorem dJ6_bitCount_0f7a4_21 : decode cJ6_bitCount_0f7a4 21 = .ok (.iand, 1) := by decide +kernel
theorem dJ6_bitCount_0f7a4_22 : decode cJ6_bitCount_0f7a4 22 = .ok (.iadd, 1) := by decide +kernel
theorem dJ6_bitCount_0f7a4_23 : decode cJ6_bitCount_0f7a4 23 = .ok (.istore_n 0, 1) := by decide +kernel
theorem dJ6_bitCount_0f7a4_24 : decode cJ6_bitCount_0f7a4 24 = .ok (.iload_n 0, 1) := by decide +kernel
theorem dJ6_bitCount_0f7a4_25 : decode cJ6_bitCount_0f7a4 25 = .ok (.iload_n 0, 1) := by decide +kernel
theorem dJ6_bitCount_0f7a4_26 : decode cJ6_bitCount_0f7a4 26 = .ok (.iconst 4, 1) := by decide +kernel
theorem dJ6_bitCount_0f7a4_27 : decode cJ6_bitCount_0f7a4 27 = .ok (.iushr, 1) := by decide +kernel
theorem dJ6_bitCount_0f7a4_28 : decode cJ6_bitCount_0f7a4 28 = .ok (.iadd, 1) := by decide +kernel
theorem dJ6_bitCount_0f7a4_29 : decode cJ6_bitCount_0f7a4 29 = .ok (.ldc_w 267, 3) := by decide +kernel
theorem dJ6_bitCount_0f7a4_32 : decode cJ6_bitCount_0f7a4 32 = .ok (.iand, 1) := by decide +kernel
theorem dJ6_bitCount_0f7a4_33 : decode cJ6_bitCount_0f7a4 33 = .ok (.istore_n 0, 1) := by decide +kernel
theorem dJ6_bitCount_0f7a4_34 : decode cJ6_bitCount_0f7a4 34 = .ok (.iload_n 0, 1) := by decide +kernel
theorem dJ6_bitCount_0f7a4_35 : decode cJ6_bitCount_0f7a4 35 = .ok (.iload_n 0, 1) := by decide +kernel
theorem dJ6_bitCount_0f7a4_36 : decode cJ6_bitCount_0f7a4 36 = .ok (.bipush 8, 2) := by decide +kernel
theorem dJ6_bitCount_0f7a4_38 : decode cJ6_bitCount_0f7a4 38 = .ok (.iushr, 1) := by decide +kernel
theorem dJ6_bitCount_0f7a4_39 : decode cJ6_bitCount_0f7a4 39 = .ok (.iadd, 1) := by decide +kernel
theorem dJ6_bitCount_0f7a4_40 : decode cJ6_bitCount_0f7a4 40 = .ok (.istore_n 0, 1) := by decide +kernel
theorem dJ6_bitCount_0f7a4_41 : decode cJ6_bitCount_0f7a4 41 = .ok (.iload_n 0, 1) := by decide +kernel
theorem dJ6_bitCount_0f7a4_42 : decode cJ6_bitCount_0f7a4 42 = .ok (.iload_n 0, 1) := by decide +kernel
theorem dJ6_bitCount_0f7a4_43 : decode cJ6_bitCount_0f7a4 43 = .ok (.bipush 16, 2) := by decide +kernel
theorem dJ6_bitCount_0f7a4_45 : decode cJ6_bitCount_0f7a4 45 = .ok (.iushr, 1) := by decide +kernel
theorem dJ6_bitCount_0f7a4_46 : decode cJ6_bitCount_0f7a4 46 = .ok (.iadd, 1) := by decide +kernel
theorem dJ6_bitCount_0f7a4_47 : decode cJ6_bitCount_0f7a4 47 = .ok (.istore_n 0, 1) := by decide +kernel
theorem dJ6_bitCount_0f7a4_48 : decode cJ6_bitCount_0f7a4 48 = .ok (.iload_n 0, 1) := by decide +kernel
theorem dJ6_bitCount_0f7a4_49 : decode cJ6_bitCount_0f7a4 49 = .ok (.bipush 63, 2) := by decide +kernel
theorem dJ6_bitCount_0f7a4_51 : decode cJ6_bitCount_0f7a4 51 = .ok (.iand, 1) := by decide +kernel
theorem dJ6_bitCount_0f7a4_52 : decode cJ6_bitCount_0f7a4 52 = .ok (.ireturn, 1) := by decide +kernel
