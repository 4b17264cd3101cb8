theorem dX0_init_0 : decode cX0_init 0 = .ok (.aload_n 0, 1) := by decide +kernel
theorem dX0_init_1 : decode cX0_init 1 = .ok (.invokespecial 3, 3) := by decide +kernel
theorem dX0_init_4 : decode cX0_init 4 = .ok (.return_, 1) := by decide +kernel
theorem dX0_begin_0 : decode cX0_begin 0 = .ok (.aload_n 0, 1) := by decide +kernel
theorem dX0_begin_1 : decode cX0_begin 1 = .ok (.iload_n 1, 1) := by decide +kernel
theorem dX0_begin_2 : decode cX0_begin 2 = .ok (.bipush 10, 2) := by decide +kernel
theorem dX0_begin_4 : decode cX0_begin 4 = .ok (.idiv, 1) := by decide +kernel
theorem dX0_begin_5 : decode cX0_begin 5 = .ok (.putfield 9, 3) := by decide +kernel
theorem dX0_begin_8 : decode cX0_begin 8 = .ok (.aload_n 0, 1) := by decide +kernel
theorem dX0_begin_9 : decode cX0_begin 9 = .ok (.iload_n 1, 1) := by decide +kernel
theorem dX0_begin_10 : decode cX0_begin 10 = .ok (.bipush 10, 2) := by decide +kernel
theorem dX0_begin_12 : decode cX0_begin 12 = .ok (.irem, 1) := by decide +kernel
theorem dX0_begin_13 : decode cX0_begin 13 = .ok (.putfield 15, 3) := by decide +kernel
theorem dX0_begin_16 : decode cX0_begin 16 = .ok (.aload_n 0, 1) := by decide +kernel
theorem dX0_begin_17 : decode cX0_begin 17 = .ok (.iconst 0, 1) := by decide +kernel
theorem dX0_begin_18 : decode cX0_begin 18 = .ok (.putfield 18, 3) := by decide +kernel
theorem dX0_begin_21 : decode cX0_begin 21 = .ok (.aload_n 0, 1) := by decide +kernel
theorem dX0_begin_22 : decode cX0_begin 22 = .ok (.iconst 0, 1) := by decide +kernel
theorem dX0_begin_23 : decode cX0_begin 23 = .ok (.putfield 21, 3) := by decide +kernel
theorem dX0_begin_26 : decode cX0_begin 26 = .ok (.return_, 1) := by decide +kernel
theorem dX0_copy_0 : decode cX0_copy 0 = .ok (.aload_n 0, 1) := by decide +kernel
theorem dX0_copy_1 : decode cX0_copy 1 = .ok (.aload_n 1, 1) := by decide +kernel
theorem dX0_copy_2 : decode cX0_copy 2 = .ok (.getfield 9, 3) := by decide +kernel
theorem dX0_copy_5 : decode cX0_copy 5 = .ok (.putfield 9, 3) := by decide +kernel
theorem dX0_copy_8 : decode cX0_copy 8 = .ok (.aload_n 0, 1) := by decide +kernel
theorem dX0_copy_9 : decode cX0_copy 9 = .ok (.aload_n 1, 1) := by decide +kernel
theorem dX0_copy_10 : decode cX0_copy 10 = .ok (.getfield 15, 3) := by decide +kernel
theorem dX0_copy_13 : decode cX0_copy 13 = .ok (.putfield 15, 3) := by decide +kernel
theorem dX0_copy_16 : decode cX0_copy 16 = .ok (.aload_n 0, 1) := by decide +kernel
theorem dX0_copy_17 : decode cX0_copy 17 = .ok (.aload_n 1, 1) := by decide +kernel
theorem dX0_copy_18 : decode cX0_copy 18 = .ok (.getfield 18, 3) := by decide +kernel
theorem dX0_copy_21 : decode cX0_copy 21 = .ok (.putfield 18, 3) := by decide +kernel
theorem dX0_copy_24 : decode cX0_copy 24 = .ok (.aload_n 0, 1) := by decide +kernel
theorem dX0_copy_25 : decode cX0_copy 25 = .ok (.aload_n 1, 1) := by decide +kernel
theorem dX0_copy_26 : decode cX0_copy 26 = .ok (.getfield 21, 3) := by decide +kernel
theorem dX0_copy_29 : decode cX0_copy 29 = .ok (.putfield 21, 3) := by decide +kernel
theorem dX0_copy_32 : decode cX0_copy 32 = .ok (.return_, 1) := by decide +kernel
theorem dX0_isForbiddenAt_0 : decode cX0_isForbiddenAt 0 = .ok (.aload_n 0, 1) := by decide +kernel
theorem dX0_isForbiddenAt_1 : decode cX0_isForbiddenAt 1 = .ok (.getfield 9, 3) := by decide +kernel
theorem dX0_isForbiddenAt_4 : decode cX0_isForbiddenAt 4 = .ok (.iconst 4, 1) := by decide +kernel
theorem dX0_isForbiddenAt_5 : decode cX0_isForbiddenAt 5 = .ok (.if_icmp .ne 9, 3) := by decide +kernel
theorem dX0_isForbiddenAt_8 : decode cX0_isForbiddenAt 8 = .ok (.iload_n 1, 1) := by decide +kernel
theorem dX0_isForbiddenAt_9 : decode cX0_isForbiddenAt 9 = .ok (.bipush 8, 2) := by decide +kernel
theorem dX0_isForbiddenAt_11 : decode cX0_isForbiddenAt 11 = .ok (.if_icmp .ge 19, 3) := by decide +kernel
theorem dX0_isForbiddenAt_14 : decode cX0_isForbiddenAt 14 = .ok (.aload_n 0, 1) := by decide +kernel
theorem dX0_isForbiddenAt_15 : decode cX0_isForbiddenAt 15 = .ok (.getfield 9, 3) := by decide +kernel
theorem dX0_isForbiddenAt_18 : decode cX0_isForbiddenAt 18 = .ok (.bipush 6, 2) := by decide +kernel
theorem dX0_isForbiddenAt_20 : decode cX0_isForbiddenAt 20 = .ok (.if_icmp .ne 14, 3) := by decide +kernel
theorem dX0_isForbiddenAt_23 : decode cX0_isForbiddenAt 23 = .ok (.aload_n 0, 1) := by decide +kernel
theorem dX0_isForbiddenAt_24 : decode cX0_isForbiddenAt 24 = .ok (.getfield 15, 3) := by decide +kernel
theorem dX0_isForbiddenAt_27 : decode cX0_isForbiddenAt 27 = .ok (.ifCond .ne 7, 3) := by decide +kernel
theorem dX0_isForbiddenAt_30 : decode cX0_isForbiddenAt 30 = .ok (.iconst 1, 1) := by decide +kernel
theorem dX0_isForbiddenAt_31 : decode cX0_isForbiddenAt 31 = .ok (.goto 4, 3) := by decide +kernel
theorem dX0_isForbiddenAt_34 : decode cX0_isForbiddenAt 34 = .ok (.iconst 0, 1) := by decide +kernel
theorem dX0_isForbiddenAt_35 : decode cX0_isForbiddenAt 35 = .ok (.ireturn, 1) := by decide +kernel
theorem dX1_init_0 : decode cX1_init 0 = .ok (.aload_n 0, 1) := by decide +kernel
theorem dX1_init_1 : decode cX1_init 1 = .ok (.invokespecial 3, 3) := by decide +kernel
theorem dX1_init_4 : decode cX1_init 4 = .ok (.aload_n 0, 1) := by decide +kernel
theorem dX1_init_5 : decode cX1_init 5 = .ok (.iconst 5, 1) := by decide +kernel
theorem dX1_init_6 : decode cX1_init 6 = .ok (.anewarray 9, 3) := by decide +kernel
theorem dX1_init_9 : decode cX1_init 9 = .ok (.putfield 11, 3) := by decide +kernel
theorem dX1_init_12 : decode cX1_init 12 = .ok (.aload_n 0, 1) := by decide +kernel
theorem dX1_init_13 : decode cX1_init 13 = .ok (.iconst 4, 1) := by decide +kernel
theorem dX1_init_14 : decode cX1_init 14 = .ok (.anewarray 17, 3) := by decide +kernel
theorem dX1_init_17 : decode cX1_init 17 = .ok (.putfield 19, 3) := by decide +kernel
theorem dX1_init_20 : decode cX1_init 20 = .ok (.aload_n 0, 1) := by decide +kernel
theorem dX1_init_21 : decode cX1_init 21 = .ok (.bipush 10, 2) := by decide +kernel
theorem dX1_init_23 : decode cX1_init 23 = .ok (.anewarray 23, 3) := by decide +kernel
theorem dX1_init_26 : decode cX1_init 26 = .ok (.putfield 25, 3) := by decide +kernel
theorem dX1_init_29 : decode cX1_init 29 = .ok (.iconst 0, 1) := by decide +kernel
theorem dX1_init_30 : decode cX1_init 30 = .ok (.istore_n 1, 1) := by decide +kernel
theorem dX1_init_31 : decode cX1_init 31 = .ok (.iload_n 1, 1) := by decide +kernel
theorem dX1_init_32 : decode cX1_init 32 = .ok (.iconst 5, 1) := by decide +kernel
theorem dX1_init_33 : decode cX1_init 33 = .ok (.if_icmp .ge 22, 3) := by decide +kernel
theorem dX1_init_36 : decode cX1_init 36 = .ok (.aload_n 0, 1) := by decide +kernel
theorem dX1_init_37 : decode cX1_init 37 = .ok (.getfield 11, 3) := by decide +kernel
theorem dX1_init_40 : decode cX1_init 40 = .ok (.iload_n 1, 1) := by decide +kernel
theorem dX1_init_41 : decode cX1_init 41 = .ok (.new 9, 3) := by decide +kernel
theorem dX1_init_44 : decode cX1_init 44 = .ok (.dup, 1) := by decide +kernel
theorem dX1_init_45 : decode cX1_init 45 = .ok (.invokespecial 29, 3) := by decide +kernel
theorem dX1_init_48 : decode cX1_init 48 = .ok (.aastore, 1) := by decide +kernel
theorem dX1_init_49 : decode cX1_init 49 = .ok (.iinc 1 1, 3) := by decide +kernel
theorem dX1_init_52 : decode cX1_init 52 = .ok (.goto (-21), 3) := by decide +kernel
theorem dX1_init_55 : decode cX1_init 55 = .ok (.iconst 0, 1) := by decide +kernel
theorem dX1_init_56 : decode cX1_init 56 = .ok (.istore_n 1, 1) := by decide +kernel
theorem dX1_init_57 : decode cX1_init 57 = .ok (.iload_n 1, 1) := by decide +kernel
theorem dX1_init_58 : decode cX1_init 58 = .ok (.iconst 4, 1) := by decide +kernel
theorem dX1_init_59 : decode cX1_init 59 = .ok (.if_icmp .ge 22, 3) := by decide +kernel
theorem dX1_init_62 : decode cX1_init 62 = .ok (.aload_n 0, 1) := by decide +kernel
theorem dX1_init_63 : decode cX1_init 63 = .ok (.getfield 19, 3) := by decide +kernel
theorem dX1_init_66 : decode cX1_init 66 = .ok (.iload_n 1, 1) := by decide +kernel
theorem dX1_init_67 : decode cX1_init 67 = .ok (.new 17, 3) := by decide +kernel
theorem dX1_init_70 : decode cX1_init 70 = .ok (.dup, 1) := by decide +kernel
theorem dX1_init_71 : decode cX1_init 71 = .ok (.invokespecial 30, 3) := by decide +kernel
theorem dX1_init_74 : decode cX1_init 74 = .ok (.aastore, 1) := by decide +kernel
theorem dX1_init_75 : decode cX1_init 75 = .ok (.iinc 1 1, 3) := by decide +kernel
theorem dX1_init_78 : decode cX1_init 78 = .ok (.goto (-21), 3) := by decide +kernel
theorem dX1_init_81 : decode cX1_init 81 = .ok (.iconst 0, 1) := by decide +kernel
theorem dX1_init_82 : decode cX1_init 82 = .ok (.istore_n 1, 1) := by decide +kernel
theorem dX1_init_83 : decode cX1_init 83 = .ok (.iload_n 1, 1) := by decide +kernel
theorem dX1_init_84 : decode cX1_init 84 = .ok (.bipush 10, 2) := by decide +kernel
theorem dX1_init_86 : decode cX1_init 86 = .ok (.if_icmp .ge 22, 3) := by decide +kernel
theorem dX1_init_89 : decode cX1_init 89 = .ok (.aload_n 0, 1) := by decide +kernel
theorem dX1_init_90 : decode cX1_init 90 = .ok (.getfield 25, 3) := by decide +kernel
theorem dX1_init_93 : decode cX1_init 93 = .ok (.iload_n 1, 1) := by decide +kernel
theorem dX1_init_94 : decode cX1_init 94 = .ok (.new 23, 3) := by decide +kernel
theorem dX1_init_97 : decode cX1_init 97 = .ok (.dup, 1) := by decide +kernel
theorem dX1_init_98 : decode cX1_init 98 = .ok (.invokespecial 31, 3) := by decide +kernel
theorem dX1_init_101 : decode cX1_init 101 = .ok (.aastore, 1) := by decide +kernel
theorem dX1_init_102 : decode cX1_init 102 = .ok (.iinc 1 1, 3) := by decide +kernel
theorem dX1_init_105 : decode cX1_init 105 = .ok (.goto (-22), 3) := by decide +kernel
theorem dX1_init_108 : decode cX1_init 108 = .ok (.return_, 1) := by decide +kernel
theorem dX1_copy_0 : decode cX1_copy 0 = .ok (.aload_n 0, 1) := by decide +kernel
theorem dX1_copy_1 : decode cX1_copy 1 = .ok (.aload_n 1, 1) := by decide +kernel
theorem dX1_copy_2 : decode cX1_copy 2 = .ok (.getfield 32, 3) := by decide +kernel
theorem dX1_copy_5 : decode cX1_copy 5 = .ok (.putfield 32, 3) := by decide +kernel
theorem dX1_copy_8 : decode cX1_copy 8 = .ok (.aload_n 0, 1) := by decide +kernel
theorem dX1_copy_9 : decode cX1_copy 9 = .ok (.aload_n 1, 1) := by decide +kernel
theorem dX1_copy_10 : decode cX1_copy 10 = .ok (.getfield 36, 3) := by decide +kernel
theorem dX1_copy_13 : decode cX1_copy 13 = .ok (.putfield 36, 3) := by decide +kernel
theorem dX1_copy_16 : decode cX1_copy 16 = .ok (.aload_n 0, 1) := by decide +kernel
theorem dX1_copy_17 : decode cX1_copy 17 = .ok (.aload_n 1, 1) := by decide +kernel
theorem dX1_copy_18 : decode cX1_copy 18 = .ok (.getfield 39, 3) := by decide +kernel
theorem dX1_copy_21 : decode cX1_copy 21 = .ok (.putfield 39, 3) := by decide +kernel
theorem dX1_copy_24 : decode cX1_copy 24 = .ok (.aload_n 0, 1) := by decide +kernel
theorem dX1_copy_25 : decode cX1_copy 25 = .ok (.aload_n 1, 1) := by decide +kernel
theorem dX1_copy_26 : decode cX1_copy 26 = .ok (.getfield 42, 3) := by decide +kernel
theorem dX1_copy_29 : decode cX1_copy 29 = .ok (.putfield 42, 3) := by decide +kernel
theorem dX1_copy_32 : decode cX1_copy 32 = .ok (.iconst 0, 1) := by decide +kernel
theorem dX1_copy_33 : decode cX1_copy 33 = .ok (.istore_n 2, 1) := by decide +kernel
theorem dX1_copy_34 : decode cX1_copy 34 = .ok (.iload_n 2, 1) := by decide +kernel
theorem dX1_copy_35 : decode cX1_copy 35 = .ok (.aload_n 0, 1) := by decide +kernel
theorem dX1_copy_36 : decode cX1_copy 36 = .ok (.getfield 32, 3) := by decide +kernel
theorem dX1_copy_39 : decode cX1_copy 39 = .ok (.if_icmp .ge 24, 3) := by decide +kernel
theorem dX1_copy_42 : decode cX1_copy 42 = .ok (.aload_n 0, 1) := by decide +kernel
theorem dX1_copy_43 : decode cX1_copy 43 = .ok (.getfield 11, 3) := by decide +kernel
theorem dX1_copy_46 : decode cX1_copy 46 = .ok (.iload_n 2, 1) := by decide +kernel
theorem dX1_copy_47 : decode cX1_copy 47 = .ok (.aaload, 1) := by decide +kernel
theorem dX1_copy_48 : decode cX1_copy 48 = .ok (.aload_n 1, 1) := by decide +kernel
theorem dX1_copy_49 : decode cX1_copy 49 = .ok (.getfield 11, 3) := by decide +kernel
theorem dX1_copy_52 : decode cX1_copy 52 = .ok (.iload_n 2, 1) := by decide +kernel
theorem dX1_copy_53 : decode cX1_copy 53 = .ok (.aaload, 1) := by decide +kernel
theorem dX1_copy_54 : decode cX1_copy 54 = .ok (.invokevirtual 45, 3) := by decide +kernel
theorem dX1_copy_57 : decode cX1_copy 57 = .ok (.iinc 2 1, 3) := by decide +kernel
theorem dX1_copy_60 : decode cX1_copy 60 = .ok (.goto (-26), 3) := by decide +kernel
theorem dX1_copy_63 : decode cX1_copy 63 = .ok (.iconst 0, 1) := by decide +kernel
theorem dX1_copy_64 : decode cX1_copy 64 = .ok (.istore_n 2, 1) := by decide +kernel
theorem dX1_copy_65 : decode cX1_copy 65 = .ok (.iload_n 2, 1) := by decide +kernel
theorem dX1_copy_66 : decode cX1_copy 66 = .ok (.aload_n 0, 1) := by decide +kernel
theorem dX1_copy_67 : decode cX1_copy 67 = .ok (.getfield 36, 3) := by decide +kernel
theorem dX1_copy_70 : decode cX1_copy 70 = .ok (.if_icmp .ge 24, 3) := by decide +kernel
theorem dX1_copy_73 : decode cX1_copy 73 = .ok (.aload_n 0, 1) := by decide +kernel
theorem dX1_copy_74 : decode cX1_copy 74 = .ok (.getfield 19, 3) := by decide +kernel
theorem dX1_copy_77 : decode cX1_copy 77 = .ok (.iload_n 2, 1) := by decide +kernel
theorem dX1_copy_78 : decode cX1_copy 78 = .ok (.aaload, 1) := by decide +kernel
theorem dX1_copy_79 : decode cX1_copy 79 = .ok (.aload_n 1, 1) := by decide +kernel
theorem dX1_copy_80 : decode cX1_copy 80 = .ok (.getfield 19, 3) := by decide +kernel
theorem dX1_copy_83 : decode cX1_copy 83 = .ok (.iload_n 2, 1) := by decide +kernel
theorem dX1_copy_84 : decode cX1_copy 84 = .ok (.aaload, 1) := by decide +kernel
theorem dX1_copy_85 : decode cX1_copy 85 = .ok (.invokevirtual 49, 3) := by decide +kernel
theorem dX1_copy_88 : decode cX1_copy 88 = .ok (.iinc 2 1, 3) := by decide +kernel
theorem dX1_copy_91 : decode cX1_copy 91 = .ok (.goto (-26), 3) := by decide +kernel
theorem dX1_copy_94 : decode cX1_copy 94 = .ok (.iconst 0, 1) := by decide +kernel
theorem dX1_copy_95 : decode cX1_copy 95 = .ok (.istore_n 2, 1) := by decide +kernel
theorem dX1_copy_96 : decode cX1_copy 96 = .ok (.iload_n 2, 1) := by decide +kernel
theorem dX1_copy_97 : decode cX1_copy 97 = .ok (.aload_n 0, 1) := by decide +kernel
theorem dX1_copy_98 : decode cX1_copy 98 = .ok (.getfield 39, 3) := by decide +kernel
theorem dX1_copy_101 : decode cX1_copy 101 = .ok (.if_icmp .ge 24, 3) := by decide +kernel
theorem dX1_copy_104 : decode cX1_copy 104 = .ok (.aload_n 0, 1) := by decide +kernel
theorem dX1_copy_105 : decode cX1_copy 105 = .ok (.getfield 25, 3) := by decide +kernel
theorem dX1_copy_108 : decode cX1_copy 108 = .ok (.iload_n 2, 1) := by decide +kernel
theorem dX1_copy_109 : decode cX1_copy 109 = .ok (.aaload, 1) := by decide +kernel
theorem dX1_copy_110 : decode cX1_copy 110 = .ok (.aload_n 1, 1) := by decide +kernel
theorem dX1_copy_111 : decode cX1_copy 111 = .ok (.getfield 25, 3) := by decide +kernel
theorem dX1_copy_114 : decode cX1_copy 114 = .ok (.iload_n 2, 1) := by decide +kernel
theorem dX1_copy_115 : decode cX1_copy 115 = .ok (.aaload, 1) := by decide +kernel
theorem dX1_copy_116 : decode cX1_copy 116 = .ok (.invokevirtual 52, 3) := by decide +kernel
theorem dX1_copy_119 : decode cX1_copy 119 = .ok (.iinc 2 1, 3) := by decide +kernel
theorem dX1_copy_122 : decode cX1_copy 122 = .ok (.goto (-26), 3) := by decide +kernel
theorem dX1_copy_125 : decode cX1_copy 125 = .ok (.return_, 1) := by decide +kernel
theorem dX1_hasAsh_0 : decode cX1_hasAsh 0 = .ok (.iload_n 1, 1) := by decide +kernel
theorem dX1_hasAsh_1 : decode cX1_hasAsh 1 = .ok (.iconst 0, 1) := by decide +kernel
theorem dX1_hasAsh_2 : decode cX1_hasAsh 2 = .ok (.aload_n 0, 1) := by decide +kernel
theorem dX1_hasAsh_3 : decode cX1_hasAsh 3 = .ok (.getfield 32, 3) := by decide +kernel
theorem dX1_hasAsh_6 : decode cX1_hasAsh 6 = .ok (.iconst 1, 1) := by decide +kernel
theorem dX1_hasAsh_7 : decode cX1_hasAsh 7 = .ok (.isub, 1) := by decide +kernel
theorem dX1_hasAsh_8 : decode cX1_hasAsh 8 = .ok (.invokestatic 55, 3) := by decide +kernel
theorem dX1_hasAsh_11 : decode cX1_hasAsh 11 = .ok (.ireturn, 1) := by decide +kernel
theorem dX1_hasPotter_0 : decode cX1_hasPotter 0 = .ok (.iload_n 1, 1) := by decide +kernel
theorem dX1_hasPotter_1 : decode cX1_hasPotter 1 = .ok (.iconst 0, 1) := by decide +kernel
theorem dX1_hasPotter_2 : decode cX1_hasPotter 2 = .ok (.aload_n 0, 1) := by decide +kernel
theorem dX1_hasPotter_3 : decode cX1_hasPotter 3 = .ok (.getfield 36, 3) := by decide +kernel
theorem dX1_hasPotter_6 : decode cX1_hasPotter 6 = .ok (.iconst 1, 1) := by decide +kernel
theorem dX1_hasPotter_7 : decode cX1_hasPotter 7 = .ok (.isub, 1) := by decide +kernel
theorem dX1_hasPotter_8 : decode cX1_hasPotter 8 = .ok (.invokestatic 55, 3) := by decide +kernel
theorem dX1_hasPotter_11 : decode cX1_hasPotter 11 = .ok (.ireturn, 1) := by decide +kernel
theorem dX1_hasLoan_0 : decode cX1_hasLoan 0 = .ok (.iload_n 1, 1) := by decide +kernel
theorem dX1_hasLoan_1 : decode cX1_hasLoan 1 = .ok (.iconst 0, 1) := by decide +kernel
theorem dX1_hasLoan_2 : decode cX1_hasLoan 2 = .ok (.aload_n 0, 1) := by decide +kernel
theorem dX1_hasLoan_3 : decode cX1_hasLoan 3 = .ok (.getfield 39, 3) := by decide +kernel
theorem dX1_hasLoan_6 : decode cX1_hasLoan 6 = .ok (.iconst 1, 1) := by decide +kernel
theorem dX1_hasLoan_7 : decode cX1_hasLoan 7 = .ok (.isub, 1) := by decide +kernel
theorem dX1_hasLoan_8 : decode cX1_hasLoan 8 = .ok (.invokestatic 55, 3) := by decide +kernel
theorem dX1_hasLoan_11 : decode cX1_hasLoan 11 = .ok (.ireturn, 1) := by decide +kernel
theorem dX1_bushelsOfAll_0 : decode cX1_bushelsOfAll 0 = .ok (.iconst 0, 1) := by decide +kernel
theorem dX1_bushelsOfAll_1 : decode cX1_bushelsOfAll 1 = .ok (.istore_n 2, 1) := by decide +kernel
theorem dX1_bushelsOfAll_2 : decode cX1_bushelsOfAll 2 = .ok (.iconst 0, 1) := by decide +kernel
theorem dX1_bushelsOfAll_3 : decode cX1_bushelsOfAll 3 = .ok (.istore_n 3, 1) := by decide +kernel
theorem dX1_bushelsOfAll_4 : decode cX1_bushelsOfAll 4 = .ok (.iload_n 3, 1) := by decide +kernel
theorem dX1_bushelsOfAll_5 : decode cX1_bushelsOfAll 5 = .ok (.aload_n 0, 1) := by decide +kernel
theorem dX1_bushelsOfAll_6 : decode cX1_bushelsOfAll 6 = .ok (.getfield 36, 3) := by decide +kernel
theorem dX1_bushelsOfAll_9 : decode cX1_bushelsOfAll 9 = .ok (.if_icmp .ge 23, 3) := by decide +kernel
theorem dX1_bushelsOfAll_12 : decode cX1_bushelsOfAll 12 = .ok (.iload_n 2, 1) := by decide +kernel
theorem dX1_bushelsOfAll_13 : decode cX1_bushelsOfAll 13 = .ok (.aload_n 0, 1) := by decide +kernel
theorem dX1_bushelsOfAll_14 : decode cX1_bushelsOfAll 14 = .ok (.getfield 19, 3) := by decide +kernel
theorem dX1_bushelsOfAll_17 : decode cX1_bushelsOfAll 17 = .ok (.iload_n 3, 1) := by decide +kernel
theorem dX1_bushelsOfAll_18 : decode cX1_bushelsOfAll 18 = .ok (.aaload, 1) := by decide +kernel
theorem dX1_bushelsOfAll_19 : decode cX1_bushelsOfAll 19 = .ok (.getfield 59, 3) := by decide +kernel
theorem dX1_bushelsOfAll_22 : decode cX1_bushelsOfAll 22 = .ok (.iload_n 1, 1) := by decide +kernel
theorem dX1_bushelsOfAll_23 : decode cX1_bushelsOfAll 23 = .ok (.iaload, 1) := by decide +kernel
theorem dX1_bushelsOfAll_24 : decode cX1_bushelsOfAll 24 = .ok (.iadd, 1) := by decide +kernel
theorem dX1_bushelsOfAll_25 : decode cX1_bushelsOfAll 25 = .ok (.istore_n 2, 1) := by decide +kernel
theorem dX1_bushelsOfAll_26 : decode cX1_bushelsOfAll 26 = .ok (.iinc 3 1, 3) := by decide +kernel
theorem dX1_bushelsOfAll_29 : decode cX1_bushelsOfAll 29 = .ok (.goto (-25), 3) := by decide +kernel
theorem dX1_bushelsOfAll_32 : decode cX1_bushelsOfAll 32 = .ok (.iload_n 2, 1) := by decide +kernel
theorem dX1_bushelsOfAll_33 : decode cX1_bushelsOfAll 33 = .ok (.ireturn, 1) := by decide +kernel
theorem dX1_potsOfAll_0 : decode cX1_potsOfAll 0 = .ok (.iconst 0, 1) := by decide +kernel
theorem dX1_potsOfAll_1 : decode cX1_potsOfAll 1 = .ok (.istore_n 1, 1) := by decide +kernel
theorem dX1_potsOfAll_2 : decode cX1_potsOfAll 2 = .ok (.iconst 0, 1) := by decide +kernel
theorem dX1_potsOfAll_3 : decode cX1_potsOfAll 3 = .ok (.istore_n 2, 1) := by decide +kernel
theorem dX1_potsOfAll_4 : decode cX1_potsOfAll 4 = .ok (.iload_n 2, 1) := by decide +kernel
theorem dX1_potsOfAll_5 : decode cX1_potsOfAll 5 = .ok (.aload_n 0, 1) := by decide +kernel
theorem dX1_potsOfAll_6 : decode cX1_potsOfAll 6 = .ok (.getfield 36, 3) := by decide +kernel
theorem dX1_potsOfAll_9 : decode cX1_potsOfAll 9 = .ok (.if_icmp .ge 21, 3) := by decide +kernel
theorem dX1_potsOfAll_12 : decode cX1_potsOfAll 12 = .ok (.iload_n 1, 1) := by decide +kernel
theorem dX1_potsOfAll_13 : decode cX1_potsOfAll 13 = .ok (.aload_n 0, 1) := by decide +kernel
theorem dX1_potsOfAll_14 : decode cX1_potsOfAll 14 = .ok (.getfield 19, 3) := by decide +kernel
theorem dX1_potsOfAll_17 : decode cX1_potsOfAll 17 = .ok (.iload_n 2, 1) := by decide +kernel
theorem dX1_potsOfAll_18 : decode cX1_potsOfAll 18 = .ok (.aaload, 1) := by decide +kernel
theorem dX1_potsOfAll_19 : decode cX1_potsOfAll 19 = .ok (.getfield 63, 3) := by decide +kernel
theorem dX1_potsOfAll_22 : decode cX1_potsOfAll 22 = .ok (.iadd, 1) := by decide +kernel
theorem dX1_potsOfAll_23 : decode cX1_potsOfAll 23 = .ok (.istore_n 1, 1) := by decide +kernel
theorem dX1_potsOfAll_24 : decode cX1_potsOfAll 24 = .ok (.iinc 2 1, 3) := by decide +kernel
theorem dX1_potsOfAll_27 : decode cX1_potsOfAll 27 = .ok (.goto (-23), 3) := by decide +kernel
theorem dX1_potsOfAll_30 : decode cX1_potsOfAll 30 = .ok (.iload_n 1, 1) := by decide +kernel
theorem dX1_potsOfAll_31 : decode cX1_potsOfAll 31 = .ok (.ireturn, 1) := by decide +kernel
theorem dX1_brokenOfAll_0 : decode cX1_brokenOfAll 0 = .ok (.iconst 0, 1) := by decide +kernel
theorem dX1_brokenOfAll_1 : decode cX1_brokenOfAll 1 = .ok (.istore_n 1, 1) := by decide +kernel
theorem dX1_brokenOfAll_2 : decode cX1_brokenOfAll 2 = .ok (.iconst 0, 1) := by decide +kernel
theorem dX1_brokenOfAll_3 : decode cX1_brokenOfAll 3 = .ok (.istore_n 2, 1) := by decide +kernel
theorem dX1_brokenOfAll_4 : decode cX1_brokenOfAll 4 = .ok (.iload_n 2, 1) := by decide +kernel
theorem dX1_brokenOfAll_5 : decode cX1_brokenOfAll 5 = .ok (.aload_n 0, 1) := by decide +kernel
theorem dX1_brokenOfAll_6 : decode cX1_brokenOfAll 6 = .ok (.getfield 36, 3) := by decide +kernel
theorem dX1_brokenOfAll_9 : decode cX1_brokenOfAll 9 = .ok (.if_icmp .ge 21, 3) := by decide +kernel
theorem dX1_brokenOfAll_12 : decode cX1_brokenOfAll 12 = .ok (.iload_n 1, 1) := by decide +kernel
theorem dX1_brokenOfAll_13 : decode cX1_brokenOfAll 13 = .ok (.aload_n 0, 1) := by decide +kernel
theorem dX1_brokenOfAll_14 : decode cX1_brokenOfAll 14 = .ok (.getfield 19, 3) := by decide +kernel
theorem dX1_brokenOfAll_17 : decode cX1_brokenOfAll 17 = .ok (.iload_n 2, 1) := by decide +kernel
theorem dX1_brokenOfAll_18 : decode cX1_brokenOfAll 18 = .ok (.aaload, 1) := by decide +kernel
theorem dX1_brokenOfAll_19 : decode cX1_brokenOfAll 19 = .ok (.getfield 66, 3) := by decide +kernel
theorem dX1_brokenOfAll_22 : decode cX1_brokenOfAll 22 = .ok (.iadd, 1) := by decide +kernel
theorem dX1_brokenOfAll_23 : decode cX1_brokenOfAll 23 = .ok (.istore_n 1, 1) := by decide +kernel
theorem dX1_brokenOfAll_24 : decode cX1_brokenOfAll 24 = .ok (.iinc 2 1, 3) := by decide +kernel
theorem dX1_brokenOfAll_27 : decode cX1_brokenOfAll 27 = .ok (.goto (-23), 3) := by decide +kernel
theorem dX1_brokenOfAll_30 : decode cX1_brokenOfAll 30 = .ok (.iload_n 1, 1) := by decide +kernel
theorem dX1_brokenOfAll_31 : decode cX1_brokenOfAll 31 = .ok (.ireturn, 1) := by decide +kernel
theorem dX1_loansHeldBy_0 : decode cX1_loansHeldBy 0 = .ok (.iconst 0, 1) := by decide +kernel
theorem dX1_loansHeldBy_1 : decode cX1_loansHeldBy 1 = .ok (.istore_n 2, 1) := by decide +kernel
theorem dX1_loansHeldBy_2 : decode cX1_loansHeldBy 2 = .ok (.iconst 0, 1) := by decide +kernel
theorem dX1_loansHeldBy_3 : decode cX1_loansHeldBy 3 = .ok (.istore_n 3, 1) := by decide +kernel
theorem dX1_loansHeldBy_4 : decode cX1_loansHeldBy 4 = .ok (.iload_n 3, 1) := by decide +kernel
theorem dX1_loansHeldBy_5 : decode cX1_loansHeldBy 5 = .ok (.aload_n 0, 1) := by decide +kernel
theorem dX1_loansHeldBy_6 : decode cX1_loansHeldBy 6 = .ok (.getfield 39, 3) := by decide +kernel
theorem dX1_loansHeldBy_9 : decode cX1_loansHeldBy 9 = .ok (.if_icmp .ge 30, 3) := by decide +kernel
theorem dX1_loansHeldBy_12 : decode cX1_loansHeldBy 12 = .ok (.iload_n 2, 1) := by decide +kernel
theorem dX1_loansHeldBy_13 : decode cX1_loansHeldBy 13 = .ok (.aload_n 0, 1) := by decide +kernel
theorem dX1_loansHeldBy_14 : decode cX1_loansHeldBy 14 = .ok (.getfield 25, 3) := by decide +kernel
theorem dX1_loansHeldBy_17 : decode cX1_loansHeldBy 17 = .ok (.iload_n 3, 1) := by decide +kernel
theorem dX1_loansHeldBy_18 : decode cX1_loansHeldBy 18 = .ok (.aaload, 1) := by decide +kernel
theorem dX1_loansHeldBy_19 : decode cX1_loansHeldBy 19 = .ok (.getfield 69, 3) := by decide +kernel
theorem dX1_loansHeldBy_22 : decode cX1_loansHeldBy 22 = .ok (.iload_n 1, 1) := by decide +kernel
theorem dX1_loansHeldBy_23 : decode cX1_loansHeldBy 23 = .ok (.if_icmp .ne 7, 3) := by decide +kernel
theorem dX1_loansHeldBy_26 : decode cX1_loansHeldBy 26 = .ok (.iconst 1, 1) := by decide +kernel
theorem dX1_loansHeldBy_27 : decode cX1_loansHeldBy 27 = .ok (.goto 4, 3) := by decide +kernel
theorem dX1_loansHeldBy_30 : decode cX1_loansHeldBy 30 = .ok (.iconst 0, 1) := by decide +kernel
theorem dX1_loansHeldBy_31 : decode cX1_loansHeldBy 31 = .ok (.iadd, 1) := by decide +kernel
theorem dX1_loansHeldBy_32 : decode cX1_loansHeldBy 32 = .ok (.istore_n 2, 1) := by decide +kernel
theorem dX1_loansHeldBy_33 : decode cX1_loansHeldBy 33 = .ok (.iinc 3 1, 3) := by decide +kernel
theorem dX1_loansHeldBy_36 : decode cX1_loansHeldBy 36 = .ok (.goto (-32), 3) := by decide +kernel
theorem dX1_loansHeldBy_39 : decode cX1_loansHeldBy 39 = .ok (.iload_n 2, 1) := by decide +kernel
theorem dX1_loansHeldBy_40 : decode cX1_loansHeldBy 40 = .ok (.ireturn, 1) := by decide +kernel
theorem dX1_owedTo_0 : decode cX1_owedTo 0 = .ok (.iconst 0, 1) := by decide +kernel
theorem dX1_owedTo_1 : decode cX1_owedTo 1 = .ok (.istore_n 2, 1) := by decide +kernel
theorem dX1_owedTo_2 : decode cX1_owedTo 2 = .ok (.iconst 0, 1) := by decide +kernel
theorem dX1_owedTo_3 : decode cX1_owedTo 3 = .ok (.istore_n 3, 1) := by decide +kernel
theorem dX1_owedTo_4 : decode cX1_owedTo 4 = .ok (.iload_n 3, 1) := by decide +kernel
theorem dX1_owedTo_5 : decode cX1_owedTo 5 = .ok (.aload_n 0, 1) := by decide +kernel
theorem dX1_owedTo_6 : decode cX1_owedTo 6 = .ok (.getfield 39, 3) := by decide +kernel
theorem dX1_owedTo_9 : decode cX1_owedTo 9 = .ok (.if_icmp .ge 38, 3) := by decide +kernel
theorem dX1_owedTo_12 : decode cX1_owedTo 12 = .ok (.iload_n 2, 1) := by decide +kernel
theorem dX1_owedTo_13 : decode cX1_owedTo 13 = .ok (.aload_n 0, 1) := by decide +kernel
theorem dX1_owedTo_14 : decode cX1_owedTo 14 = .ok (.getfield 25, 3) := by decide +kernel
theorem dX1_owedTo_17 : decode cX1_owedTo 17 = .ok (.iload_n 3, 1) := by decide +kernel
theorem dX1_owedTo_18 : decode cX1_owedTo 18 = .ok (.aaload, 1) := by decide +kernel
theorem dX1_owedTo_19 : decode cX1_owedTo 19 = .ok (.getfield 72, 3) := by decide +kernel
theorem dX1_owedTo_22 : decode cX1_owedTo 22 = .ok (.iload_n 1, 1) := by decide +kernel
theorem dX1_owedTo_23 : decode cX1_owedTo 23 = .ok (.if_icmp .ne 15, 3) := by decide +kernel
theorem dX1_owedTo_26 : decode cX1_owedTo 26 = .ok (.aload_n 0, 1) := by decide +kernel
theorem dX1_owedTo_27 : decode cX1_owedTo 27 = .ok (.getfield 25, 3) := by decide +kernel
theorem dX1_owedTo_30 : decode cX1_owedTo 30 = .ok (.iload_n 3, 1) := by decide +kernel
theorem dX1_owedTo_31 : decode cX1_owedTo 31 = .ok (.aaload, 1) := by decide +kernel
theorem dX1_owedTo_32 : decode cX1_owedTo 32 = .ok (.getfield 75, 3) := by decide +kernel
theorem dX1_owedTo_35 : decode cX1_owedTo 35 = .ok (.goto 4, 3) := by decide +kernel
theorem dX1_owedTo_38 : decode cX1_owedTo 38 = .ok (.iconst 0, 1) := by decide +kernel
theorem dX1_owedTo_39 : decode cX1_owedTo 39 = .ok (.iadd, 1) := by decide +kernel
theorem dX1_owedTo_40 : decode cX1_owedTo 40 = .ok (.istore_n 2, 1) := by decide +kernel
theorem dX1_owedTo_41 : decode cX1_owedTo 41 = .ok (.iinc 3 1, 3) := by decide +kernel
theorem dX1_owedTo_44 : decode cX1_owedTo 44 = .ok (.goto (-40), 3) := by decide +kernel
theorem dX1_owedTo_47 : decode cX1_owedTo 47 = .ok (.iload_n 2, 1) := by decide +kernel
theorem dX1_owedTo_48 : decode cX1_owedTo 48 = .ok (.ireturn, 1) := by decide +kernel
theorem dX1_lentBetween_0 : decode cX1_lentBetween 0 = .ok (.iconst 0, 1) := by decide +kernel
theorem dX1_lentBetween_1 : decode cX1_lentBetween 1 = .ok (.istore 4, 2) := by decide +kernel
theorem dX1_lentBetween_3 : decode cX1_lentBetween 3 = .ok (.iconst 0, 1) := by decide +kernel
theorem dX1_lentBetween_4 : decode cX1_lentBetween 4 = .ok (.istore 5, 2) := by decide +kernel
theorem dX1_lentBetween_6 : decode cX1_lentBetween 6 = .ok (.iload 5, 2) := by decide +kernel
theorem dX1_lentBetween_8 : decode cX1_lentBetween 8 = .ok (.aload_n 0, 1) := by decide +kernel
theorem dX1_lentBetween_9 : decode cX1_lentBetween 9 = .ok (.getfield 39, 3) := by decide +kernel
theorem dX1_lentBetween_12 : decode cX1_lentBetween 12 = .ok (.if_icmp .ge 59, 3) := by decide +kernel
theorem dX1_lentBetween_15 : decode cX1_lentBetween 15 = .ok (.aload_n 0, 1) := by decide +kernel
theorem dX1_lentBetween_16 : decode cX1_lentBetween 16 = .ok (.getfield 25, 3) := by decide +kernel
theorem dX1_lentBetween_19 : decode cX1_lentBetween 19 = .ok (.iload 5, 2) := by decide +kernel
theorem dX1_lentBetween_21 : decode cX1_lentBetween 21 = .ok (.aaload, 1) := by decide +kernel
theorem dX1_lentBetween_22 : decode cX1_lentBetween 22 = .ok (.astore 6, 2) := by decide +kernel
theorem dX1_lentBetween_24 : decode cX1_lentBetween 24 = .ok (.iload 4, 2) := by decide +kernel
theorem dX1_lentBetween_26 : decode cX1_lentBetween 26 = .ok (.aload 6, 2) := by decide +kernel
theorem dX1_lentBetween_28 : decode cX1_lentBetween 28 = .ok (.getfield 72, 3) := by decide +kernel
theorem dX1_lentBetween_31 : decode cX1_lentBetween 31 = .ok (.iload_n 1, 1) := by decide +kernel
theorem dX1_lentBetween_32 : decode cX1_lentBetween 32 = .ok (.if_icmp .ne 29, 3) := by decide +kernel
theorem dX1_lentBetween_35 : decode cX1_lentBetween 35 = .ok (.aload 6, 2) := by decide +kernel
theorem dX1_lentBetween_37 : decode cX1_lentBetween 37 = .ok (.getfield 69, 3) := by decide +kernel
theorem dX1_lentBetween_40 : decode cX1_lentBetween 40 = .ok (.iload_n 2, 1) := by decide +kernel
theorem dX1_lentBetween_41 : decode cX1_lentBetween 41 = .ok (.if_icmp .ne 20, 3) := by decide +kernel
theorem dX1_lentBetween_44 : decode cX1_lentBetween 44 = .ok (.aload 6, 2) := by decide +kernel
theorem dX1_lentBetween_46 : decode cX1_lentBetween 46 = .ok (.getfield 77, 3) := by decide +kernel
theorem dX1_lentBetween_49 : decode cX1_lentBetween 49 = .ok (.iload_n 3, 1) := by decide +kernel
theorem dX1_lentBetween_50 : decode cX1_lentBetween 50 = .ok (.if_icmp .ne 11, 3) := by decide +kernel
theorem dX1_lentBetween_53 : decode cX1_lentBetween 53 = .ok (.aload 6, 2) := by decide +kernel
theorem dX1_lentBetween_55 : decode cX1_lentBetween 55 = .ok (.getfield 75, 3) := by decide +kernel
theorem dX1_lentBetween_58 : decode cX1_lentBetween 58 = .ok (.goto 4, 3) := by decide +kernel
theorem dX1_lentBetween_61 : decode cX1_lentBetween 61 = .ok (.iconst 0, 1) := by decide +kernel
theorem dX1_lentBetween_62 : decode cX1_lentBetween 62 = .ok (.iadd, 1) := by decide +kernel
theorem dX1_lentBetween_63 : decode cX1_lentBetween 63 = .ok (.istore 4, 2) := by decide +kernel
theorem dX1_lentBetween_65 : decode cX1_lentBetween 65 = .ok (.iinc 5 1, 3) := by decide +kernel
theorem dX1_lentBetween_68 : decode cX1_lentBetween 68 = .ok (.goto (-62), 3) := by decide +kernel
theorem dX1_lentBetween_71 : decode cX1_lentBetween 71 = .ok (.iload 4, 2) := by decide +kernel
theorem dX1_lentBetween_73 : decode cX1_lentBetween 73 = .ok (.ireturn, 1) := by decide +kernel
theorem dX1_canLend_0 : decode cX1_canLend 0 = .ok (.aload_n 0, 1) := by decide +kernel
theorem dX1_canLend_1 : decode cX1_canLend 1 = .ok (.getfield 19, 3) := by decide +kernel
theorem dX1_canLend_4 : decode cX1_canLend 4 = .ok (.iload_n 1, 1) := by decide +kernel
theorem dX1_canLend_5 : decode cX1_canLend 5 = .ok (.aaload, 1) := by decide +kernel
theorem dX1_canLend_6 : decode cX1_canLend 6 = .ok (.getfield 59, 3) := by decide +kernel
theorem dX1_canLend_9 : decode cX1_canLend 9 = .ok (.iload_n 3, 1) := by decide +kernel
theorem dX1_canLend_10 : decode cX1_canLend 10 = .ok (.iaload, 1) := by decide +kernel
theorem dX1_canLend_11 : decode cX1_canLend 11 = .ok (.iload 4, 2) := by decide +kernel
theorem dX1_canLend_13 : decode cX1_canLend 13 = .ok (.if_icmp .lt 27, 3) := by decide +kernel
theorem dX1_canLend_16 : decode cX1_canLend 16 = .ok (.aload_n 0, 1) := by decide +kernel
theorem dX1_canLend_17 : decode cX1_canLend 17 = .ok (.getfield 19, 3) := by decide +kernel
theorem dX1_canLend_20 : decode cX1_canLend 20 = .ok (.iload_n 2, 1) := by decide +kernel
theorem dX1_canLend_21 : decode cX1_canLend 21 = .ok (.aaload, 1) := by decide +kernel
theorem dX1_canLend_22 : decode cX1_canLend 22 = .ok (.getfield 59, 3) := by decide +kernel
theorem dX1_canLend_25 : decode cX1_canLend 25 = .ok (.iload_n 3, 1) := by decide +kernel
theorem dX1_canLend_26 : decode cX1_canLend 26 = .ok (.iaload, 1) := by decide +kernel
theorem dX1_canLend_27 : decode cX1_canLend 27 = .ok (.iload 4, 2) := by decide +kernel
theorem dX1_canLend_29 : decode cX1_canLend 29 = .ok (.iadd, 1) := by decide +kernel
theorem dX1_canLend_30 : decode cX1_canLend 30 = .ok (.sipush 999, 3) := by decide +kernel
theorem dX1_canLend_33 : decode cX1_canLend 33 = .ok (.if_icmp .gt 7, 3) := by decide +kernel
theorem dX1_canLend_36 : decode cX1_canLend 36 = .ok (.iconst 1, 1) := by decide +kernel
theorem dX1_canLend_37 : decode cX1_canLend 37 = .ok (.goto 4, 3) := by decide +kernel
theorem dX1_canLend_40 : decode cX1_canLend 40 = .ok (.iconst 0, 1) := by decide +kernel
theorem dX1_canLend_41 : decode cX1_canLend 41 = .ok (.ireturn, 1) := by decide +kernel
theorem dX1_addLoan_0 : decode cX1_addLoan 0 = .ok (.aload_n 0, 1) := by decide +kernel
theorem dX1_addLoan_1 : decode cX1_addLoan 1 = .ok (.getfield 39, 3) := by decide +kernel
theorem dX1_addLoan_4 : decode cX1_addLoan 4 = .ok (.bipush 10, 2) := by decide +kernel
theorem dX1_addLoan_6 : decode cX1_addLoan 6 = .ok (.if_icmp .lt 4, 3) := by decide +kernel
theorem dX1_addLoan_9 : decode cX1_addLoan 9 = .ok (.return_, 1) := by decide +kernel
theorem dX1_addLoan_10 : decode cX1_addLoan 10 = .ok (.aload_n 0, 1) := by decide +kernel
theorem dX1_addLoan_11 : decode cX1_addLoan 11 = .ok (.getfield 25, 3) := by decide +kernel
theorem dX1_addLoan_14 : decode cX1_addLoan 14 = .ok (.aload_n 0, 1) := by decide +kernel
theorem dX1_addLoan_15 : decode cX1_addLoan 15 = .ok (.getfield 39, 3) := by decide +kernel
theorem dX1_addLoan_18 : decode cX1_addLoan 18 = .ok (.aaload, 1) := by decide +kernel
theorem dX1_addLoan_19 : decode cX1_addLoan 19 = .ok (.astore 6, 2) := by decide +kernel
theorem dX1_addLoan_21 : decode cX1_addLoan 21 = .ok (.aload 6, 2) := by decide +kernel
theorem dX1_addLoan_23 : decode cX1_addLoan 23 = .ok (.iload_n 1, 1) := by decide +kernel
theorem dX1_addLoan_24 : decode cX1_addLoan 24 = .ok (.putfield 72, 3) := by decide +kernel
theorem dX1_addLoan_27 : decode cX1_addLoan 27 = .ok (.aload 6, 2) := by decide +kernel
theorem dX1_addLoan_29 : decode cX1_addLoan 29 = .ok (.iload_n 2, 1) := by decide +kernel
theorem dX1_addLoan_30 : decode cX1_addLoan 30 = .ok (.putfield 69, 3) := by decide +kernel
theorem dX1_addLoan_33 : decode cX1_addLoan 33 = .ok (.aload 6, 2) := by decide +kernel
theorem dX1_addLoan_35 : decode cX1_addLoan 35 = .ok (.iload_n 3, 1) := by decide +kernel
theorem dX1_addLoan_36 : decode cX1_addLoan 36 = .ok (.putfield 77, 3) := by decide +kernel
theorem dX1_addLoan_39 : decode cX1_addLoan 39 = .ok (.aload 6, 2) := by decide +kernel
theorem dX1_addLoan_41 : decode cX1_addLoan 41 = .ok (.iload 4, 2) := by decide +kernel
theorem dX1_addLoan_43 : decode cX1_addLoan 43 = .ok (.putfield 75, 3) := by decide +kernel
theorem dX1_addLoan_46 : decode cX1_addLoan 46 = .ok (.aload 6, 2) := by decide +kernel
theorem dX1_addLoan_48 : decode cX1_addLoan 48 = .ok (.aload_n 0, 1) := by decide +kernel
theorem dX1_addLoan_49 : decode cX1_addLoan 49 = .ok (.getfield 42, 3) := by decide +kernel
theorem dX1_addLoan_52 : decode cX1_addLoan 52 = .ok (.iload 5, 2) := by decide +kernel
theorem dX1_addLoan_54 : decode cX1_addLoan 54 = .ok (.iadd, 1) := by decide +kernel
theorem dX1_addLoan_55 : decode cX1_addLoan 55 = .ok (.putfield 80, 3) := by decide +kernel
theorem dX1_addLoan_58 : decode cX1_addLoan 58 = .ok (.aload_n 0, 1) := by decide +kernel
theorem dX1_addLoan_59 : decode cX1_addLoan 59 = .ok (.dup, 1) := by decide +kernel
theorem dX1_addLoan_60 : decode cX1_addLoan 60 = .ok (.getfield 39, 3) := by decide +kernel
theorem dX1_addLoan_63 : decode cX1_addLoan 63 = .ok (.iconst 1, 1) := by decide +kernel
theorem dX1_addLoan_64 : decode cX1_addLoan 64 = .ok (.iadd, 1) := by decide +kernel
theorem dX1_addLoan_65 : decode cX1_addLoan 65 = .ok (.putfield 39, 3) := by decide +kernel
theorem dX1_addLoan_68 : decode cX1_addLoan 68 = .ok (.aload_n 0, 1) := by decide +kernel
theorem dX1_addLoan_69 : decode cX1_addLoan 69 = .ok (.getfield 19, 3) := by decide +kernel
theorem dX1_addLoan_72 : decode cX1_addLoan 72 = .ok (.iload_n 1, 1) := by decide +kernel
theorem dX1_addLoan_73 : decode cX1_addLoan 73 = .ok (.aaload, 1) := by decide +kernel
theorem dX1_addLoan_74 : decode cX1_addLoan 74 = .ok (.iload_n 3, 1) := by decide +kernel
theorem dX1_addLoan_75 : decode cX1_addLoan 75 = .ok (.iload 4, 2) := by decide +kernel
theorem dX1_addLoan_77 : decode cX1_addLoan 77 = .ok (.ineg, 1) := by decide +kernel
theorem dX1_addLoan_78 : decode cX1_addLoan 78 = .ok (.invokevirtual 83, 3) := by decide +kernel
theorem dX1_addLoan_81 : decode cX1_addLoan 81 = .ok (.aload_n 0, 1) := by decide +kernel
theorem dX1_addLoan_82 : decode cX1_addLoan 82 = .ok (.getfield 19, 3) := by decide +kernel
theorem dX1_addLoan_85 : decode cX1_addLoan 85 = .ok (.iload_n 2, 1) := by decide +kernel
theorem dX1_addLoan_86 : decode cX1_addLoan 86 = .ok (.aaload, 1) := by decide +kernel
theorem dX1_addLoan_87 : decode cX1_addLoan 87 = .ok (.iload_n 3, 1) := by decide +kernel
theorem dX1_addLoan_88 : decode cX1_addLoan 88 = .ok (.iload 4, 2) := by decide +kernel
theorem dX1_addLoan_90 : decode cX1_addLoan 90 = .ok (.invokevirtual 83, 3) := by decide +kernel
theorem dX1_addLoan_93 : decode cX1_addLoan 93 = .ok (.return_, 1) := by decide +kernel
theorem dX1_canGiveBack_0 : decode cX1_canGiveBack 0 = .ok (.aload_n 0, 1) := by decide +kernel
theorem dX1_canGiveBack_1 : decode cX1_canGiveBack 1 = .ok (.getfield 19, 3) := by decide +kernel
theorem dX1_canGiveBack_4 : decode cX1_canGiveBack 4 = .ok (.aload_n 1, 1) := by decide +kernel
theorem dX1_canGiveBack_5 : decode cX1_canGiveBack 5 = .ok (.getfield 69, 3) := by decide +kernel
theorem dX1_canGiveBack_8 : decode cX1_canGiveBack 8 = .ok (.aaload, 1) := by decide +kernel
theorem dX1_canGiveBack_9 : decode cX1_canGiveBack 9 = .ok (.getfield 59, 3) := by decide +kernel
theorem dX1_canGiveBack_12 : decode cX1_canGiveBack 12 = .ok (.aload_n 1, 1) := by decide +kernel
theorem dX1_canGiveBack_13 : decode cX1_canGiveBack 13 = .ok (.getfield 77, 3) := by decide +kernel
theorem dX1_canGiveBack_16 : decode cX1_canGiveBack 16 = .ok (.iaload, 1) := by decide +kernel
theorem dX1_canGiveBack_17 : decode cX1_canGiveBack 17 = .ok (.aload_n 1, 1) := by decide +kernel
theorem dX1_canGiveBack_18 : decode cX1_canGiveBack 18 = .ok (.getfield 75, 3) := by decide +kernel
theorem dX1_canGiveBack_21 : decode cX1_canGiveBack 21 = .ok (.if_icmp .lt 7, 3) := by decide +kernel
theorem dX1_canGiveBack_24 : decode cX1_canGiveBack 24 = .ok (.iconst 1, 1) := by decide +kernel
theorem dX1_canGiveBack_25 : decode cX1_canGiveBack 25 = .ok (.goto 4, 3) := by decide +kernel
theorem dX1_canGiveBack_28 : decode cX1_canGiveBack 28 = .ok (.iconst 0, 1) := by decide +kernel
theorem dX1_canGiveBack_29 : decode cX1_canGiveBack 29 = .ok (.ireturn, 1) := by decide +kernel
theorem dX1_giveBack_0 : decode cX1_giveBack 0 = .ok (.aload_n 0, 1) := by decide +kernel
theorem dX1_giveBack_1 : decode cX1_giveBack 1 = .ok (.getfield 25, 3) := by decide +kernel
theorem dX1_giveBack_4 : decode cX1_giveBack 4 = .ok (.iload_n 1, 1) := by decide +kernel
theorem dX1_giveBack_5 : decode cX1_giveBack 5 = .ok (.aaload, 1) := by decide +kernel
theorem dX1_giveBack_6 : decode cX1_giveBack 6 = .ok (.astore_n 3, 1) := by decide +kernel
theorem dX1_giveBack_7 : decode cX1_giveBack 7 = .ok (.aload_n 2, 1) := by decide +kernel
theorem dX1_giveBack_8 : decode cX1_giveBack 8 = .ok (.aload_n 3, 1) := by decide +kernel
theorem dX1_giveBack_9 : decode cX1_giveBack 9 = .ok (.getfield 75, 3) := by decide +kernel
theorem dX1_giveBack_12 : decode cX1_giveBack 12 = .ok (.aload_n 0, 1) := by decide +kernel
theorem dX1_giveBack_13 : decode cX1_giveBack 13 = .ok (.getfield 11, 3) := by decide +kernel
theorem dX1_giveBack_16 : decode cX1_giveBack 16 = .ok (.aload_n 3, 1) := by decide +kernel
theorem dX1_giveBack_17 : decode cX1_giveBack 17 = .ok (.getfield 77, 3) := by decide +kernel
theorem dX1_giveBack_20 : decode cX1_giveBack 20 = .ok (.aaload, 1) := by decide +kernel
theorem dX1_giveBack_21 : decode cX1_giveBack 21 = .ok (.getfield 87, 3) := by decide +kernel
theorem dX1_giveBack_24 : decode cX1_giveBack 24 = .ok (.aload_n 0, 1) := by decide +kernel
theorem dX1_giveBack_25 : decode cX1_giveBack 25 = .ok (.getfield 42, 3) := by decide +kernel
theorem dX1_giveBack_28 : decode cX1_giveBack 28 = .ok (.invokevirtual 90, 3) := by decide +kernel
theorem dX1_giveBack_31 : decode cX1_giveBack 31 = .ok (.istore 4, 2) := by decide +kernel
theorem dX1_giveBack_33 : decode cX1_giveBack 33 = .ok (.aload_n 0, 1) := by decide +kernel
theorem dX1_giveBack_34 : decode cX1_giveBack 34 = .ok (.getfield 19, 3) := by decide +kernel
theorem dX1_giveBack_37 : decode cX1_giveBack 37 = .ok (.aload_n 3, 1) := by decide +kernel
theorem dX1_giveBack_38 : decode cX1_giveBack 38 = .ok (.getfield 69, 3) := by decide +kernel
theorem dX1_giveBack_41 : decode cX1_giveBack 41 = .ok (.aaload, 1) := by decide +kernel
theorem dX1_giveBack_42 : decode cX1_giveBack 42 = .ok (.aload_n 3, 1) := by decide +kernel
theorem dX1_giveBack_43 : decode cX1_giveBack 43 = .ok (.getfield 77, 3) := by decide +kernel
theorem dX1_giveBack_46 : decode cX1_giveBack 46 = .ok (.aload_n 3, 1) := by decide +kernel
theorem dX1_giveBack_47 : decode cX1_giveBack 47 = .ok (.getfield 75, 3) := by decide +kernel
theorem dX1_giveBack_50 : decode cX1_giveBack 50 = .ok (.ineg, 1) := by decide +kernel
theorem dX1_giveBack_51 : decode cX1_giveBack 51 = .ok (.invokevirtual 83, 3) := by decide +kernel
theorem dX1_giveBack_54 : decode cX1_giveBack 54 = .ok (.aload_n 0, 1) := by decide +kernel
theorem dX1_giveBack_55 : decode cX1_giveBack 55 = .ok (.getfield 19, 3) := by decide +kernel
theorem dX1_giveBack_58 : decode cX1_giveBack 58 = .ok (.aload_n 3, 1) := by decide +kernel
theorem dX1_giveBack_59 : decode cX1_giveBack 59 = .ok (.getfield 72, 3) := by decide +kernel
theorem dX1_giveBack_62 : decode cX1_giveBack 62 = .ok (.aaload, 1) := by decide +kernel
theorem dX1_giveBack_63 : decode cX1_giveBack 63 = .ok (.aload_n 3, 1) := by decide +kernel
theorem dX1_giveBack_64 : decode cX1_giveBack 64 = .ok (.getfield 77, 3) := by decide +kernel
theorem dX1_giveBack_67 : decode cX1_giveBack 67 = .ok (.iload 4, 2) := by decide +kernel
theorem dX1_giveBack_69 : decode cX1_giveBack 69 = .ok (.invokevirtual 83, 3) := by decide +kernel
theorem dX1_giveBack_72 : decode cX1_giveBack 72 = .ok (.aload_n 0, 1) := by decide +kernel
theorem dX1_giveBack_73 : decode cX1_giveBack 73 = .ok (.iload_n 1, 1) := by decide +kernel
theorem dX1_giveBack_74 : decode cX1_giveBack 74 = .ok (.invokevirtual 96, 3) := by decide +kernel
theorem dX1_giveBack_77 : decode cX1_giveBack 77 = .ok (.iload 4, 2) := by decide +kernel
theorem dX1_giveBack_79 : decode cX1_giveBack 79 = .ok (.ireturn, 1) := by decide +kernel
theorem dX1_breakOff_0 : decode cX1_breakOff 0 = .ok (.aload_n 0, 1) := by decide +kernel
theorem dX1_breakOff_1 : decode cX1_breakOff 1 = .ok (.getfield 19, 3) := by decide +kernel
theorem dX1_breakOff_4 : decode cX1_breakOff 4 = .ok (.aload_n 0, 1) := by decide +kernel
theorem dX1_breakOff_5 : decode cX1_breakOff 5 = .ok (.getfield 25, 3) := by decide +kernel
theorem dX1_breakOff_8 : decode cX1_breakOff 8 = .ok (.iload_n 1, 1) := by decide +kernel
theorem dX1_breakOff_9 : decode cX1_breakOff 9 = .ok (.aaload, 1) := by decide +kernel
theorem dX1_breakOff_10 : decode cX1_breakOff 10 = .ok (.getfield 69, 3) := by decide +kernel
theorem dX1_breakOff_13 : decode cX1_breakOff 13 = .ok (.aaload, 1) := by decide +kernel
theorem dX1_breakOff_14 : decode cX1_breakOff 14 = .ok (.astore_n 2, 1) := by decide +kernel
theorem dX1_breakOff_15 : decode cX1_breakOff 15 = .ok (.aload_n 2, 1) := by decide +kernel
theorem dX1_breakOff_16 : decode cX1_breakOff 16 = .ok (.aload_n 2, 1) := by decide +kernel
theorem dX1_breakOff_17 : decode cX1_breakOff 17 = .ok (.getfield 66, 3) := by decide +kernel
theorem dX1_breakOff_20 : decode cX1_breakOff 20 = .ok (.iconst 1, 1) := by decide +kernel
theorem dX1_breakOff_21 : decode cX1_breakOff 21 = .ok (.iadd, 1) := by decide +kernel
theorem dX1_breakOff_22 : decode cX1_breakOff 22 = .ok (.bipush 99, 2) := by decide +kernel
theorem dX1_breakOff_24 : decode cX1_breakOff 24 = .ok (.invokestatic 100, 3) := by decide +kernel
theorem dX1_breakOff_27 : decode cX1_breakOff 27 = .ok (.putfield 66, 3) := by decide +kernel
theorem dX1_breakOff_30 : decode cX1_breakOff 30 = .ok (.aload_n 0, 1) := by decide +kernel
theorem dX1_breakOff_31 : decode cX1_breakOff 31 = .ok (.iload_n 1, 1) := by decide +kernel
theorem dX1_breakOff_32 : decode cX1_breakOff 32 = .ok (.invokevirtual 96, 3) := by decide +kernel
theorem dX1_breakOff_35 : decode cX1_breakOff 35 = .ok (.return_, 1) := by decide +kernel
theorem dX1_drop_0 : decode cX1_drop 0 = .ok (.aload_n 0, 1) := by decide +kernel
theorem dX1_drop_1 : decode cX1_drop 1 = .ok (.getfield 25, 3) := by decide +kernel
theorem dX1_drop_4 : decode cX1_drop 4 = .ok (.iload_n 1, 1) := by decide +kernel
theorem dX1_drop_5 : decode cX1_drop 5 = .ok (.aaload, 1) := by decide +kernel
theorem dX1_drop_6 : decode cX1_drop 6 = .ok (.astore_n 2, 1) := by decide +kernel
theorem dX1_drop_7 : decode cX1_drop 7 = .ok (.iload_n 1, 1) := by decide +kernel
theorem dX1_drop_8 : decode cX1_drop 8 = .ok (.iconst 1, 1) := by decide +kernel
theorem dX1_drop_9 : decode cX1_drop 9 = .ok (.iadd, 1) := by decide +kernel
theorem dX1_drop_10 : decode cX1_drop 10 = .ok (.istore_n 3, 1) := by decide +kernel
theorem dX1_drop_11 : decode cX1_drop 11 = .ok (.iload_n 3, 1) := by decide +kernel
theorem dX1_drop_12 : decode cX1_drop 12 = .ok (.aload_n 0, 1) := by decide +kernel
theorem dX1_drop_13 : decode cX1_drop 13 = .ok (.getfield 39, 3) := by decide +kernel
theorem dX1_drop_16 : decode cX1_drop 16 = .ok (.if_icmp .ge 23, 3) := by decide +kernel
theorem dX1_drop_19 : decode cX1_drop 19 = .ok (.aload_n 0, 1) := by decide +kernel
theorem dX1_drop_20 : decode cX1_drop 20 = .ok (.getfield 25, 3) := by decide +kernel
theorem dX1_drop_23 : decode cX1_drop 23 = .ok (.iload_n 3, 1) := by decide +kernel
theorem dX1_drop_24 : decode cX1_drop 24 = .ok (.iconst 1, 1) := by decide +kernel
theorem dX1_drop_25 : decode cX1_drop 25 = .ok (.isub, 1) := by decide +kernel
theorem dX1_drop_26 : decode cX1_drop 26 = .ok (.aload_n 0, 1) := by decide +kernel
theorem dX1_drop_27 : decode cX1_drop 27 = .ok (.getfield 25, 3) := by decide +kernel
theorem dX1_drop_30 : decode cX1_drop 30 = .ok (.iload_n 3, 1) := by decide +kernel
theorem dX1_drop_31 : decode cX1_drop 31 = .ok (.aaload, 1) := by decide +kernel
theorem dX1_drop_32 : decode cX1_drop 32 = .ok (.aastore, 1) := by decide +kernel
theorem dX1_drop_33 : decode cX1_drop 33 = .ok (.iinc 3 1, 3) := by decide +kernel
theorem dX1_drop_36 : decode cX1_drop 36 = .ok (.goto (-25), 3) := by decide +kernel
theorem dX1_drop_39 : decode cX1_drop 39 = .ok (.aload_n 0, 1) := by decide +kernel
theorem dX1_drop_40 : decode cX1_drop 40 = .ok (.dup, 1) := by decide +kernel
theorem dX1_drop_41 : decode cX1_drop 41 = .ok (.getfield 39, 3) := by decide +kernel
theorem dX1_drop_44 : decode cX1_drop 44 = .ok (.iconst 1, 1) := by decide +kernel
theorem dX1_drop_45 : decode cX1_drop 45 = .ok (.isub, 1) := by decide +kernel
theorem dX1_drop_46 : decode cX1_drop 46 = .ok (.putfield 39, 3) := by decide +kernel
theorem dX1_drop_49 : decode cX1_drop 49 = .ok (.aload_n 0, 1) := by decide +kernel
theorem dX1_drop_50 : decode cX1_drop 50 = .ok (.getfield 25, 3) := by decide +kernel
theorem dX1_drop_53 : decode cX1_drop 53 = .ok (.aload_n 0, 1) := by decide +kernel
theorem dX1_drop_54 : decode cX1_drop 54 = .ok (.getfield 39, 3) := by decide +kernel
theorem dX1_drop_57 : decode cX1_drop 57 = .ok (.aload_n 2, 1) := by decide +kernel
theorem dX1_drop_58 : decode cX1_drop 58 = .ok (.aastore, 1) := by decide +kernel
theorem dX1_drop_59 : decode cX1_drop 59 = .ok (.return_, 1) := by decide +kernel
theorem dX1_passDays_0 : decode cX1_passDays 0 = .ok (.iconst 0, 1) := by decide +kernel
theorem dX1_passDays_1 : decode cX1_passDays 1 = .ok (.istore_n 3, 1) := by decide +kernel
theorem dX1_passDays_2 : decode cX1_passDays 2 = .ok (.iload_n 3, 1) := by decide +kernel
theorem dX1_passDays_3 : decode cX1_passDays 3 = .ok (.iload_n 1, 1) := by decide +kernel
theorem dX1_passDays_4 : decode cX1_passDays 4 = .ok (.if_icmp .ge 28, 3) := by decide +kernel
theorem dX1_passDays_7 : decode cX1_passDays 7 = .ok (.aload_n 0, 1) := by decide +kernel
theorem dX1_passDays_8 : decode cX1_passDays 8 = .ok (.dup, 1) := by decide +kernel
theorem dX1_passDays_9 : decode cX1_passDays 9 = .ok (.getfield 42, 3) := by decide +kernel
theorem dX1_passDays_12 : decode cX1_passDays 12 = .ok (.iconst 1, 1) := by decide +kernel
theorem dX1_passDays_13 : decode cX1_passDays 13 = .ok (.iadd, 1) := by decide +kernel
theorem dX1_passDays_14 : decode cX1_passDays 14 = .ok (.putfield 42, 3) := by decide +kernel
theorem dX1_passDays_17 : decode cX1_passDays 17 = .ok (.aload_n 0, 1) := by decide +kernel
theorem dX1_passDays_18 : decode cX1_passDays 18 = .ok (.invokevirtual 104, 3) := by decide +kernel
theorem dX1_passDays_21 : decode cX1_passDays 21 = .ok (.aload_n 0, 1) := by decide +kernel
theorem dX1_passDays_22 : decode cX1_passDays 22 = .ok (.aload_n 2, 1) := by decide +kernel
theorem dX1_passDays_23 : decode cX1_passDays 23 = .ok (.invokevirtual 107, 3) := by decide +kernel
theorem dX1_passDays_26 : decode cX1_passDays 26 = .ok (.iinc 3 1, 3) := by decide +kernel
theorem dX1_passDays_29 : decode cX1_passDays 29 = .ok (.goto (-27), 3) := by decide +kernel
theorem dX1_passDays_32 : decode cX1_passDays 32 = .ok (.return_, 1) := by decide +kernel
theorem dX1_growHedges_0 : decode cX1_growHedges 0 = .ok (.iconst 0, 1) := by decide +kernel
theorem dX1_growHedges_1 : decode cX1_growHedges 1 = .ok (.istore_n 1, 1) := by decide +kernel
theorem dX1_growHedges_2 : decode cX1_growHedges 2 = .ok (.iload_n 1, 1) := by decide +kernel
theorem dX1_growHedges_3 : decode cX1_growHedges 3 = .ok (.aload_n 0, 1) := by decide +kernel
theorem dX1_growHedges_4 : decode cX1_growHedges 4 = .ok (.getfield 32, 3) := by decide +kernel
theorem dX1_growHedges_7 : decode cX1_growHedges 7 = .ok (.if_icmp .ge 44, 3) := by decide +kernel
theorem dX1_growHedges_10 : decode cX1_growHedges 10 = .ok (.aload_n 0, 1) := by decide +kernel
theorem dX1_growHedges_11 : decode cX1_growHedges 11 = .ok (.getfield 11, 3) := by decide +kernel
theorem dX1_growHedges_14 : decode cX1_growHedges 14 = .ok (.iload_n 1, 1) := by decide +kernel
theorem dX1_growHedges_15 : decode cX1_growHedges 15 = .ok (.aaload, 1) := by decide +kernel
theorem dX1_growHedges_16 : decode cX1_growHedges 16 = .ok (.astore_n 2, 1) := by decide +kernel
theorem dX1_growHedges_17 : decode cX1_growHedges 17 = .ok (.aload_n 0, 1) := by decide +kernel
theorem dX1_growHedges_18 : decode cX1_growHedges 18 = .ok (.aload_n 2, 1) := by decide +kernel
theorem dX1_growHedges_19 : decode cX1_growHedges 19 = .ok (.getfield 111, 3) := by decide +kernel
theorem dX1_growHedges_22 : decode cX1_growHedges 22 = .ok (.invokevirtual 114, 3) := by decide +kernel
theorem dX1_growHedges_25 : decode cX1_growHedges 25 = .ok (.ifCond .eq 20, 3) := by decide +kernel
theorem dX1_growHedges_28 : decode cX1_growHedges 28 = .ok (.aload_n 0, 1) := by decide +kernel
theorem dX1_growHedges_29 : decode cX1_growHedges 29 = .ok (.getfield 19, 3) := by decide +kernel
theorem dX1_growHedges_32 : decode cX1_growHedges 32 = .ok (.aload_n 2, 1) := by decide +kernel
theorem dX1_growHedges_33 : decode cX1_growHedges 33 = .ok (.getfield 111, 3) := by decide +kernel
theorem dX1_growHedges_36 : decode cX1_growHedges 36 = .ok (.aaload, 1) := by decide +kernel
theorem dX1_growHedges_37 : decode cX1_growHedges 37 = .ok (.iload_n 1, 1) := by decide +kernel
theorem dX1_growHedges_38 : decode cX1_growHedges 38 = .ok (.aload_n 2, 1) := by decide +kernel
theorem dX1_growHedges_39 : decode cX1_growHedges 39 = .ok (.getfield 118, 3) := by decide +kernel
theorem dX1_growHedges_42 : decode cX1_growHedges 42 = .ok (.invokevirtual 83, 3) := by decide +kernel
theorem dX1_growHedges_45 : decode cX1_growHedges 45 = .ok (.iinc 1 1, 3) := by decide +kernel
theorem dX1_growHedges_48 : decode cX1_growHedges 48 = .ok (.goto (-46), 3) := by decide +kernel
theorem dX1_growHedges_51 : decode cX1_growHedges 51 = .ok (.return_, 1) := by decide +kernel
theorem dX1_settleLoans_0 : decode cX1_settleLoans 0 = .ok (.aload_n 0, 1) := by decide +kernel
theorem dX1_settleLoans_1 : decode cX1_settleLoans 1 = .ok (.getfield 39, 3) := by decide +kernel
theorem dX1_settleLoans_4 : decode cX1_settleLoans 4 = .ok (.istore_n 2, 1) := by decide +kernel
theorem dX1_settleLoans_5 : decode cX1_settleLoans 5 = .ok (.iconst 0, 1) := by decide +kernel
theorem dX1_settleLoans_6 : decode cX1_settleLoans 6 = .ok (.istore_n 3, 1) := by decide +kernel
theorem dX1_settleLoans_7 : decode cX1_settleLoans 7 = .ok (.iconst 0, 1) := by decide +kernel
theorem dX1_settleLoans_8 : decode cX1_settleLoans 8 = .ok (.istore 4, 2) := by decide +kernel
theorem dX1_settleLoans_10 : decode cX1_settleLoans 10 = .ok (.iload 4, 2) := by decide +kernel
theorem dX1_settleLoans_12 : decode cX1_settleLoans 12 = .ok (.iload_n 2, 1) := by decide +kernel
theorem dX1_settleLoans_13 : decode cX1_settleLoans 13 = .ok (.if_icmp .ge 67, 3) := by decide +kernel
theorem dX1_settleLoans_16 : decode cX1_settleLoans 16 = .ok (.aload_n 0, 1) := by decide +kernel
theorem dX1_settleLoans_17 : decode cX1_settleLoans 17 = .ok (.iload_n 3, 1) := by decide +kernel
theorem dX1_settleLoans_18 : decode cX1_settleLoans 18 = .ok (.invokevirtual 121, 3) := by decide +kernel
theorem dX1_settleLoans_21 : decode cX1_settleLoans 21 = .ok (.ifCond .eq 59, 3) := by decide +kernel
theorem dX1_settleLoans_24 : decode cX1_settleLoans 24 = .ok (.aload_n 0, 1) := by decide +kernel
theorem dX1_settleLoans_25 : decode cX1_settleLoans 25 = .ok (.getfield 25, 3) := by decide +kernel
theorem dX1_settleLoans_28 : decode cX1_settleLoans 28 = .ok (.iload_n 3, 1) := by decide +kernel
theorem dX1_settleLoans_29 : decode cX1_settleLoans 29 = .ok (.aaload, 1) := by decide +kernel
theorem dX1_settleLoans_30 : decode cX1_settleLoans 30 = .ok (.getfield 80, 3) := by decide +kernel
theorem dX1_settleLoans_33 : decode cX1_settleLoans 33 = .ok (.aload_n 0, 1) := by decide +kernel
theorem dX1_settleLoans_34 : decode cX1_settleLoans 34 = .ok (.getfield 42, 3) := by decide +kernel
theorem dX1_settleLoans_37 : decode cX1_settleLoans 37 = .ok (.if_icmp .eq 9, 3) := by decide +kernel
theorem dX1_settleLoans_40 : decode cX1_settleLoans 40 = .ok (.iinc 3 1, 3) := by decide +kernel
theorem dX1_settleLoans_43 : decode cX1_settleLoans 43 = .ok (.goto 31, 3) := by decide +kernel
theorem dX1_settleLoans_46 : decode cX1_settleLoans 46 = .ok (.aload_n 0, 1) := by decide +kernel
theorem dX1_settleLoans_47 : decode cX1_settleLoans 47 = .ok (.aload_n 0, 1) := by decide +kernel
theorem dX1_settleLoans_48 : decode cX1_settleLoans 48 = .ok (.getfield 25, 3) := by decide +kernel
theorem dX1_settleLoans_51 : decode cX1_settleLoans 51 = .ok (.iload_n 3, 1) := by decide +kernel
theorem dX1_settleLoans_52 : decode cX1_settleLoans 52 = .ok (.aaload, 1) := by decide +kernel
theorem dX1_settleLoans_53 : decode cX1_settleLoans 53 = .ok (.invokevirtual 124, 3) := by decide +kernel
theorem dX1_settleLoans_56 : decode cX1_settleLoans 56 = .ok (.ifCond .eq 13, 3) := by decide +kernel
theorem dX1_settleLoans_59 : decode cX1_settleLoans 59 = .ok (.aload_n 0, 1) := by decide +kernel
theorem dX1_settleLoans_60 : decode cX1_settleLoans 60 = .ok (.iload_n 3, 1) := by decide +kernel
theorem dX1_settleLoans_61 : decode cX1_settleLoans 61 = .ok (.aload_n 1, 1) := by decide +kernel
theorem dX1_settleLoans_62 : decode cX1_settleLoans 62 = .ok (.invokevirtual 128, 3) := by decide +kernel
theorem dX1_settleLoans_65 : decode cX1_settleLoans 65 = .ok (.pop, 1) := by decide +kernel
theorem dX1_settleLoans_66 : decode cX1_settleLoans 66 = .ok (.goto 8, 3) := by decide +kernel
theorem dX1_settleLoans_69 : decode cX1_settleLoans 69 = .ok (.aload_n 0, 1) := by decide +kernel
theorem dX1_settleLoans_70 : decode cX1_settleLoans 70 = .ok (.iload_n 3, 1) := by decide +kernel
theorem dX1_settleLoans_71 : decode cX1_settleLoans 71 = .ok (.invokevirtual 132, 3) := by decide +kernel
theorem dX1_settleLoans_74 : decode cX1_settleLoans 74 = .ok (.iinc 4 1, 3) := by decide +kernel
theorem dX1_settleLoans_77 : decode cX1_settleLoans 77 = .ok (.goto (-67), 3) := by decide +kernel
theorem dX1_settleLoans_80 : decode cX1_settleLoans 80 = .ok (.return_, 1) := by decide +kernel
theorem dX2_init_0 : decode cX2_init 0 = .ok (.aload_n 0, 1) := by decide +kernel
theorem dX2_init_1 : decode cX2_init 1 = .ok (.invokespecial 3, 3) := by decide +kernel
theorem dX2_init_4 : decode cX2_init 4 = .ok (.aload_n 0, 1) := by decide +kernel
theorem dX2_init_5 : decode cX2_init 5 = .ok (.bipush 50, 2) := by decide +kernel
theorem dX2_init_7 : decode cX2_init 7 = .ok (.newarray .int, 2) := by decide +kernel
theorem dX2_init_9 : decode cX2_init 9 = .ok (.putfield 9, 3) := by decide +kernel
theorem dX2_init_12 : decode cX2_init 12 = .ok (.aload_n 0, 1) := by decide +kernel
theorem dX2_init_13 : decode cX2_init 13 = .ok (.bipush 50, 2) := by decide +kernel
theorem dX2_init_15 : decode cX2_init 15 = .ok (.newarray .int, 2) := by decide +kernel
theorem dX2_init_17 : decode cX2_init 17 = .ok (.putfield 15, 3) := by decide +kernel
theorem dX2_init_20 : decode cX2_init 20 = .ok (.aload_n 0, 1) := by decide +kernel
theorem dX2_init_21 : decode cX2_init 21 = .ok (.iload_n 1, 1) := by decide +kernel
theorem dX2_init_22 : decode cX2_init 22 = .ok (.putfield 18, 3) := by decide +kernel
theorem dX2_init_25 : decode cX2_init 25 = .ok (.return_, 1) := by decide +kernel
theorem dX2_take_0 : decode cX2_take 0 = .ok (.aload_n 0, 1) := by decide +kernel
theorem dX2_take_1 : decode cX2_take 1 = .ok (.iload_n 2, 1) := by decide +kernel
theorem dX2_take_2 : decode cX2_take 2 = .ok (.bipush 50, 2) := by decide +kernel
theorem dX2_take_4 : decode cX2_take 4 = .ok (.invokestatic 22, 3) := by decide +kernel
theorem dX2_take_7 : decode cX2_take 7 = .ok (.putfield 26, 3) := by decide +kernel
theorem dX2_take_10 : decode cX2_take 10 = .ok (.aload_n 1, 1) := by decide +kernel
theorem dX2_take_11 : decode cX2_take 11 = .ok (.iconst 0, 1) := by decide +kernel
theorem dX2_take_12 : decode cX2_take 12 = .ok (.aload_n 0, 1) := by decide +kernel
theorem dX2_take_13 : decode cX2_take 13 = .ok (.getfield 9, 3) := by decide +kernel
theorem dX2_take_16 : decode cX2_take 16 = .ok (.iconst 0, 1) := by decide +kernel
theorem dX2_take_17 : decode cX2_take 17 = .ok (.aload_n 0, 1) := by decide +kernel
theorem dX2_take_18 : decode cX2_take 18 = .ok (.getfield 26, 3) := by decide +kernel
theorem dX2_take_21 : decode cX2_take 21 = .ok (.invokestatic 29, 3) := by decide +kernel
theorem dX2_take_24 : decode cX2_take 24 = .ok (.return_, 1) := by decide +kernel
theorem dX2_gives_0 : decode cX2_gives 0 = .ok (.aload_n 0, 1) := by decide +kernel
theorem dX2_gives_1 : decode cX2_gives 1 = .ok (.getfield 26, 3) := by decide +kernel
theorem dX2_gives_4 : decode cX2_gives 4 = .ok (.ifCond .ne 12, 3) := by decide +kernel
theorem dX2_gives_7 : decode cX2_gives 7 = .ok (.aload_n 0, 1) := by decide +kernel
theorem dX2_gives_8 : decode cX2_gives 8 = .ok (.iload_n 1, 1) := by decide +kernel
theorem dX2_gives_9 : decode cX2_gives 9 = .ok (.iload_n 3, 1) := by decide +kernel
theorem dX2_gives_10 : decode cX2_gives 10 = .ok (.invokevirtual 35, 3) := by decide +kernel
theorem dX2_gives_13 : decode cX2_gives 13 = .ok (.goto 10, 3) := by decide +kernel
theorem dX2_gives_16 : decode cX2_gives 16 = .ok (.aload_n 0, 1) := by decide +kernel
theorem dX2_gives_17 : decode cX2_gives 17 = .ok (.iload_n 1, 1) := by decide +kernel
theorem dX2_gives_18 : decode cX2_gives 18 = .ok (.iload_n 2, 1) := by decide +kernel
theorem dX2_gives_19 : decode cX2_gives 19 = .ok (.iload_n 3, 1) := by decide +kernel
theorem dX2_gives_20 : decode cX2_gives 20 = .ok (.invokevirtual 38, 3) := by decide +kernel
theorem dX2_gives_23 : decode cX2_gives 23 = .ok (.bipush 99, 2) := by decide +kernel
theorem dX2_gives_25 : decode cX2_gives 25 = .ok (.invokestatic 22, 3) := by decide +kernel
theorem dX2_gives_28 : decode cX2_gives 28 = .ok (.ireturn, 1) := by decide +kernel
theorem dX2_withoutText_0 : decode cX2_withoutText 0 = .ok (.aload_n 0, 1) := by decide +kernel
theorem dX2_withoutText_1 : decode cX2_withoutText 1 = .ok (.getfield 18, 3) := by decide +kernel
theorem dX2_withoutText_4 : decode cX2_withoutText 4 = .ok (.ifCond .ne 9, 3) := by decide +kernel
theorem dX2_withoutText_7 : decode cX2_withoutText 7 = .ok (.iload_n 1, 1) := by decide +kernel
theorem dX2_withoutText_8 : decode cX2_withoutText 8 = .ok (.iload_n 2, 1) := by decide +kernel
theorem dX2_withoutText_9 : decode cX2_withoutText 9 = .ok (.iadd, 1) := by decide +kernel
theorem dX2_withoutText_10 : decode cX2_withoutText 10 = .ok (.goto 8, 3) := by decide +kernel
theorem dX2_withoutText_13 : decode cX2_withoutText 13 = .ok (.iload_n 1, 1) := by decide +kernel
theorem dX2_withoutText_14 : decode cX2_withoutText 14 = .ok (.iload_n 1, 1) := by decide +kernel
theorem dX2_withoutText_15 : decode cX2_withoutText 15 = .ok (.iconst 4, 1) := by decide +kernel
theorem dX2_withoutText_16 : decode cX2_withoutText 16 = .ok (.idiv, 1) := by decide +kernel
theorem dX2_withoutText_17 : decode cX2_withoutText 17 = .ok (.isub, 1) := by decide +kernel
theorem dX2_withoutText_18 : decode cX2_withoutText 18 = .ok (.ireturn, 1) := by decide +kernel
theorem dX2_worth_0 : decode cX2_worth 0 = .ok (.iconst 0, 1) := by decide +kernel
theorem dX2_worth_1 : decode cX2_worth 1 = .ok (.istore 4, 2) := by decide +kernel
theorem dX2_worth_3 : decode cX2_worth 3 = .ok (.iconst 0, 1) := by decide +kernel
theorem dX2_worth_4 : decode cX2_worth 4 = .ok (.istore 5, 2) := by decide +kernel
theorem dX2_worth_6 : decode cX2_worth 6 = .ok (.iload 5, 2) := by decide +kernel
theorem dX2_worth_8 : decode cX2_worth 8 = .ok (.aload_n 0, 1) := by decide +kernel
theorem dX2_worth_9 : decode cX2_worth 9 = .ok (.getfield 26, 3) := by decide +kernel
theorem dX2_worth_12 : decode cX2_worth 12 = .ok (.if_icmp .ge 158, 3) := by decide +kernel
theorem dX2_worth_15 : decode cX2_worth 15 = .ok (.aload_n 0, 1) := by decide +kernel
theorem dX2_worth_16 : decode cX2_worth 16 = .ok (.getfield 9, 3) := by decide +kernel
theorem dX2_worth_19 : decode cX2_worth 19 = .ok (.iload 5, 2) := by decide +kernel
theorem dX2_worth_21 : decode cX2_worth 21 = .ok (.iaload, 1) := by decide +kernel
theorem dX2_worth_22 : decode cX2_worth 22 = .ok (.istore 6, 2) := by decide +kernel
theorem dX2_worth_24 : decode cX2_worth 24 = .ok (.iload 6, 2) := by decide +kernel
theorem dX2_worth_26 : decode cX2_worth 26 = .ok (.bipush (-3), 2) := by decide +kernel
theorem dX2_worth_28 : decode cX2_worth 28 = .ok (.if_icmp .lt 55, 3) := by decide +kernel
theorem dX2_worth_31 : decode cX2_worth 31 = .ok (.iload 4, 2) := by decide +kernel
theorem dX2_worth_33 : decode cX2_worth 33 = .ok (.bipush 50, 2) := by decide +kernel
theorem dX2_worth_35 : decode cX2_worth 35 = .ok (.if_icmp .ge 129, 3) := by decide +kernel
theorem dX2_worth_38 : decode cX2_worth 38 = .ok (.aload_n 0, 1) := by decide +kernel
theorem dX2_worth_39 : decode cX2_worth 39 = .ok (.getfield 15, 3) := by decide +kernel
theorem dX2_worth_42 : decode cX2_worth 42 = .ok (.iload 4, 2) := by decide +kernel
theorem dX2_worth_44 : decode cX2_worth 44 = .ok (.iload 6, 2) := by decide +kernel
theorem dX2_worth_46 : decode cX2_worth 46 = .ok (.ifCond .lt 8, 3) := by decide +kernel
theorem dX2_worth_49 : decode cX2_worth 49 = .ok (.iload 6, 2) := by decide +kernel
theorem dX2_worth_51 : decode cX2_worth 51 = .ok (.goto 25, 3) := by decide +kernel
theorem dX2_worth_54 : decode cX2_worth 54 = .ok (.iload 6, 2) := by decide +kernel
theorem dX2_worth_56 : decode cX2_worth 56 = .ok (.iconst (-1), 1) := by decide +kernel
theorem dX2_worth_57 : decode cX2_worth 57 = .ok (.if_icmp .ne 7, 3) := by decide +kernel
theorem dX2_worth_60 : decode cX2_worth 60 = .ok (.iload_n 1, 1) := by decide +kernel
theorem dX2_worth_61 : decode cX2_worth 61 = .ok (.goto 15, 3) := by decide +kernel
theorem dX2_worth_64 : decode cX2_worth 64 = .ok (.iload 6, 2) := by decide +kernel
theorem dX2_worth_66 : decode cX2_worth 66 = .ok (.bipush (-2), 2) := by decide +kernel
theorem dX2_worth_68 : decode cX2_worth 68 = .ok (.if_icmp .ne 7, 3) := by decide +kernel
theorem dX2_worth_71 : decode cX2_worth 71 = .ok (.iload_n 2, 1) := by decide +kernel
theorem dX2_worth_72 : decode cX2_worth 72 = .ok (.goto 4, 3) := by decide +kernel
theorem dX2_worth_75 : decode cX2_worth 75 = .ok (.iload_n 3, 1) := by decide +kernel
theorem dX2_worth_76 : decode cX2_worth 76 = .ok (.iastore, 1) := by decide +kernel
theorem dX2_worth_77 : decode cX2_worth 77 = .ok (.iinc 4 1, 3) := by decide +kernel
theorem dX2_worth_80 : decode cX2_worth 80 = .ok (.goto 84, 3) := by decide +kernel
theorem dX2_worth_83 : decode cX2_worth 83 = .ok (.iload 6, 2) := by decide +kernel
theorem dX2_worth_85 : decode cX2_worth 85 = .ok (.bipush (-33), 2) := by decide +kernel
theorem dX2_worth_87 : decode cX2_worth 87 = .ok (.if_icmp .ne 37, 3) := by decide +kernel
theorem dX2_worth_90 : decode cX2_worth 90 = .ok (.iload 4, 2) := by decide +kernel
theorem dX2_worth_92 : decode cX2_worth 92 = .ok (.ifCond .le 32, 3) := by decide +kernel
theorem dX2_worth_95 : decode cX2_worth 95 = .ok (.aload_n 0, 1) := by decide +kernel
theorem dX2_worth_96 : decode cX2_worth 96 = .ok (.getfield 15, 3) := by decide +kernel
theorem dX2_worth_99 : decode cX2_worth 99 = .ok (.iload 4, 2) := by decide +kernel
theorem dX2_worth_101 : decode cX2_worth 101 = .ok (.iconst 1, 1) := by decide +kernel
theorem dX2_worth_102 : decode cX2_worth 102 = .ok (.isub, 1) := by decide +kernel
theorem dX2_worth_103 : decode cX2_worth 103 = .ok (.aload_n 0, 1) := by decide +kernel
theorem dX2_worth_104 : decode cX2_worth 104 = .ok (.getfield 15, 3) := by decide +kernel
theorem dX2_worth_107 : decode cX2_worth 107 = .ok (.iload 4, 2) := by decide +kernel
theorem dX2_worth_109 : decode cX2_worth 109 = .ok (.iconst 1, 1) := by decide +kernel
theorem dX2_worth_110 : decode cX2_worth 110 = .ok (.isub, 1) := by decide +kernel
theorem dX2_worth_111 : decode cX2_worth 111 = .ok (.iaload, 1) := by decide +kernel
theorem dX2_worth_112 : decode cX2_worth 112 = .ok (.ifCond .ne 7, 3) := by decide +kernel
theorem dX2_worth_115 : decode cX2_worth 115 = .ok (.iconst 1, 1) := by decide +kernel
theorem dX2_worth_116 : decode cX2_worth 116 = .ok (.goto 4, 3) := by decide +kernel
theorem dX2_worth_119 : decode cX2_worth 119 = .ok (.iconst 0, 1) := by decide +kernel
theorem dX2_worth_120 : decode cX2_worth 120 = .ok (.iastore, 1) := by decide +kernel
theorem dX2_worth_121 : decode cX2_worth 121 = .ok (.goto 43, 3) := by decide +kernel
theorem dX2_worth_124 : decode cX2_worth 124 = .ok (.iload 4, 2) := by decide +kernel
theorem dX2_worth_126 : decode cX2_worth 126 = .ok (.iconst 1, 1) := by decide +kernel
theorem dX2_worth_127 : decode cX2_worth 127 = .ok (.if_icmp .le 37, 3) := by decide +kernel
theorem dX2_worth_130 : decode cX2_worth 130 = .ok (.iinc 4 (-1), 3) := by decide +kernel
theorem dX2_worth_133 : decode cX2_worth 133 = .ok (.aload_n 0, 1) := by decide +kernel
theorem dX2_worth_134 : decode cX2_worth 134 = .ok (.getfield 15, 3) := by decide +kernel
theorem dX2_worth_137 : decode cX2_worth 137 = .ok (.iload 4, 2) := by decide +kernel
theorem dX2_worth_139 : decode cX2_worth 139 = .ok (.iconst 1, 1) := by decide +kernel
theorem dX2_worth_140 : decode cX2_worth 140 = .ok (.isub, 1) := by decide +kernel
theorem dX2_worth_141 : decode cX2_worth 141 = .ok (.iload 6, 2) := by decide +kernel
theorem dX2_worth_143 : decode cX2_worth 143 = .ok (.ineg, 1) := by decide +kernel
theorem dX2_worth_144 : decode cX2_worth 144 = .ok (.aload_n 0, 1) := by decide +kernel
theorem dX2_worth_145 : decode cX2_worth 145 = .ok (.getfield 15, 3) := by decide +kernel
theorem dX2_worth_148 : decode cX2_worth 148 = .ok (.iload 4, 2) := by decide +kernel
theorem dX2_worth_150 : decode cX2_worth 150 = .ok (.iconst 1, 1) := by decide +kernel
theorem dX2_worth_151 : decode cX2_worth 151 = .ok (.isub, 1) := by decide +kernel
theorem dX2_worth_152 : decode cX2_worth 152 = .ok (.iaload, 1) := by decide +kernel
theorem dX2_worth_153 : decode cX2_worth 153 = .ok (.aload_n 0, 1) := by decide +kernel
theorem dX2_worth_154 : decode cX2_worth 154 = .ok (.getfield 15, 3) := by decide +kernel
theorem dX2_worth_157 : decode cX2_worth 157 = .ok (.iload 4, 2) := by decide +kernel
theorem dX2_worth_159 : decode cX2_worth 159 = .ok (.iaload, 1) := by decide +kernel
theorem dX2_worth_160 : decode cX2_worth 160 = .ok (.invokestatic 42, 3) := by decide +kernel
theorem dX2_worth_163 : decode cX2_worth 163 = .ok (.iastore, 1) := by decide +kernel
theorem dX2_worth_164 : decode cX2_worth 164 = .ok (.iinc 5 1, 3) := by decide +kernel
theorem dX2_worth_167 : decode cX2_worth 167 = .ok (.goto (-161), 3) := by decide +kernel
theorem dX2_worth_170 : decode cX2_worth 170 = .ok (.aload_n 0, 1) := by decide +kernel
theorem dX2_worth_171 : decode cX2_worth 171 = .ok (.getfield 15, 3) := by decide +kernel
theorem dX2_worth_174 : decode cX2_worth 174 = .ok (.iconst 0, 1) := by decide +kernel
theorem dX2_worth_175 : decode cX2_worth 175 = .ok (.iaload, 1) := by decide +kernel
theorem dX2_worth_176 : decode cX2_worth 176 = .ok (.ireturn, 1) := by decide +kernel
theorem dX2_joined_0 : decode cX2_joined 0 = .ok (.iload_n 0, 1) := by decide +kernel
theorem dX2_joined_1 : decode cX2_joined 1 = .ok (.lookupswitch 188 #[(37, 176), (38, 105), (42, 160), (43, 152), (45, 156), (47, 164), (60, 119), (61, 130), (62, 141), (124, 91)], 91) := by decide +kernel
theorem dX2_joined_92 : decode cX2_joined 92 = .ok (.iload_n 1, 1) := by decide +kernel
theorem dX2_joined_93 : decode cX2_joined 93 = .ok (.ifCond .ne 7, 3) := by decide +kernel
theorem dX2_joined_96 : decode cX2_joined 96 = .ok (.iload_n 2, 1) := by decide +kernel
theorem dX2_joined_97 : decode cX2_joined 97 = .ok (.ifCond .eq 7, 3) := by decide +kernel
theorem dX2_joined_100 : decode cX2_joined 100 = .ok (.iconst 1, 1) := by decide +kernel
theorem dX2_joined_101 : decode cX2_joined 101 = .ok (.goto 4, 3) := by decide +kernel
theorem dX2_joined_104 : decode cX2_joined 104 = .ok (.iconst 0, 1) := by decide +kernel
theorem dX2_joined_105 : decode cX2_joined 105 = .ok (.ireturn, 1) := by decide +kernel
theorem dX2_joined_106 : decode cX2_joined 106 = .ok (.iload_n 1, 1) := by decide +kernel
theorem dX2_joined_107 : decode cX2_joined 107 = .ok (.ifCond .eq 11, 3) := by decide +kernel
theorem dX2_joined_110 : decode cX2_joined 110 = .ok (.iload_n 2, 1) := by decide +kernel
theorem dX2_joined_111 : decode cX2_joined 111 = .ok (.ifCond .eq 7, 3) := by decide +kernel
theorem dX2_joined_114 : decode cX2_joined 114 = .ok (.iconst 1, 1) := by decide +kernel
theorem dX2_joined_115 : decode cX2_joined 115 = .ok (.goto 4, 3) := by decide +kernel
theorem dX2_joined_118 : decode cX2_joined 118 = .ok (.iconst 0, 1) := by decide +kernel
theorem dX2_joined_119 : decode cX2_joined 119 = .ok (.ireturn, 1) := by decide +kernel
theorem dX2_joined_120 : decode cX2_joined 120 = .ok (.iload_n 1, 1) := by decide +kernel
theorem dX2_joined_121 : decode cX2_joined 121 = .ok (.iload_n 2, 1) := by decide +kernel
theorem dX2_joined_122 : decode cX2_joined 122 = .ok (.if_icmp .ge 7, 3) := by decide +kernel
theorem dX2_joined_125 : decode cX2_joined 125 = .ok (.iconst 1, 1) := by decide +kernel
theorem dX2_joined_126 : decode cX2_joined 126 = .ok (.goto 4, 3) := by decide +kernel
theorem dX2_joined_129 : decode cX2_joined 129 = .ok (.iconst 0, 1) := by decide +kernel
theorem dX2_joined_130 : decode cX2_joined 130 = .ok (.ireturn, 1) := by decide +kernel
theorem dX2_joined_131 : decode cX2_joined 131 = .ok (.iload_n 1, 1) := by decide +kernel
theorem dX2_joined_132 : decode cX2_joined 132 = .ok (.iload_n 2, 1) := by decide +kernel
theorem dX2_joined_133 : decode cX2_joined 133 = .ok (.if_icmp .ne 7, 3) := by decide +kernel
theorem dX2_joined_136 : decode cX2_joined 136 = .ok (.iconst 1, 1) := by decide +kernel
theorem dX2_joined_137 : decode cX2_joined 137 = .ok (.goto 4, 3) := by decide +kernel
theorem dX2_joined_140 : decode cX2_joined 140 = .ok (.iconst 0, 1) := by decide +kernel
theorem dX2_joined_141 : decode cX2_joined 141 = .ok (.ireturn, 1) := by decide +kernel
theorem dX2_joined_142 : decode cX2_joined 142 = .ok (.iload_n 1, 1) := by decide +kernel
theorem dX2_joined_143 : decode cX2_joined 143 = .ok (.iload_n 2, 1) := by decide +kernel
theorem dX2_joined_144 : decode cX2_joined 144 = .ok (.if_icmp .le 7, 3) := by decide +kernel
theorem dX2_joined_147 : decode cX2_joined 147 = .ok (.iconst 1, 1) := by decide +kernel
theorem dX2_joined_148 : decode cX2_joined 148 = .ok (.goto 4, 3) := by decide +kernel
theorem dX2_joined_151 : decode cX2_joined 151 = .ok (.iconst 0, 1) := by decide +kernel
theorem dX2_joined_152 : decode cX2_joined 152 = .ok (.ireturn, 1) := by decide +kernel
theorem dX2_joined_153 : decode cX2_joined 153 = .ok (.iload_n 1, 1) := by decide +kernel
theorem dX2_joined_154 : decode cX2_joined 154 = .ok (.iload_n 2, 1) := by decide +kernel
theorem dX2_joined_155 : decode cX2_joined 155 = .ok (.iadd, 1) := by decide +kernel
theorem dX2_joined_156 : decode cX2_joined 156 = .ok (.ireturn, 1) := by decide +kernel
theorem dX2_joined_157 : decode cX2_joined 157 = .ok (.iload_n 1, 1) := by decide +kernel
theorem dX2_joined_158 : decode cX2_joined 158 = .ok (.iload_n 2, 1) := by decide +kernel
theorem dX2_joined_159 : decode cX2_joined 159 = .ok (.isub, 1) := by decide +kernel
theorem dX2_joined_160 : decode cX2_joined 160 = .ok (.ireturn, 1) := by decide +kernel
theorem dX2_joined_161 : decode cX2_joined 161 = .ok (.iload_n 1, 1) := by decide +kernel
theorem dX2_joined_162 : decode cX2_joined 162 = .ok (.iload_n 2, 1) := by decide +kernel
theorem dX2_joined_163 : decode cX2_joined 163 = .ok (.imul, 1) := by decide +kernel
theorem dX2_joined_164 : decode cX2_joined 164 = .ok (.ireturn, 1) := by decide +kernel
theorem dX2_joined_165 : decode cX2_joined 165 = .ok (.iload_n 2, 1) := by decide +kernel
theorem dX2_joined_166 : decode cX2_joined 166 = .ok (.ifCond .ne 7, 3) := by decide +kernel
theorem dX2_joined_169 : decode cX2_joined 169 = .ok (.iconst 0, 1) := by decide +kernel
theorem dX2_joined_170 : decode cX2_joined 170 = .ok (.goto 6, 3) := by decide +kernel
theorem dX2_joined_173 : decode cX2_joined 173 = .ok (.iload_n 1, 1) := by decide +kernel
theorem dX2_joined_174 : decode cX2_joined 174 = .ok (.iload_n 2, 1) := by decide +kernel
theorem dX2_joined_175 : decode cX2_joined 175 = .ok (.idiv, 1) := by decide +kernel
theorem dX2_joined_176 : decode cX2_joined 176 = .ok (.ireturn, 1) := by decide +kernel
theorem dX2_joined_177 : decode cX2_joined 177 = .ok (.iload_n 2, 1) := by decide +kernel
theorem dX2_joined_178 : decode cX2_joined 178 = .ok (.ifCond .ne 7, 3) := by decide +kernel
theorem dX2_joined_181 : decode cX2_joined 181 = .ok (.iconst 0, 1) := by decide +kernel
theorem dX2_joined_182 : decode cX2_joined 182 = .ok (.goto 6, 3) := by decide +kernel
theorem dX2_joined_185 : decode cX2_joined 185 = .ok (.iload_n 1, 1) := by decide +kernel
theorem dX2_joined_186 : decode cX2_joined 186 = .ok (.iload_n 2, 1) := by decide +kernel
theorem dX2_joined_187 : decode cX2_joined 187 = .ok (.irem, 1) := by decide +kernel
theorem dX2_joined_188 : decode cX2_joined 188 = .ok (.ireturn, 1) := by decide +kernel
theorem dX2_joined_189 : decode cX2_joined 189 = .ok (.iconst 0, 1) := by decide +kernel
theorem dX2_joined_190 : decode cX2_joined 190 = .ok (.ireturn, 1) := by decide +kernel
theorem dX3_init_0 : decode cX3_init 0 = .ok (.aload_n 0, 1) := by decide +kernel
theorem dX3_init_1 : decode cX3_init 1 = .ok (.invokespecial 1, 3) := by decide +kernel
theorem dX3_init_4 : decode cX3_init 4 = .ok (.return_, 1) := by decide +kernel
theorem dX3_copy_0 : decode cX3_copy 0 = .ok (.aload_n 0, 1) := by decide +kernel
theorem dX3_copy_1 : decode cX3_copy 1 = .ok (.aload_n 1, 1) := by decide +kernel
theorem dX3_copy_2 : decode cX3_copy 2 = .ok (.getfield 7, 3) := by decide +kernel
theorem dX3_copy_5 : decode cX3_copy 5 = .ok (.putfield 7, 3) := by decide +kernel
theorem dX3_copy_8 : decode cX3_copy 8 = .ok (.aload_n 0, 1) := by decide +kernel
theorem dX3_copy_9 : decode cX3_copy 9 = .ok (.aload_n 1, 1) := by decide +kernel
theorem dX3_copy_10 : decode cX3_copy 10 = .ok (.getfield 13, 3) := by decide +kernel
theorem dX3_copy_13 : decode cX3_copy 13 = .ok (.putfield 13, 3) := by decide +kernel
theorem dX3_copy_16 : decode cX3_copy 16 = .ok (.aload_n 0, 1) := by decide +kernel
theorem dX3_copy_17 : decode cX3_copy 17 = .ok (.aload_n 1, 1) := by decide +kernel
theorem dX3_copy_18 : decode cX3_copy 18 = .ok (.getfield 16, 3) := by decide +kernel
theorem dX3_copy_21 : decode cX3_copy 21 = .ok (.putfield 16, 3) := by decide +kernel
theorem dX3_copy_24 : decode cX3_copy 24 = .ok (.aload_n 0, 1) := by decide +kernel
theorem dX3_copy_25 : decode cX3_copy 25 = .ok (.aload_n 1, 1) := by decide +kernel
theorem dX3_copy_26 : decode cX3_copy 26 = .ok (.getfield 19, 3) := by decide +kernel
theorem dX3_copy_29 : decode cX3_copy 29 = .ok (.putfield 19, 3) := by decide +kernel
theorem dX3_copy_32 : decode cX3_copy 32 = .ok (.aload_n 0, 1) := by decide +kernel
theorem dX3_copy_33 : decode cX3_copy 33 = .ok (.aload_n 1, 1) := by decide +kernel
theorem dX3_copy_34 : decode cX3_copy 34 = .ok (.getfield 22, 3) := by decide +kernel
theorem dX3_copy_37 : decode cX3_copy 37 = .ok (.putfield 22, 3) := by decide +kernel
theorem dX3_copy_40 : decode cX3_copy 40 = .ok (.return_, 1) := by decide +kernel
theorem dX4_init_0 : decode cX4_init 0 = .ok (.aload_n 0, 1) := by decide +kernel
theorem dX4_init_1 : decode cX4_init 1 = .ok (.invokespecial 3, 3) := by decide +kernel
theorem dX4_init_4 : decode cX4_init 4 = .ok (.aload_n 0, 1) := by decide +kernel
theorem dX4_init_5 : decode cX4_init 5 = .ok (.iconst 5, 1) := by decide +kernel
theorem dX4_init_6 : decode cX4_init 6 = .ok (.newarray .int, 2) := by decide +kernel
theorem dX4_init_8 : decode cX4_init 8 = .ok (.putfield 9, 3) := by decide +kernel
theorem dX4_init_11 : decode cX4_init 11 = .ok (.return_, 1) := by decide +kernel
theorem dX4_begin_0 : decode cX4_begin 0 = .ok (.iconst 0, 1) := by decide +kernel
theorem dX4_begin_1 : decode cX4_begin 1 = .ok (.istore_n 1, 1) := by decide +kernel
theorem dX4_begin_2 : decode cX4_begin 2 = .ok (.iload_n 1, 1) := by decide +kernel
theorem dX4_begin_3 : decode cX4_begin 3 = .ok (.iconst 5, 1) := by decide +kernel
theorem dX4_begin_4 : decode cX4_begin 4 = .ok (.if_icmp .ge 16, 3) := by decide +kernel
theorem dX4_begin_7 : decode cX4_begin 7 = .ok (.aload_n 0, 1) := by decide +kernel
theorem dX4_begin_8 : decode cX4_begin 8 = .ok (.getfield 9, 3) := by decide +kernel
theorem dX4_begin_11 : decode cX4_begin 11 = .ok (.iload_n 1, 1) := by decide +kernel
theorem dX4_begin_12 : decode cX4_begin 12 = .ok (.iconst 0, 1) := by decide +kernel
theorem dX4_begin_13 : decode cX4_begin 13 = .ok (.iastore, 1) := by decide +kernel
theorem dX4_begin_14 : decode cX4_begin 14 = .ok (.iinc 1 1, 3) := by decide +kernel
theorem dX4_begin_17 : decode cX4_begin 17 = .ok (.goto (-15), 3) := by decide +kernel
theorem dX4_begin_20 : decode cX4_begin 20 = .ok (.aload_n 0, 1) := by decide +kernel
theorem dX4_begin_21 : decode cX4_begin 21 = .ok (.iconst 0, 1) := by decide +kernel
theorem dX4_begin_22 : decode cX4_begin 22 = .ok (.putfield 15, 3) := by decide +kernel
theorem dX4_begin_25 : decode cX4_begin 25 = .ok (.aload_n 0, 1) := by decide +kernel
theorem dX4_begin_26 : decode cX4_begin 26 = .ok (.iconst 0, 1) := by decide +kernel
theorem dX4_begin_27 : decode cX4_begin 27 = .ok (.putfield 19, 3) := by decide +kernel
theorem dX4_begin_30 : decode cX4_begin 30 = .ok (.return_, 1) := by decide +kernel
theorem dX4_copy_0 : decode cX4_copy 0 = .ok (.aload_n 1, 1) := by decide +kernel
theorem dX4_copy_1 : decode cX4_copy 1 = .ok (.getfield 9, 3) := by decide +kernel
theorem dX4_copy_4 : decode cX4_copy 4 = .ok (.iconst 0, 1) := by decide +kernel
theorem dX4_copy_5 : decode cX4_copy 5 = .ok (.aload_n 0, 1) := by decide +kernel
theorem dX4_copy_6 : decode cX4_copy 6 = .ok (.getfield 9, 3) := by decide +kernel
theorem dX4_copy_9 : decode cX4_copy 9 = .ok (.iconst 0, 1) := by decide +kernel
theorem dX4_copy_10 : decode cX4_copy 10 = .ok (.iconst 5, 1) := by decide +kernel
theorem dX4_copy_11 : decode cX4_copy 11 = .ok (.invokestatic 22, 3) := by decide +kernel
theorem dX4_copy_14 : decode cX4_copy 14 = .ok (.aload_n 0, 1) := by decide +kernel
theorem dX4_copy_15 : decode cX4_copy 15 = .ok (.aload_n 1, 1) := by decide +kernel
theorem dX4_copy_16 : decode cX4_copy 16 = .ok (.getfield 15, 3) := by decide +kernel
theorem dX4_copy_19 : decode cX4_copy 19 = .ok (.putfield 15, 3) := by decide +kernel
theorem dX4_copy_22 : decode cX4_copy 22 = .ok (.aload_n 0, 1) := by decide +kernel
theorem dX4_copy_23 : decode cX4_copy 23 = .ok (.aload_n 1, 1) := by decide +kernel
theorem dX4_copy_24 : decode cX4_copy 24 = .ok (.getfield 19, 3) := by decide +kernel
theorem dX4_copy_27 : decode cX4_copy 27 = .ok (.putfield 19, 3) := by decide +kernel
theorem dX4_copy_30 : decode cX4_copy 30 = .ok (.return_, 1) := by decide +kernel
theorem dX4_has_0 : decode cX4_has 0 = .ok (.iload_n 1, 1) := by decide +kernel
theorem dX4_has_1 : decode cX4_has 1 = .ok (.istore_n 2, 1) := by decide +kernel
theorem dX4_has_2 : decode cX4_has 2 = .ok (.iconst 0, 1) := by decide +kernel
theorem dX4_has_3 : decode cX4_has 3 = .ok (.istore_n 3, 1) := by decide +kernel
theorem dX4_has_4 : decode cX4_has 4 = .ok (.iload_n 3, 1) := by decide +kernel
theorem dX4_has_5 : decode cX4_has 5 = .ok (.iconst 5, 1) := by decide +kernel
theorem dX4_has_6 : decode cX4_has 6 = .ok (.if_icmp .ge 29, 3) := by decide +kernel
theorem dX4_has_9 : decode cX4_has 9 = .ok (.iload_n 2, 1) := by decide +kernel
theorem dX4_has_10 : decode cX4_has 10 = .ok (.bipush 10, 2) := by decide +kernel
theorem dX4_has_12 : decode cX4_has 12 = .ok (.irem, 1) := by decide +kernel
theorem dX4_has_13 : decode cX4_has 13 = .ok (.aload_n 0, 1) := by decide +kernel
theorem dX4_has_14 : decode cX4_has 14 = .ok (.getfield 9, 3) := by decide +kernel
theorem dX4_has_17 : decode cX4_has 17 = .ok (.iload_n 3, 1) := by decide +kernel
theorem dX4_has_18 : decode cX4_has 18 = .ok (.iaload, 1) := by decide +kernel
theorem dX4_has_19 : decode cX4_has 19 = .ok (.if_icmp .le 5, 3) := by decide +kernel
theorem dX4_has_22 : decode cX4_has 22 = .ok (.iconst 0, 1) := by decide +kernel
theorem dX4_has_23 : decode cX4_has 23 = .ok (.ireturn, 1) := by decide +kernel
theorem dX4_has_24 : decode cX4_has 24 = .ok (.iload_n 2, 1) := by decide +kernel
theorem dX4_has_25 : decode cX4_has 25 = .ok (.bipush 10, 2) := by decide +kernel
theorem dX4_has_27 : decode cX4_has 27 = .ok (.idiv, 1) := by decide +kernel
theorem dX4_has_28 : decode cX4_has 28 = .ok (.istore_n 2, 1) := by decide +kernel
theorem dX4_has_29 : decode cX4_has 29 = .ok (.iinc 3 1, 3) := by decide +kernel
theorem dX4_has_32 : decode cX4_has 32 = .ok (.goto (-28), 3) := by decide +kernel
theorem dX4_has_35 : decode cX4_has 35 = .ok (.iconst 1, 1) := by decide +kernel
theorem dX4_has_36 : decode cX4_has 36 = .ok (.ireturn, 1) := by decide +kernel
theorem dX4_burn_0 : decode cX4_burn 0 = .ok (.iload_n 1, 1) := by decide +kernel
theorem dX4_burn_1 : decode cX4_burn 1 = .ok (.istore_n 2, 1) := by decide +kernel
theorem dX4_burn_2 : decode cX4_burn 2 = .ok (.iconst 0, 1) := by decide +kernel
theorem dX4_burn_3 : decode cX4_burn 3 = .ok (.istore_n 3, 1) := by decide +kernel
theorem dX4_burn_4 : decode cX4_burn 4 = .ok (.iload_n 3, 1) := by decide +kernel
theorem dX4_burn_5 : decode cX4_burn 5 = .ok (.iconst 5, 1) := by decide +kernel
theorem dX4_burn_6 : decode cX4_burn 6 = .ok (.if_icmp .ge 27, 3) := by decide +kernel
theorem dX4_burn_9 : decode cX4_burn 9 = .ok (.aload_n 0, 1) := by decide +kernel
theorem dX4_burn_10 : decode cX4_burn 10 = .ok (.getfield 9, 3) := by decide +kernel
theorem dX4_burn_13 : decode cX4_burn 13 = .ok (.iload_n 3, 1) := by decide +kernel
theorem dX4_burn_14 : decode cX4_burn 14 = .ok (.dup2, 1) := by decide +kernel
theorem dX4_burn_15 : decode cX4_burn 15 = .ok (.iaload, 1) := by decide +kernel
theorem dX4_burn_16 : decode cX4_burn 16 = .ok (.iload_n 2, 1) := by decide +kernel
theorem dX4_burn_17 : decode cX4_burn 17 = .ok (.bipush 10, 2) := by decide +kernel
theorem dX4_burn_19 : decode cX4_burn 19 = .ok (.irem, 1) := by decide +kernel
theorem dX4_burn_20 : decode cX4_burn 20 = .ok (.isub, 1) := by decide +kernel
theorem dX4_burn_21 : decode cX4_burn 21 = .ok (.iastore, 1) := by decide +kernel
theorem dX4_burn_22 : decode cX4_burn 22 = .ok (.iload_n 2, 1) := by decide +kernel
theorem dX4_burn_23 : decode cX4_burn 23 = .ok (.bipush 10, 2) := by decide +kernel
theorem dX4_burn_25 : decode cX4_burn 25 = .ok (.idiv, 1) := by decide +kernel
theorem dX4_burn_26 : decode cX4_burn 26 = .ok (.istore_n 2, 1) := by decide +kernel
theorem dX4_burn_27 : decode cX4_burn 27 = .ok (.iinc 3 1, 3) := by decide +kernel
theorem dX4_burn_30 : decode cX4_burn 30 = .ok (.goto (-26), 3) := by decide +kernel
theorem dX4_burn_33 : decode cX4_burn 33 = .ok (.aload_n 0, 1) := by decide +kernel
theorem dX4_burn_34 : decode cX4_burn 34 = .ok (.aload_n 0, 1) := by decide +kernel
theorem dX4_burn_35 : decode cX4_burn 35 = .ok (.getfield 15, 3) := by decide +kernel
theorem dX4_burn_38 : decode cX4_burn 38 = .ok (.iconst 1, 1) := by decide +kernel
theorem dX4_burn_39 : decode cX4_burn 39 = .ok (.iadd, 1) := by decide +kernel
theorem dX4_burn_40 : decode cX4_burn 40 = .ok (.sipush 9999, 3) := by decide +kernel
theorem dX4_burn_43 : decode cX4_burn 43 = .ok (.invokestatic 28, 3) := by decide +kernel
theorem dX4_burn_46 : decode cX4_burn 46 = .ok (.putfield 15, 3) := by decide +kernel
theorem dX4_burn_49 : decode cX4_burn 49 = .ok (.return_, 1) := by decide +kernel
theorem dX4_change_0 : decode cX4_change 0 = .ok (.aload_n 0, 1) := by decide +kernel
theorem dX4_change_1 : decode cX4_change 1 = .ok (.getfield 9, 3) := by decide +kernel
theorem dX4_change_4 : decode cX4_change 4 = .ok (.iload_n 1, 1) := by decide +kernel
theorem dX4_change_5 : decode cX4_change 5 = .ok (.aload_n 0, 1) := by decide +kernel
theorem dX4_change_6 : decode cX4_change 6 = .ok (.getfield 9, 3) := by decide +kernel
theorem dX4_change_9 : decode cX4_change 9 = .ok (.iload_n 1, 1) := by decide +kernel
theorem dX4_change_10 : decode cX4_change 10 = .ok (.iaload, 1) := by decide +kernel
theorem dX4_change_11 : decode cX4_change 11 = .ok (.iload_n 2, 1) := by decide +kernel
theorem dX4_change_12 : decode cX4_change 12 = .ok (.iadd, 1) := by decide +kernel
theorem dX4_change_13 : decode cX4_change 13 = .ok (.sipush 999, 3) := by decide +kernel
theorem dX4_change_16 : decode cX4_change 16 = .ok (.invokestatic 28, 3) := by decide +kernel
theorem dX4_change_19 : decode cX4_change 19 = .ok (.iastore, 1) := by decide +kernel
theorem dX4_change_20 : decode cX4_change 20 = .ok (.return_, 1) := by decide +kernel
theorem dX5_init_0 : decode cX5_init 0 = .ok (.aload_n 0, 1) := by decide +kernel
theorem dX5_init_1 : decode cX5_init 1 = .ok (.invokespecial 3, 3) := by decide +kernel
theorem dX5_init_4 : decode cX5_init 4 = .ok (.aload_n 0, 1) := by decide +kernel
theorem dX5_init_5 : decode cX5_init 5 = .ok (.bipush 50, 2) := by decide +kernel
theorem dX5_init_7 : decode cX5_init 7 = .ok (.newarray .int, 2) := by decide +kernel
theorem dX5_init_9 : decode cX5_init 9 = .ok (.putfield 9, 3) := by decide +kernel
theorem dX5_init_12 : decode cX5_init 12 = .ok (.aload_n 0, 1) := by decide +kernel
theorem dX5_init_13 : decode cX5_init 13 = .ok (.bipush 50, 2) := by decide +kernel
theorem dX5_init_15 : decode cX5_init 15 = .ok (.newarray .int, 2) := by decide +kernel
theorem dX5_init_17 : decode cX5_init 17 = .ok (.putfield 15, 3) := by decide +kernel
theorem dX5_init_20 : decode cX5_init 20 = .ok (.return_, 1) := by decide +kernel
theorem dX5_reads_0 : decode cX5_reads 0 = .ok (.aload_n 0, 1) := by decide +kernel
theorem dX5_reads_1 : decode cX5_reads 1 = .ok (.iload_n 2, 1) := by decide +kernel
theorem dX5_reads_2 : decode cX5_reads 2 = .ok (.bipush 50, 2) := by decide +kernel
theorem dX5_reads_4 : decode cX5_reads 4 = .ok (.invokestatic 18, 3) := by decide +kernel
theorem dX5_reads_7 : decode cX5_reads 7 = .ok (.putfield 22, 3) := by decide +kernel
theorem dX5_reads_10 : decode cX5_reads 10 = .ok (.aload_n 1, 1) := by decide +kernel
theorem dX5_reads_11 : decode cX5_reads 11 = .ok (.iconst 0, 1) := by decide +kernel
theorem dX5_reads_12 : decode cX5_reads 12 = .ok (.aload_n 0, 1) := by decide +kernel
theorem dX5_reads_13 : decode cX5_reads 13 = .ok (.getfield 9, 3) := by decide +kernel
theorem dX5_reads_16 : decode cX5_reads 16 = .ok (.iconst 0, 1) := by decide +kernel
theorem dX5_reads_17 : decode cX5_reads 17 = .ok (.aload_n 0, 1) := by decide +kernel
theorem dX5_reads_18 : decode cX5_reads 18 = .ok (.getfield 22, 3) := by decide +kernel
theorem dX5_reads_21 : decode cX5_reads 21 = .ok (.invokestatic 26, 3) := by decide +kernel
theorem dX5_reads_24 : decode cX5_reads 24 = .ok (.aload_n 0, 1) := by decide +kernel
theorem dX5_reads_25 : decode cX5_reads 25 = .ok (.iload_n 3, 1) := by decide +kernel
theorem dX5_reads_26 : decode cX5_reads 26 = .ok (.putfield 32, 3) := by decide +kernel
theorem dX5_reads_29 : decode cX5_reads 29 = .ok (.aload_n 0, 1) := by decide +kernel
theorem dX5_reads_30 : decode cX5_reads 30 = .ok (.iconst 0, 1) := by decide +kernel
theorem dX5_reads_31 : decode cX5_reads 31 = .ok (.putfield 35, 3) := by decide +kernel
theorem dX5_reads_34 : decode cX5_reads 34 = .ok (.aload_n 0, 1) := by decide +kernel
theorem dX5_reads_35 : decode cX5_reads 35 = .ok (.iconst 0, 1) := by decide +kernel
theorem dX5_reads_36 : decode cX5_reads 36 = .ok (.putfield 38, 3) := by decide +kernel
theorem dX5_reads_39 : decode cX5_reads 39 = .ok (.aload_n 0, 1) := by decide +kernel
theorem dX5_reads_40 : decode cX5_reads 40 = .ok (.iconst 0, 1) := by decide +kernel
theorem dX5_reads_41 : decode cX5_reads 41 = .ok (.iconst 0, 1) := by decide +kernel
theorem dX5_reads_42 : decode cX5_reads 42 = .ok (.invokevirtual 41, 3) := by decide +kernel
theorem dX5_reads_45 : decode cX5_reads 45 = .ok (.ifCond .eq 18, 3) := by decide +kernel
theorem dX5_reads_48 : decode cX5_reads 48 = .ok (.aload_n 0, 1) := by decide +kernel
theorem dX5_reads_49 : decode cX5_reads 49 = .ok (.getfield 35, 3) := by decide +kernel
theorem dX5_reads_52 : decode cX5_reads 52 = .ok (.aload_n 0, 1) := by decide +kernel
theorem dX5_reads_53 : decode cX5_reads 53 = .ok (.getfield 22, 3) := by decide +kernel
theorem dX5_reads_56 : decode cX5_reads 56 = .ok (.if_icmp .ne 7, 3) := by decide +kernel
theorem dX5_reads_59 : decode cX5_reads 59 = .ok (.iconst 1, 1) := by decide +kernel
theorem dX5_reads_60 : decode cX5_reads 60 = .ok (.goto 4, 3) := by decide +kernel
theorem dX5_reads_63 : decode cX5_reads 63 = .ok (.iconst 0, 1) := by decide +kernel
theorem dX5_reads_64 : decode cX5_reads 64 = .ok (.ireturn, 1) := by decide +kernel
theorem dX5_readLevel_0 : decode cX5_readLevel 0 = .ok (.iload_n 1, 1) := by decide +kernel
theorem dX5_readLevel_1 : decode cX5_readLevel 1 = .ok (.iconst 5, 1) := by decide +kernel
theorem dX5_readLevel_2 : decode cX5_readLevel 2 = .ok (.if_icmp .lt 9, 3) := by decide +kernel
theorem dX5_readLevel_5 : decode cX5_readLevel 5 = .ok (.aload_n 0, 1) := by decide +kernel
theorem dX5_readLevel_6 : decode cX5_readLevel 6 = .ok (.iload_n 2, 1) := by decide +kernel
theorem dX5_readLevel_7 : decode cX5_readLevel 7 = .ok (.invokevirtual 45, 3) := by decide +kernel
theorem dX5_readLevel_10 : decode cX5_readLevel 10 = .ok (.ireturn, 1) := by decide +kernel
theorem dX5_readLevel_11 : decode cX5_readLevel 11 = .ok (.aload_n 0, 1) := by decide +kernel
theorem dX5_readLevel_12 : decode cX5_readLevel 12 = .ok (.iload_n 1, 1) := by decide +kernel
theorem dX5_readLevel_13 : decode cX5_readLevel 13 = .ok (.iconst 1, 1) := by decide +kernel
theorem dX5_readLevel_14 : decode cX5_readLevel 14 = .ok (.iadd, 1) := by decide +kernel
theorem dX5_readLevel_15 : decode cX5_readLevel 15 = .ok (.iload_n 2, 1) := by decide +kernel
theorem dX5_readLevel_16 : decode cX5_readLevel 16 = .ok (.invokevirtual 41, 3) := by decide +kernel
theorem dX5_readLevel_19 : decode cX5_readLevel 19 = .ok (.ifCond .ne 5, 3) := by decide +kernel
theorem dX5_readLevel_22 : decode cX5_readLevel 22 = .ok (.iconst 0, 1) := by decide +kernel
theorem dX5_readLevel_23 : decode cX5_readLevel 23 = .ok (.ireturn, 1) := by decide +kernel
theorem dX5_readLevel_24 : decode cX5_readLevel 24 = .ok (.iload_n 1, 1) := by decide +kernel
theorem dX5_readLevel_25 : decode cX5_readLevel 25 = .ok (.iconst 2, 1) := by decide +kernel
theorem dX5_readLevel_26 : decode cX5_readLevel 26 = .ok (.if_icmp .ne 7, 3) := by decide +kernel
theorem dX5_readLevel_29 : decode cX5_readLevel 29 = .ok (.iconst 1, 1) := by decide +kernel
theorem dX5_readLevel_30 : decode cX5_readLevel 30 = .ok (.goto 5, 3) := by decide +kernel
theorem dX5_readLevel_33 : decode cX5_readLevel 33 = .ok (.bipush 50, 2) := by decide +kernel
theorem dX5_readLevel_35 : decode cX5_readLevel 35 = .ok (.istore_n 3, 1) := by decide +kernel
theorem dX5_readLevel_36 : decode cX5_readLevel 36 = .ok (.iconst 0, 1) := by decide +kernel
theorem dX5_readLevel_37 : decode cX5_readLevel 37 = .ok (.istore 4, 2) := by decide +kernel
theorem dX5_readLevel_39 : decode cX5_readLevel 39 = .ok (.iload 4, 2) := by decide +kernel
theorem dX5_readLevel_41 : decode cX5_readLevel 41 = .ok (.iload_n 3, 1) := by decide +kernel
theorem dX5_readLevel_42 : decode cX5_readLevel 42 = .ok (.if_icmp .ge 56, 3) := by decide +kernel
theorem dX5_readLevel_45 : decode cX5_readLevel 45 = .ok (.aload_n 0, 1) := by decide +kernel
theorem dX5_readLevel_46 : decode cX5_readLevel 46 = .ok (.invokevirtual 49, 3) := by decide +kernel
theorem dX5_readLevel_49 : decode cX5_readLevel 49 = .ok (.invokestatic 53, 3) := by decide +kernel
theorem dX5_readLevel_52 : decode cX5_readLevel 52 = .ok (.iload_n 1, 1) := by decide +kernel
theorem dX5_readLevel_53 : decode cX5_readLevel 53 = .ok (.if_icmp .ne 45, 3) := by decide +kernel
theorem dX5_readLevel_56 : decode cX5_readLevel 56 = .ok (.aload_n 0, 1) := by decide +kernel
theorem dX5_readLevel_57 : decode cX5_readLevel 57 = .ok (.invokevirtual 49, 3) := by decide +kernel
theorem dX5_readLevel_60 : decode cX5_readLevel 60 = .ok (.istore 5, 2) := by decide +kernel
theorem dX5_readLevel_62 : decode cX5_readLevel 62 = .ok (.aload_n 0, 1) := by decide +kernel
theorem dX5_readLevel_63 : decode cX5_readLevel 63 = .ok (.dup, 1) := by decide +kernel
theorem dX5_readLevel_64 : decode cX5_readLevel 64 = .ok (.getfield 35, 3) := by decide +kernel
theorem dX5_readLevel_67 : decode cX5_readLevel 67 = .ok (.iconst 1, 1) := by decide +kernel
theorem dX5_readLevel_68 : decode cX5_readLevel 68 = .ok (.iadd, 1) := by decide +kernel
theorem dX5_readLevel_69 : decode cX5_readLevel 69 = .ok (.putfield 35, 3) := by decide +kernel
theorem dX5_readLevel_72 : decode cX5_readLevel 72 = .ok (.aload_n 0, 1) := by decide +kernel
theorem dX5_readLevel_73 : decode cX5_readLevel 73 = .ok (.iload_n 1, 1) := by decide +kernel
theorem dX5_readLevel_74 : decode cX5_readLevel 74 = .ok (.iconst 1, 1) := by decide +kernel
theorem dX5_readLevel_75 : decode cX5_readLevel 75 = .ok (.iadd, 1) := by decide +kernel
theorem dX5_readLevel_76 : decode cX5_readLevel 76 = .ok (.iload_n 2, 1) := by decide +kernel
theorem dX5_readLevel_77 : decode cX5_readLevel 77 = .ok (.invokevirtual 41, 3) := by decide +kernel
theorem dX5_readLevel_80 : decode cX5_readLevel 80 = .ok (.ifCond .ne 5, 3) := by decide +kernel
theorem dX5_readLevel_83 : decode cX5_readLevel 83 = .ok (.iconst 0, 1) := by decide +kernel
theorem dX5_readLevel_84 : decode cX5_readLevel 84 = .ok (.ireturn, 1) := by decide +kernel
theorem dX5_readLevel_85 : decode cX5_readLevel 85 = .ok (.aload_n 0, 1) := by decide +kernel
theorem dX5_readLevel_86 : decode cX5_readLevel 86 = .ok (.iload 5, 2) := by decide +kernel
theorem dX5_readLevel_88 : decode cX5_readLevel 88 = .ok (.ineg, 1) := by decide +kernel
theorem dX5_readLevel_89 : decode cX5_readLevel 89 = .ok (.invokevirtual 57, 3) := by decide +kernel
theorem dX5_readLevel_92 : decode cX5_readLevel 92 = .ok (.iinc 4 1, 3) := by decide +kernel
theorem dX5_readLevel_95 : decode cX5_readLevel 95 = .ok (.goto (-56), 3) := by decide +kernel
theorem dX5_readLevel_98 : decode cX5_readLevel 98 = .ok (.iconst 1, 1) := by decide +kernel
theorem dX5_readLevel_99 : decode cX5_readLevel 99 = .ok (.ireturn, 1) := by decide +kernel
theorem dX5_readPart_0 : decode cX5_readPart 0 = .ok (.aload_n 0, 1) := by decide +kernel
theorem dX5_readPart_1 : decode cX5_readPart 1 = .ok (.invokevirtual 49, 3) := by decide +kernel
theorem dX5_readPart_4 : decode cX5_readPart 4 = .ok (.istore_n 2, 1) := by decide +kernel
theorem dX5_readPart_5 : decode cX5_readPart 5 = .ok (.iload_n 2, 1) := by decide +kernel
theorem dX5_readPart_6 : decode cX5_readPart 6 = .ok (.invokestatic 61, 3) := by decide +kernel
theorem dX5_readPart_9 : decode cX5_readPart 9 = .ok (.ifCond .eq 8, 3) := by decide +kernel
theorem dX5_readPart_12 : decode cX5_readPart 12 = .ok (.aload_n 0, 1) := by decide +kernel
theorem dX5_readPart_13 : decode cX5_readPart 13 = .ok (.invokevirtual 64, 3) := by decide +kernel
theorem dX5_readPart_16 : decode cX5_readPart 16 = .ok (.ireturn, 1) := by decide +kernel
theorem dX5_readPart_17 : decode cX5_readPart 17 = .ok (.iload_n 2, 1) := by decide +kernel
theorem dX5_readPart_18 : decode cX5_readPart 18 = .ok (.bipush 33, 2) := by decide +kernel
theorem dX5_readPart_20 : decode cX5_readPart 20 = .ok (.if_icmp .ne 34, 3) := by decide +kernel
theorem dX5_readPart_23 : decode cX5_readPart 23 = .ok (.iload_n 1, 1) := by decide +kernel
theorem dX5_readPart_24 : decode cX5_readPart 24 = .ok (.iconst 5, 1) := by decide +kernel
theorem dX5_readPart_25 : decode cX5_readPart 25 = .ok (.if_icmp .ge 29, 3) := by decide +kernel
theorem dX5_readPart_28 : decode cX5_readPart 28 = .ok (.aload_n 0, 1) := by decide +kernel
theorem dX5_readPart_29 : decode cX5_readPart 29 = .ok (.dup, 1) := by decide +kernel
theorem dX5_readPart_30 : decode cX5_readPart 30 = .ok (.getfield 35, 3) := by decide +kernel
theorem dX5_readPart_33 : decode cX5_readPart 33 = .ok (.iconst 1, 1) := by decide +kernel
theorem dX5_readPart_34 : decode cX5_readPart 34 = .ok (.iadd, 1) := by decide +kernel
theorem dX5_readPart_35 : decode cX5_readPart 35 = .ok (.putfield 35, 3) := by decide +kernel
theorem dX5_readPart_38 : decode cX5_readPart 38 = .ok (.aload_n 0, 1) := by decide +kernel
theorem dX5_readPart_39 : decode cX5_readPart 39 = .ok (.iload_n 1, 1) := by decide +kernel
theorem dX5_readPart_40 : decode cX5_readPart 40 = .ok (.iconst 1, 1) := by decide +kernel
theorem dX5_readPart_41 : decode cX5_readPart 41 = .ok (.iadd, 1) := by decide +kernel
theorem dX5_readPart_42 : decode cX5_readPart 42 = .ok (.invokevirtual 45, 3) := by decide +kernel
theorem dX5_readPart_45 : decode cX5_readPart 45 = .ok (.istore_n 3, 1) := by decide +kernel
theorem dX5_readPart_46 : decode cX5_readPart 46 = .ok (.aload_n 0, 1) := by decide +kernel
theorem dX5_readPart_47 : decode cX5_readPart 47 = .ok (.bipush (-33), 2) := by decide +kernel
theorem dX5_readPart_49 : decode cX5_readPart 49 = .ok (.invokevirtual 57, 3) := by decide +kernel
theorem dX5_readPart_52 : decode cX5_readPart 52 = .ok (.iload_n 3, 1) := by decide +kernel
theorem dX5_readPart_53 : decode cX5_readPart 53 = .ok (.ireturn, 1) := by decide +kernel
theorem dX5_readPart_54 : decode cX5_readPart 54 = .ok (.iload_n 2, 1) := by decide +kernel
theorem dX5_readPart_55 : decode cX5_readPart 55 = .ok (.bipush 40, 2) := by decide +kernel
theorem dX5_readPart_57 : decode cX5_readPart 57 = .ok (.if_icmp .ne 52, 3) := by decide +kernel
theorem dX5_readPart_60 : decode cX5_readPart 60 = .ok (.iload_n 1, 1) := by decide +kernel
theorem dX5_readPart_61 : decode cX5_readPart 61 = .ok (.iconst 5, 1) := by decide +kernel
theorem dX5_readPart_62 : decode cX5_readPart 62 = .ok (.if_icmp .ge 47, 3) := by decide +kernel
theorem dX5_readPart_65 : decode cX5_readPart 65 = .ok (.aload_n 0, 1) := by decide +kernel
theorem dX5_readPart_66 : decode cX5_readPart 66 = .ok (.dup, 1) := by decide +kernel
theorem dX5_readPart_67 : decode cX5_readPart 67 = .ok (.getfield 35, 3) := by decide +kernel
theorem dX5_readPart_70 : decode cX5_readPart 70 = .ok (.iconst 1, 1) := by decide +kernel
theorem dX5_readPart_71 : decode cX5_readPart 71 = .ok (.iadd, 1) := by decide +kernel
theorem dX5_readPart_72 : decode cX5_readPart 72 = .ok (.putfield 35, 3) := by decide +kernel
theorem dX5_readPart_75 : decode cX5_readPart 75 = .ok (.aload_n 0, 1) := by decide +kernel
theorem dX5_readPart_76 : decode cX5_readPart 76 = .ok (.iconst 0, 1) := by decide +kernel
theorem dX5_readPart_77 : decode cX5_readPart 77 = .ok (.iload_n 1, 1) := by decide +kernel
theorem dX5_readPart_78 : decode cX5_readPart 78 = .ok (.iconst 1, 1) := by decide +kernel
theorem dX5_readPart_79 : decode cX5_readPart 79 = .ok (.iadd, 1) := by decide +kernel
theorem dX5_readPart_80 : decode cX5_readPart 80 = .ok (.invokevirtual 41, 3) := by decide +kernel
theorem dX5_readPart_83 : decode cX5_readPart 83 = .ok (.ifCond .eq 12, 3) := by decide +kernel
theorem dX5_readPart_86 : decode cX5_readPart 86 = .ok (.aload_n 0, 1) := by decide +kernel
theorem dX5_readPart_87 : decode cX5_readPart 87 = .ok (.invokevirtual 49, 3) := by decide +kernel
theorem dX5_readPart_90 : decode cX5_readPart 90 = .ok (.bipush 41, 2) := by decide +kernel
theorem dX5_readPart_92 : decode cX5_readPart 92 = .ok (.if_icmp .eq 5, 3) := by decide +kernel
theorem dX5_readPart_95 : decode cX5_readPart 95 = .ok (.iconst 0, 1) := by decide +kernel
theorem dX5_readPart_96 : decode cX5_readPart 96 = .ok (.ireturn, 1) := by decide +kernel
theorem dX5_readPart_97 : decode cX5_readPart 97 = .ok (.aload_n 0, 1) := by decide +kernel
theorem dX5_readPart_98 : decode cX5_readPart 98 = .ok (.dup, 1) := by decide +kernel
theorem dX5_readPart_99 : decode cX5_readPart 99 = .ok (.getfield 35, 3) := by decide +kernel
theorem dX5_readPart_102 : decode cX5_readPart 102 = .ok (.iconst 1, 1) := by decide +kernel
theorem dX5_readPart_103 : decode cX5_readPart 103 = .ok (.iadd, 1) := by decide +kernel
theorem dX5_readPart_104 : decode cX5_readPart 104 = .ok (.putfield 35, 3) := by decide +kernel
theorem dX5_readPart_107 : decode cX5_readPart 107 = .ok (.iconst 1, 1) := by decide +kernel
theorem dX5_readPart_108 : decode cX5_readPart 108 = .ok (.ireturn, 1) := by decide +kernel
theorem dX5_readPart_109 : decode cX5_readPart 109 = .ok (.aload_n 0, 1) := by decide +kernel
theorem dX5_readPart_110 : decode cX5_readPart 110 = .ok (.iload_n 2, 1) := by decide +kernel
theorem dX5_readPart_111 : decode cX5_readPart 111 = .ok (.invokevirtual 68, 3) := by decide +kernel
theorem dX5_readPart_114 : decode cX5_readPart 114 = .ok (.ireturn, 1) := by decide +kernel
theorem dX5_readNumber_0 : decode cX5_readNumber 0 = .ok (.iconst 0, 1) := by decide +kernel
theorem dX5_readNumber_1 : decode cX5_readNumber 1 = .ok (.istore_n 1, 1) := by decide +kernel
theorem dX5_readNumber_2 : decode cX5_readNumber 2 = .ok (.iconst 0, 1) := by decide +kernel
theorem dX5_readNumber_3 : decode cX5_readNumber 3 = .ok (.istore_n 2, 1) := by decide +kernel
theorem dX5_readNumber_4 : decode cX5_readNumber 4 = .ok (.iload_n 2, 1) := by decide +kernel
theorem dX5_readNumber_5 : decode cX5_readNumber 5 = .ok (.iconst 4, 1) := by decide +kernel
theorem dX5_readNumber_6 : decode cX5_readNumber 6 = .ok (.if_icmp .ge 42, 3) := by decide +kernel
theorem dX5_readNumber_9 : decode cX5_readNumber 9 = .ok (.aload_n 0, 1) := by decide +kernel
theorem dX5_readNumber_10 : decode cX5_readNumber 10 = .ok (.invokevirtual 49, 3) := by decide +kernel
theorem dX5_readNumber_13 : decode cX5_readNumber 13 = .ok (.invokestatic 61, 3) := by decide +kernel
theorem dX5_readNumber_16 : decode cX5_readNumber 16 = .ok (.ifCond .eq 32, 3) := by decide +kernel
theorem dX5_readNumber_19 : decode cX5_readNumber 19 = .ok (.iload_n 1, 1) := by decide +kernel
theorem dX5_readNumber_20 : decode cX5_readNumber 20 = .ok (.bipush 10, 2) := by decide +kernel
theorem dX5_readNumber_22 : decode cX5_readNumber 22 = .ok (.imul, 1) := by decide +kernel
theorem dX5_readNumber_23 : decode cX5_readNumber 23 = .ok (.aload_n 0, 1) := by decide +kernel
theorem dX5_readNumber_24 : decode cX5_readNumber 24 = .ok (.invokevirtual 49, 3) := by decide +kernel
theorem dX5_readNumber_27 : decode cX5_readNumber 27 = .ok (.iadd, 1) := by decide +kernel
theorem dX5_readNumber_28 : decode cX5_readNumber 28 = .ok (.bipush 48, 2) := by decide +kernel
theorem dX5_readNumber_30 : decode cX5_readNumber 30 = .ok (.isub, 1) := by decide +kernel
theorem dX5_readNumber_31 : decode cX5_readNumber 31 = .ok (.istore_n 1, 1) := by decide +kernel
theorem dX5_readNumber_32 : decode cX5_readNumber 32 = .ok (.aload_n 0, 1) := by decide +kernel
theorem dX5_readNumber_33 : decode cX5_readNumber 33 = .ok (.dup, 1) := by decide +kernel
theorem dX5_readNumber_34 : decode cX5_readNumber 34 = .ok (.getfield 35, 3) := by decide +kernel
theorem dX5_readNumber_37 : decode cX5_readNumber 37 = .ok (.iconst 1, 1) := by decide +kernel
theorem dX5_readNumber_38 : decode cX5_readNumber 38 = .ok (.iadd, 1) := by decide +kernel
theorem dX5_readNumber_39 : decode cX5_readNumber 39 = .ok (.putfield 35, 3) := by decide +kernel
theorem dX5_readNumber_42 : decode cX5_readNumber 42 = .ok (.iinc 2 1, 3) := by decide +kernel
theorem dX5_readNumber_45 : decode cX5_readNumber 45 = .ok (.goto (-41), 3) := by decide +kernel
theorem dX5_readNumber_48 : decode cX5_readNumber 48 = .ok (.aload_n 0, 1) := by decide +kernel
theorem dX5_readNumber_49 : decode cX5_readNumber 49 = .ok (.iload_n 1, 1) := by decide +kernel
theorem dX5_readNumber_50 : decode cX5_readNumber 50 = .ok (.invokevirtual 57, 3) := by decide +kernel
theorem dX5_readNumber_53 : decode cX5_readNumber 53 = .ok (.iconst 1, 1) := by decide +kernel
theorem dX5_readNumber_54 : decode cX5_readNumber 54 = .ok (.ireturn, 1) := by decide +kernel
theorem dX5_readName_0 : decode cX5_readName 0 = .ok (.iconst 0, 1) := by decide +kernel
theorem dX5_readName_1 : decode cX5_readName 1 = .ok (.istore_n 2, 1) := by decide +kernel
theorem dX5_readName_2 : decode cX5_readName 2 = .ok (.iload_n 2, 1) := by decide +kernel
theorem dX5_readName_3 : decode cX5_readName 3 = .ok (.iconst 3, 1) := by decide +kernel
theorem dX5_readName_4 : decode cX5_readName 4 = .ok (.if_icmp .ge 44, 3) := by decide +kernel
theorem dX5_readName_7 : decode cX5_readName 7 = .ok (.getstatic 71, 3) := by decide +kernel
theorem dX5_readName_10 : decode cX5_readName 10 = .ok (.aload_n 0, 1) := by decide +kernel
theorem dX5_readName_11 : decode cX5_readName 11 = .ok (.getfield 32, 3) := by decide +kernel
theorem dX5_readName_14 : decode cX5_readName 14 = .ok (.iconst 3, 1) := by decide +kernel
theorem dX5_readName_15 : decode cX5_readName 15 = .ok (.imul, 1) := by decide +kernel
theorem dX5_readName_16 : decode cX5_readName 16 = .ok (.iload_n 2, 1) := by decide +kernel
theorem dX5_readName_17 : decode cX5_readName 17 = .ok (.iadd, 1) := by decide +kernel
theorem dX5_readName_18 : decode cX5_readName 18 = .ok (.caload, 1) := by decide +kernel
theorem dX5_readName_19 : decode cX5_readName 19 = .ok (.iload_n 1, 1) := by decide +kernel
theorem dX5_readName_20 : decode cX5_readName 20 = .ok (.if_icmp .ne 22, 3) := by decide +kernel
theorem dX5_readName_23 : decode cX5_readName 23 = .ok (.aload_n 0, 1) := by decide +kernel
theorem dX5_readName_24 : decode cX5_readName 24 = .ok (.dup, 1) := by decide +kernel
theorem dX5_readName_25 : decode cX5_readName 25 = .ok (.getfield 35, 3) := by decide +kernel
theorem dX5_readName_28 : decode cX5_readName 28 = .ok (.iconst 1, 1) := by decide +kernel
theorem dX5_readName_29 : decode cX5_readName 29 = .ok (.iadd, 1) := by decide +kernel
theorem dX5_readName_30 : decode cX5_readName 30 = .ok (.putfield 35, 3) := by decide +kernel
theorem dX5_readName_33 : decode cX5_readName 33 = .ok (.aload_n 0, 1) := by decide +kernel
theorem dX5_readName_34 : decode cX5_readName 34 = .ok (.iconst (-1), 1) := by decide +kernel
theorem dX5_readName_35 : decode cX5_readName 35 = .ok (.iload_n 2, 1) := by decide +kernel
theorem dX5_readName_36 : decode cX5_readName 36 = .ok (.isub, 1) := by decide +kernel
theorem dX5_readName_37 : decode cX5_readName 37 = .ok (.invokevirtual 57, 3) := by decide +kernel
theorem dX5_readName_40 : decode cX5_readName 40 = .ok (.iconst 1, 1) := by decide +kernel
theorem dX5_readName_41 : decode cX5_readName 41 = .ok (.ireturn, 1) := by decide +kernel
theorem dX5_readName_42 : decode cX5_readName 42 = .ok (.iinc 2 1, 3) := by decide +kernel
theorem dX5_readName_45 : decode cX5_readName 45 = .ok (.goto (-43), 3) := by decide +kernel
theorem dX5_readName_48 : decode cX5_readName 48 = .ok (.iconst 0, 1) := by decide +kernel
theorem dX5_readName_49 : decode cX5_readName 49 = .ok (.ireturn, 1) := by decide +kernel
theorem dX5_next_0 : decode cX5_next 0 = .ok (.aload_n 0, 1) := by decide +kernel
theorem dX5_next_1 : decode cX5_next 1 = .ok (.getfield 35, 3) := by decide +kernel
theorem dX5_next_4 : decode cX5_next 4 = .ok (.aload_n 0, 1) := by decide +kernel
theorem dX5_next_5 : decode cX5_next 5 = .ok (.getfield 22, 3) := by decide +kernel
theorem dX5_next_8 : decode cX5_next 8 = .ok (.if_icmp .ge 15, 3) := by decide +kernel
theorem dX5_next_11 : decode cX5_next 11 = .ok (.aload_n 0, 1) := by decide +kernel
theorem dX5_next_12 : decode cX5_next 12 = .ok (.getfield 9, 3) := by decide +kernel
theorem dX5_next_15 : decode cX5_next 15 = .ok (.aload_n 0, 1) := by decide +kernel
theorem dX5_next_16 : decode cX5_next 16 = .ok (.getfield 35, 3) := by decide +kernel
theorem dX5_next_19 : decode cX5_next 19 = .ok (.iaload, 1) := by decide +kernel
theorem dX5_next_20 : decode cX5_next 20 = .ok (.goto 4, 3) := by decide +kernel
theorem dX5_next_23 : decode cX5_next 23 = .ok (.iconst (-1), 1) := by decide +kernel
theorem dX5_next_24 : decode cX5_next 24 = .ok (.ireturn, 1) := by decide +kernel
theorem dX5_add_0 : decode cX5_add 0 = .ok (.aload_n 0, 1) := by decide +kernel
theorem dX5_add_1 : decode cX5_add 1 = .ok (.getfield 38, 3) := by decide +kernel
theorem dX5_add_4 : decode cX5_add 4 = .ok (.bipush 50, 2) := by decide +kernel
theorem dX5_add_6 : decode cX5_add 6 = .ok (.if_icmp .ge 23, 3) := by decide +kernel
theorem dX5_add_9 : decode cX5_add 9 = .ok (.aload_n 0, 1) := by decide +kernel
theorem dX5_add_10 : decode cX5_add 10 = .ok (.getfield 15, 3) := by decide +kernel
theorem dX5_add_13 : decode cX5_add 13 = .ok (.aload_n 0, 1) := by decide +kernel
theorem dX5_add_14 : decode cX5_add 14 = .ok (.getfield 38, 3) := by decide +kernel
theorem dX5_add_17 : decode cX5_add 17 = .ok (.iload_n 1, 1) := by decide +kernel
theorem dX5_add_18 : decode cX5_add 18 = .ok (.iastore, 1) := by decide +kernel
theorem dX5_add_19 : decode cX5_add 19 = .ok (.aload_n 0, 1) := by decide +kernel
theorem dX5_add_20 : decode cX5_add 20 = .ok (.dup, 1) := by decide +kernel
theorem dX5_add_21 : decode cX5_add 21 = .ok (.getfield 38, 3) := by decide +kernel
theorem dX5_add_24 : decode cX5_add 24 = .ok (.iconst 1, 1) := by decide +kernel
theorem dX5_add_25 : decode cX5_add 25 = .ok (.iadd, 1) := by decide +kernel
theorem dX5_add_26 : decode cX5_add 26 = .ok (.putfield 38, 3) := by decide +kernel
theorem dX5_add_29 : decode cX5_add 29 = .ok (.return_, 1) := by decide +kernel
theorem dX5_isDigit_0 : decode cX5_isDigit 0 = .ok (.iload_n 0, 1) := by decide +kernel
theorem dX5_isDigit_1 : decode cX5_isDigit 1 = .ok (.bipush 48, 2) := by decide +kernel
theorem dX5_isDigit_3 : decode cX5_isDigit 3 = .ok (.bipush 57, 2) := by decide +kernel
theorem dX5_isDigit_5 : decode cX5_isDigit 5 = .ok (.invokestatic 75, 3) := by decide +kernel
theorem dX5_isDigit_8 : decode cX5_isDigit 8 = .ok (.ireturn, 1) := by decide +kernel
theorem dX5_levelOf_0 : decode cX5_levelOf 0 = .ok (.iload_n 0, 1) := by decide +kernel
theorem dX5_levelOf_1 : decode cX5_levelOf 1 = .ok (.lookupswitch 101 #[(37, 99), (38, 93), (42, 99), (43, 97), (45, 97), (47, 99), (60, 95), (61, 95), (62, 95), (124, 91)], 91) := by decide +kernel
theorem dX5_levelOf_92 : decode cX5_levelOf 92 = .ok (.iconst 0, 1) := by decide +kernel
theorem dX5_levelOf_93 : decode cX5_levelOf 93 = .ok (.ireturn, 1) := by decide +kernel
theorem dX5_levelOf_94 : decode cX5_levelOf 94 = .ok (.iconst 1, 1) := by decide +kernel
theorem dX5_levelOf_95 : decode cX5_levelOf 95 = .ok (.ireturn, 1) := by decide +kernel
theorem dX5_levelOf_96 : decode cX5_levelOf 96 = .ok (.iconst 2, 1) := by decide +kernel
theorem dX5_levelOf_97 : decode cX5_levelOf 97 = .ok (.ireturn, 1) := by decide +kernel
theorem dX5_levelOf_98 : decode cX5_levelOf 98 = .ok (.iconst 3, 1) := by decide +kernel
theorem dX5_levelOf_99 : decode cX5_levelOf 99 = .ok (.ireturn, 1) := by decide +kernel
theorem dX5_levelOf_100 : decode cX5_levelOf 100 = .ok (.iconst 4, 1) := by decide +kernel
theorem dX5_levelOf_101 : decode cX5_levelOf 101 = .ok (.ireturn, 1) := by decide +kernel
theorem dX5_levelOf_102 : decode cX5_levelOf 102 = .ok (.iconst (-1), 1) := by decide +kernel
theorem dX5_levelOf_103 : decode cX5_levelOf 103 = .ok (.ireturn, 1) := by decide +kernel
theorem dX6_init_0 : decode cX6_init 0 = .ok (.aload_n 0, 1) := by decide +kernel
theorem dX6_init_1 : decode cX6_init 1 = .ok (.invokespecial 3, 3) := by decide +kernel
theorem dX6_init_4 : decode cX6_init 4 = .ok (.aload_n 0, 1) := by decide +kernel
theorem dX6_init_5 : decode cX6_init 5 = .ok (.bipush 40, 2) := by decide +kernel
theorem dX6_init_7 : decode cX6_init 7 = .ok (.newarray .int, 2) := by decide +kernel
theorem dX6_init_9 : decode cX6_init 9 = .ok (.putfield 9, 3) := by decide +kernel
theorem dX6_init_12 : decode cX6_init 12 = .ok (.return_, 1) := by decide +kernel
theorem dX6_begin_0 : decode cX6_begin 0 = .ok (.aload_n 0, 1) := by decide +kernel
theorem dX6_begin_1 : decode cX6_begin 1 = .ok (.iload_n 1, 1) := by decide +kernel
theorem dX6_begin_2 : decode cX6_begin 2 = .ok (.putfield 15, 3) := by decide +kernel
theorem dX6_begin_5 : decode cX6_begin 5 = .ok (.aload_n 0, 1) := by decide +kernel
theorem dX6_begin_6 : decode cX6_begin 6 = .ok (.iload_n 2, 1) := by decide +kernel
theorem dX6_begin_7 : decode cX6_begin 7 = .ok (.bipush 40, 2) := by decide +kernel
theorem dX6_begin_9 : decode cX6_begin 9 = .ok (.invokestatic 19, 3) := by decide +kernel
theorem dX6_begin_12 : decode cX6_begin 12 = .ok (.putfield 23, 3) := by decide +kernel
theorem dX6_begin_15 : decode cX6_begin 15 = .ok (.iconst 0, 1) := by decide +kernel
theorem dX6_begin_16 : decode cX6_begin 16 = .ok (.istore_n 3, 1) := by decide +kernel
theorem dX6_begin_17 : decode cX6_begin 17 = .ok (.iload_n 3, 1) := by decide +kernel
theorem dX6_begin_18 : decode cX6_begin 18 = .ok (.aload_n 0, 1) := by decide +kernel
theorem dX6_begin_19 : decode cX6_begin 19 = .ok (.getfield 23, 3) := by decide +kernel
theorem dX6_begin_22 : decode cX6_begin 22 = .ok (.if_icmp .ge 16, 3) := by decide +kernel
theorem dX6_begin_25 : decode cX6_begin 25 = .ok (.aload_n 0, 1) := by decide +kernel
theorem dX6_begin_26 : decode cX6_begin 26 = .ok (.getfield 9, 3) := by decide +kernel
theorem dX6_begin_29 : decode cX6_begin 29 = .ok (.iload_n 3, 1) := by decide +kernel
theorem dX6_begin_30 : decode cX6_begin 30 = .ok (.iconst 0, 1) := by decide +kernel
theorem dX6_begin_31 : decode cX6_begin 31 = .ok (.iastore, 1) := by decide +kernel
theorem dX6_begin_32 : decode cX6_begin 32 = .ok (.iinc 3 1, 3) := by decide +kernel
theorem dX6_begin_35 : decode cX6_begin 35 = .ok (.goto (-18), 3) := by decide +kernel
theorem dX6_begin_38 : decode cX6_begin 38 = .ok (.return_, 1) := by decide +kernel
theorem dX6_isMissing_0 : decode cX6_isMissing 0 = .ok (.aload_n 0, 1) := by decide +kernel
theorem dX6_isMissing_1 : decode cX6_isMissing 1 = .ok (.getfield 15, 3) := by decide +kernel
theorem dX6_isMissing_4 : decode cX6_isMissing 4 = .ok (.ifCond .ne 7, 3) := by decide +kernel
theorem dX6_isMissing_7 : decode cX6_isMissing 7 = .ok (.iconst 1, 1) := by decide +kernel
theorem dX6_isMissing_8 : decode cX6_isMissing 8 = .ok (.goto 4, 3) := by decide +kernel
theorem dX6_isMissing_11 : decode cX6_isMissing 11 = .ok (.iconst 0, 1) := by decide +kernel
theorem dX6_isMissing_12 : decode cX6_isMissing 12 = .ok (.ireturn, 1) := by decide +kernel
theorem dX6_holds_0 : decode cX6_holds 0 = .ok (.iload_n 1, 1) := by decide +kernel
theorem dX6_holds_1 : decode cX6_holds 1 = .ok (.ifCond .lt 29, 3) := by decide +kernel
theorem dX6_holds_4 : decode cX6_holds 4 = .ok (.iload_n 2, 1) := by decide +kernel
theorem dX6_holds_5 : decode cX6_holds 5 = .ok (.ifCond .lt 25, 3) := by decide +kernel
theorem dX6_holds_8 : decode cX6_holds 8 = .ok (.iload_n 2, 1) := by decide +kernel
theorem dX6_holds_9 : decode cX6_holds 9 = .ok (.aload_n 0, 1) := by decide +kernel
theorem dX6_holds_10 : decode cX6_holds 10 = .ok (.getfield 23, 3) := by decide +kernel
theorem dX6_holds_13 : decode cX6_holds 13 = .ok (.if_icmp .gt 17, 3) := by decide +kernel
theorem dX6_holds_16 : decode cX6_holds 16 = .ok (.iload_n 1, 1) := by decide +kernel
theorem dX6_holds_17 : decode cX6_holds 17 = .ok (.aload_n 0, 1) := by decide +kernel
theorem dX6_holds_18 : decode cX6_holds 18 = .ok (.getfield 23, 3) := by decide +kernel
theorem dX6_holds_21 : decode cX6_holds 21 = .ok (.iload_n 2, 1) := by decide +kernel
theorem dX6_holds_22 : decode cX6_holds 22 = .ok (.isub, 1) := by decide +kernel
theorem dX6_holds_23 : decode cX6_holds 23 = .ok (.if_icmp .gt 7, 3) := by decide +kernel
theorem dX6_holds_26 : decode cX6_holds 26 = .ok (.iconst 1, 1) := by decide +kernel
theorem dX6_holds_27 : decode cX6_holds 27 = .ok (.goto 4, 3) := by decide +kernel
theorem dX6_holds_30 : decode cX6_holds 30 = .ok (.iconst 0, 1) := by decide +kernel
theorem dX6_holds_31 : decode cX6_holds 31 = .ok (.ireturn, 1) := by decide +kernel
theorem dX6_write_0 : decode cX6_write 0 = .ok (.aload_n 0, 1) := by decide +kernel
theorem dX6_write_1 : decode cX6_write 1 = .ok (.getfield 9, 3) := by decide +kernel
theorem dX6_write_4 : decode cX6_write 4 = .ok (.iload_n 1, 1) := by decide +kernel
theorem dX6_write_5 : decode cX6_write 5 = .ok (.aload_n 0, 1) := by decide +kernel
theorem dX6_write_6 : decode cX6_write 6 = .ok (.getfield 15, 3) := by decide +kernel
theorem dX6_write_9 : decode cX6_write 9 = .ok (.bipush 8, 2) := by decide +kernel
theorem dX6_write_11 : decode cX6_write 11 = .ok (.if_icmp .ne 8, 3) := by decide +kernel
theorem dX6_write_14 : decode cX6_write 14 = .ok (.iload_n 2, 1) := by decide +kernel
theorem dX6_write_15 : decode cX6_write 15 = .ok (.i2b, 1) := by decide +kernel
theorem dX6_write_16 : decode cX6_write 16 = .ok (.goto 18, 3) := by decide +kernel
theorem dX6_write_19 : decode cX6_write 19 = .ok (.aload_n 0, 1) := by decide +kernel
theorem dX6_write_20 : decode cX6_write 20 = .ok (.getfield 15, 3) := by decide +kernel
theorem dX6_write_23 : decode cX6_write 23 = .ok (.bipush 16, 2) := by decide +kernel
theorem dX6_write_25 : decode cX6_write 25 = .ok (.if_icmp .ne 8, 3) := by decide +kernel
theorem dX6_write_28 : decode cX6_write 28 = .ok (.iload_n 2, 1) := by decide +kernel
theorem dX6_write_29 : decode cX6_write 29 = .ok (.i2s, 1) := by decide +kernel
theorem dX6_write_30 : decode cX6_write 30 = .ok (.goto 4, 3) := by decide +kernel
theorem dX6_write_33 : decode cX6_write 33 = .ok (.iload_n 2, 1) := by decide +kernel
theorem dX6_write_34 : decode cX6_write 34 = .ok (.iastore, 1) := by decide +kernel
theorem dX6_write_35 : decode cX6_write 35 = .ok (.return_, 1) := by decide +kernel
theorem dX7_init_0 : decode cX7_init 0 = .ok (.aload_n 0, 1) := by decide +kernel
theorem dX7_init_1 : decode cX7_init 1 = .ok (.invokespecial 3, 3) := by decide +kernel
theorem dX7_init_4 : decode cX7_init 4 = .ok (.aload_n 0, 1) := by decide +kernel
theorem dX7_init_5 : decode cX7_init 5 = .ok (.new 9, 3) := by decide +kernel
theorem dX7_init_8 : decode cX7_init 8 = .ok (.dup, 1) := by decide +kernel
theorem dX7_init_9 : decode cX7_init 9 = .ok (.invokespecial 11, 3) := by decide +kernel
theorem dX7_init_12 : decode cX7_init 12 = .ok (.putfield 12, 3) := by decide +kernel
theorem dX7_init_15 : decode cX7_init 15 = .ok (.aload_n 0, 1) := by decide +kernel
theorem dX7_init_16 : decode cX7_init 16 = .ok (.iconst 2, 1) := by decide +kernel
theorem dX7_init_17 : decode cX7_init 17 = .ok (.anewarray 18, 3) := by decide +kernel
theorem dX7_init_20 : decode cX7_init 20 = .ok (.putfield 20, 3) := by decide +kernel
theorem dX7_init_23 : decode cX7_init 23 = .ok (.aload_n 0, 1) := by decide +kernel
theorem dX7_init_24 : decode cX7_init 24 = .ok (.bipush 50, 2) := by decide +kernel
theorem dX7_init_26 : decode cX7_init 26 = .ok (.newarray .int, 2) := by decide +kernel
theorem dX7_init_28 : decode cX7_init 28 = .ok (.putfield 24, 3) := by decide +kernel
theorem dX7_init_31 : decode cX7_init 31 = .ok (.aload_n 0, 1) := by decide +kernel
theorem dX7_init_32 : decode cX7_init 32 = .ok (.bipush 20, 2) := by decide +kernel
theorem dX7_init_34 : decode cX7_init 34 = .ok (.newarray .int, 2) := by decide +kernel
theorem dX7_init_36 : decode cX7_init 36 = .ok (.putfield 28, 3) := by decide +kernel
theorem dX7_init_39 : decode cX7_init 39 = .ok (.aload_n 0, 1) := by decide +kernel
theorem dX7_init_40 : decode cX7_init 40 = .ok (.iconst 1, 1) := by decide +kernel
theorem dX7_init_41 : decode cX7_init 41 = .ok (.putfield 31, 3) := by decide +kernel
theorem dX7_init_44 : decode cX7_init 44 = .ok (.iconst 0, 1) := by decide +kernel
theorem dX7_init_45 : decode cX7_init 45 = .ok (.istore_n 1, 1) := by decide +kernel
theorem dX7_init_46 : decode cX7_init 46 = .ok (.iload_n 1, 1) := by decide +kernel
theorem dX7_init_47 : decode cX7_init 47 = .ok (.iconst 2, 1) := by decide +kernel
theorem dX7_init_48 : decode cX7_init 48 = .ok (.if_icmp .ge 23, 3) := by decide +kernel
theorem dX7_init_51 : decode cX7_init 51 = .ok (.aload_n 0, 1) := by decide +kernel
theorem dX7_init_52 : decode cX7_init 52 = .ok (.getfield 20, 3) := by decide +kernel
theorem dX7_init_55 : decode cX7_init 55 = .ok (.iload_n 1, 1) := by decide +kernel
theorem dX7_init_56 : decode cX7_init 56 = .ok (.new 18, 3) := by decide +kernel
theorem dX7_init_59 : decode cX7_init 59 = .ok (.dup, 1) := by decide +kernel
theorem dX7_init_60 : decode cX7_init 60 = .ok (.iload_n 1, 1) := by decide +kernel
theorem dX7_init_61 : decode cX7_init 61 = .ok (.invokespecial 35, 3) := by decide +kernel
theorem dX7_init_64 : decode cX7_init 64 = .ok (.aastore, 1) := by decide +kernel
theorem dX7_init_65 : decode cX7_init 65 = .ok (.iinc 1 1, 3) := by decide +kernel
theorem dX7_init_68 : decode cX7_init 68 = .ok (.goto (-22), 3) := by decide +kernel
theorem dX7_init_71 : decode cX7_init 71 = .ok (.return_, 1) := by decide +kernel
theorem dX7_copy_0 : decode cX7_copy 0 = .ok (.aload_n 0, 1) := by decide +kernel
theorem dX7_copy_1 : decode cX7_copy 1 = .ok (.getfield 12, 3) := by decide +kernel
theorem dX7_copy_4 : decode cX7_copy 4 = .ok (.aload_n 1, 1) := by decide +kernel
theorem dX7_copy_5 : decode cX7_copy 5 = .ok (.getfield 12, 3) := by decide +kernel
theorem dX7_copy_8 : decode cX7_copy 8 = .ok (.invokevirtual 38, 3) := by decide +kernel
theorem dX7_copy_11 : decode cX7_copy 11 = .ok (.iconst 0, 1) := by decide +kernel
theorem dX7_copy_12 : decode cX7_copy 12 = .ok (.istore_n 2, 1) := by decide +kernel
theorem dX7_copy_13 : decode cX7_copy 13 = .ok (.iload_n 2, 1) := by decide +kernel
theorem dX7_copy_14 : decode cX7_copy 14 = .ok (.iconst 2, 1) := by decide +kernel
theorem dX7_copy_15 : decode cX7_copy 15 = .ok (.if_icmp .ge 36, 3) := by decide +kernel
theorem dX7_copy_18 : decode cX7_copy 18 = .ok (.aload_n 0, 1) := by decide +kernel
theorem dX7_copy_19 : decode cX7_copy 19 = .ok (.getfield 20, 3) := by decide +kernel
theorem dX7_copy_22 : decode cX7_copy 22 = .ok (.iload_n 2, 1) := by decide +kernel
theorem dX7_copy_23 : decode cX7_copy 23 = .ok (.aaload, 1) := by decide +kernel
theorem dX7_copy_24 : decode cX7_copy 24 = .ok (.aload_n 1, 1) := by decide +kernel
theorem dX7_copy_25 : decode cX7_copy 25 = .ok (.getfield 20, 3) := by decide +kernel
theorem dX7_copy_28 : decode cX7_copy 28 = .ok (.iload_n 2, 1) := by decide +kernel
theorem dX7_copy_29 : decode cX7_copy 29 = .ok (.aaload, 1) := by decide +kernel
theorem dX7_copy_30 : decode cX7_copy 30 = .ok (.getfield 42, 3) := by decide +kernel
theorem dX7_copy_33 : decode cX7_copy 33 = .ok (.aload_n 1, 1) := by decide +kernel
theorem dX7_copy_34 : decode cX7_copy 34 = .ok (.getfield 20, 3) := by decide +kernel
theorem dX7_copy_37 : decode cX7_copy 37 = .ok (.iload_n 2, 1) := by decide +kernel
theorem dX7_copy_38 : decode cX7_copy 38 = .ok (.aaload, 1) := by decide +kernel
theorem dX7_copy_39 : decode cX7_copy 39 = .ok (.getfield 45, 3) := by decide +kernel
theorem dX7_copy_42 : decode cX7_copy 42 = .ok (.invokevirtual 48, 3) := by decide +kernel
theorem dX7_copy_45 : decode cX7_copy 45 = .ok (.iinc 2 1, 3) := by decide +kernel
theorem dX7_copy_48 : decode cX7_copy 48 = .ok (.goto (-35), 3) := by decide +kernel
theorem dX7_copy_51 : decode cX7_copy 51 = .ok (.aload_n 1, 1) := by decide +kernel
theorem dX7_copy_52 : decode cX7_copy 52 = .ok (.getfield 24, 3) := by decide +kernel
theorem dX7_copy_55 : decode cX7_copy 55 = .ok (.iconst 0, 1) := by decide +kernel
theorem dX7_copy_56 : decode cX7_copy 56 = .ok (.aload_n 0, 1) := by decide +kernel
theorem dX7_copy_57 : decode cX7_copy 57 = .ok (.getfield 24, 3) := by decide +kernel
theorem dX7_copy_60 : decode cX7_copy 60 = .ok (.iconst 0, 1) := by decide +kernel
theorem dX7_copy_61 : decode cX7_copy 61 = .ok (.bipush 50, 2) := by decide +kernel
theorem dX7_copy_63 : decode cX7_copy 63 = .ok (.invokestatic 52, 3) := by decide +kernel
theorem dX7_copy_66 : decode cX7_copy 66 = .ok (.aload_n 1, 1) := by decide +kernel
theorem dX7_copy_67 : decode cX7_copy 67 = .ok (.getfield 28, 3) := by decide +kernel
theorem dX7_copy_70 : decode cX7_copy 70 = .ok (.iconst 0, 1) := by decide +kernel
theorem dX7_copy_71 : decode cX7_copy 71 = .ok (.aload_n 0, 1) := by decide +kernel
theorem dX7_copy_72 : decode cX7_copy 72 = .ok (.getfield 28, 3) := by decide +kernel
theorem dX7_copy_75 : decode cX7_copy 75 = .ok (.iconst 0, 1) := by decide +kernel
theorem dX7_copy_76 : decode cX7_copy 76 = .ok (.bipush 20, 2) := by decide +kernel
theorem dX7_copy_78 : decode cX7_copy 78 = .ok (.invokestatic 52, 3) := by decide +kernel
theorem dX7_copy_81 : decode cX7_copy 81 = .ok (.aload_n 0, 1) := by decide +kernel
theorem dX7_copy_82 : decode cX7_copy 82 = .ok (.aload_n 1, 1) := by decide +kernel
theorem dX7_copy_83 : decode cX7_copy 83 = .ok (.getfield 58, 3) := by decide +kernel
theorem dX7_copy_86 : decode cX7_copy 86 = .ok (.putfield 58, 3) := by decide +kernel
theorem dX7_copy_89 : decode cX7_copy 89 = .ok (.aload_n 0, 1) := by decide +kernel
theorem dX7_copy_90 : decode cX7_copy 90 = .ok (.aload_n 1, 1) := by decide +kernel
theorem dX7_copy_91 : decode cX7_copy 91 = .ok (.getfield 61, 3) := by decide +kernel
theorem dX7_copy_94 : decode cX7_copy 94 = .ok (.putfield 61, 3) := by decide +kernel
theorem dX7_copy_97 : decode cX7_copy 97 = .ok (.aload_n 0, 1) := by decide +kernel
theorem dX7_copy_98 : decode cX7_copy 98 = .ok (.aload_n 1, 1) := by decide +kernel
theorem dX7_copy_99 : decode cX7_copy 99 = .ok (.getfield 31, 3) := by decide +kernel
theorem dX7_copy_102 : decode cX7_copy 102 = .ok (.putfield 31, 3) := by decide +kernel
theorem dX7_copy_105 : decode cX7_copy 105 = .ok (.return_, 1) := by decide +kernel
theorem dX8_init_0 : decode cX8_init 0 = .ok (.aload_n 0, 1) := by decide +kernel
theorem dX8_init_1 : decode cX8_init 1 = .ok (.invokespecial 3, 3) := by decide +kernel
theorem dX8_init_4 : decode cX8_init 4 = .ok (.aload_n 0, 1) := by decide +kernel
theorem dX8_init_5 : decode cX8_init 5 = .ok (.bipush 40, 2) := by decide +kernel
theorem dX8_init_7 : decode cX8_init 7 = .ok (.newarray .int, 2) := by decide +kernel
theorem dX8_init_9 : decode cX8_init 9 = .ok (.putfield 9, 3) := by decide +kernel
theorem dX8_init_12 : decode cX8_init 12 = .ok (.return_, 1) := by decide +kernel
theorem dX8_speak_0 : decode cX8_speak 0 = .ok (.aload_n 0, 1) := by decide +kernel
theorem dX8_speak_1 : decode cX8_speak 1 = .ok (.aload_n 1, 1) := by decide +kernel
theorem dX8_speak_2 : decode cX8_speak 2 = .ok (.getfield 15, 3) := by decide +kernel
theorem dX8_speak_5 : decode cX8_speak 5 = .ok (.putfield 21, 3) := by decide +kernel
theorem dX8_speak_8 : decode cX8_speak 8 = .ok (.aload_n 0, 1) := by decide +kernel
theorem dX8_speak_9 : decode cX8_speak 9 = .ok (.aload_n 1, 1) := by decide +kernel
theorem dX8_speak_10 : decode cX8_speak 10 = .ok (.getfield 22, 3) := by decide +kernel
theorem dX8_speak_13 : decode cX8_speak 13 = .ok (.putfield 25, 3) := by decide +kernel
theorem dX8_speak_16 : decode cX8_speak 16 = .ok (.aload_n 0, 1) := by decide +kernel
theorem dX8_speak_17 : decode cX8_speak 17 = .ok (.iload_n 2, 1) := by decide +kernel
theorem dX8_speak_18 : decode cX8_speak 18 = .ok (.putfield 26, 3) := by decide +kernel
theorem dX8_speak_21 : decode cX8_speak 21 = .ok (.aload_n 0, 1) := by decide +kernel
theorem dX8_speak_22 : decode cX8_speak 22 = .ok (.iconst 0, 1) := by decide +kernel
theorem dX8_speak_23 : decode cX8_speak 23 = .ok (.putfield 29, 3) := by decide +kernel
theorem dX8_speak_26 : decode cX8_speak 26 = .ok (.aload_n 0, 1) := by decide +kernel
theorem dX8_speak_27 : decode cX8_speak 27 = .ok (.iload_n 3, 1) := by decide +kernel
theorem dX8_speak_28 : decode cX8_speak 28 = .ok (.iload 4, 2) := by decide +kernel
theorem dX8_speak_30 : decode cX8_speak 30 = .ok (.iconst 0, 1) := by decide +kernel
theorem dX8_speak_31 : decode cX8_speak 31 = .ok (.invokevirtual 32, 3) := by decide +kernel
theorem dX8_speak_34 : decode cX8_speak 34 = .ok (.ireturn, 1) := by decide +kernel
theorem dX8_own_0 : decode cX8_own 0 = .ok (.aload_n 0, 1) := by decide +kernel
theorem dX8_own_1 : decode cX8_own 1 = .ok (.aload_n 0, 1) := by decide +kernel
theorem dX8_own_2 : decode cX8_own 2 = .ok (.getfield 21, 3) := by decide +kernel
theorem dX8_own_5 : decode cX8_own 5 = .ok (.iload_n 1, 1) := by decide +kernel
theorem dX8_own_6 : decode cX8_own 6 = .ok (.iload_n 2, 1) := by decide +kernel
theorem dX8_own_7 : decode cX8_own 7 = .ok (.iload_n 3, 1) := by decide +kernel
theorem dX8_own_8 : decode cX8_own 8 = .ok (.invokevirtual 36, 3) := by decide +kernel
theorem dX8_own_11 : decode cX8_own 11 = .ok (.ireturn, 1) := by decide +kernel
theorem dX8_above_0 : decode cX8_above 0 = .ok (.aload_n 0, 1) := by decide +kernel
theorem dX8_above_1 : decode cX8_above 1 = .ok (.getstatic 40, 3) := by decide +kernel
theorem dX8_above_4 : decode cX8_above 4 = .ok (.iload_n 1, 1) := by decide +kernel
theorem dX8_above_5 : decode cX8_above 5 = .ok (.iaload, 1) := by decide +kernel
theorem dX8_above_6 : decode cX8_above 6 = .ok (.iload_n 2, 1) := by decide +kernel
theorem dX8_above_7 : decode cX8_above 7 = .ok (.iload_n 3, 1) := by decide +kernel
theorem dX8_above_8 : decode cX8_above 8 = .ok (.iload 4, 2) := by decide +kernel
theorem dX8_above_10 : decode cX8_above 10 = .ok (.invokevirtual 36, 3) := by decide +kernel
theorem dX8_above_13 : decode cX8_above 13 = .ok (.ireturn, 1) := by decide +kernel
theorem dX8_from_0 : decode cX8_from 0 = .ok (.iload_n 1, 1) := by decide +kernel
theorem dX8_from_1 : decode cX8_from 1 = .ok (.istore 5, 2) := by decide +kernel
theorem dX8_from_3 : decode cX8_from 3 = .ok (.iconst 0, 1) := by decide +kernel
theorem dX8_from_4 : decode cX8_from 4 = .ok (.istore 6, 2) := by decide +kernel
theorem dX8_from_6 : decode cX8_from 6 = .ok (.iload 6, 2) := by decide +kernel
theorem dX8_from_8 : decode cX8_from 8 = .ok (.bipush 7, 2) := by decide +kernel
theorem dX8_from_10 : decode cX8_from 10 = .ok (.if_icmp .ge 68, 3) := by decide +kernel
theorem dX8_from_13 : decode cX8_from 13 = .ok (.iload 5, 2) := by decide +kernel
theorem dX8_from_15 : decode cX8_from 15 = .ok (.iconst 0, 1) := by decide +kernel
theorem dX8_from_16 : decode cX8_from 16 = .ok (.bipush 6, 2) := by decide +kernel
theorem dX8_from_18 : decode cX8_from 18 = .ok (.invokestatic 43, 3) := by decide +kernel
theorem dX8_from_21 : decode cX8_from 21 = .ok (.ifCond .eq 57, 3) := by decide +kernel
theorem dX8_from_24 : decode cX8_from 24 = .ok (.getstatic 47, 3) := by decide +kernel
theorem dX8_from_27 : decode cX8_from 27 = .ok (.iload 5, 2) := by decide +kernel
theorem dX8_from_29 : decode cX8_from 29 = .ok (.iconst 4, 1) := by decide +kernel
theorem dX8_from_30 : decode cX8_from 30 = .ok (.imul, 1) := by decide +kernel
theorem dX8_from_31 : decode cX8_from 31 = .ok (.iload_n 2, 1) := by decide +kernel
theorem dX8_from_32 : decode cX8_from 32 = .ok (.iadd, 1) := by decide +kernel
theorem dX8_from_33 : decode cX8_from 33 = .ok (.iaload, 1) := by decide +kernel
theorem dX8_from_34 : decode cX8_from 34 = .ok (.istore 7, 2) := by decide +kernel
theorem dX8_from_36 : decode cX8_from 36 = .ok (.iload 7, 2) := by decide +kernel
theorem dX8_from_38 : decode cX8_from 38 = .ok (.ifCond .eq 26, 3) := by decide +kernel
theorem dX8_from_41 : decode cX8_from 41 = .ok (.iload 4, 2) := by decide +kernel
theorem dX8_from_43 : decode cX8_from 43 = .ok (.bipush 40, 2) := by decide +kernel
theorem dX8_from_45 : decode cX8_from 45 = .ok (.if_icmp .ge 17, 3) := by decide +kernel
theorem dX8_from_48 : decode cX8_from 48 = .ok (.aload_n 0, 1) := by decide +kernel
theorem dX8_from_49 : decode cX8_from 49 = .ok (.iload 7, 2) := by decide +kernel
theorem dX8_from_51 : decode cX8_from 51 = .ok (.iload_n 3, 1) := by decide +kernel
theorem dX8_from_52 : decode cX8_from 52 = .ok (.iload 4, 2) := by decide +kernel
theorem dX8_from_54 : decode cX8_from 54 = .ok (.iconst 1, 1) := by decide +kernel
theorem dX8_from_55 : decode cX8_from 55 = .ok (.iadd, 1) := by decide +kernel
theorem dX8_from_56 : decode cX8_from 56 = .ok (.invokevirtual 50, 3) := by decide +kernel
theorem dX8_from_59 : decode cX8_from 59 = .ok (.goto 4, 3) := by decide +kernel
theorem dX8_from_62 : decode cX8_from 62 = .ok (.iconst 0, 1) := by decide +kernel
theorem dX8_from_63 : decode cX8_from 63 = .ok (.ireturn, 1) := by decide +kernel
theorem dX8_from_64 : decode cX8_from 64 = .ok (.getstatic 40, 3) := by decide +kernel
theorem dX8_from_67 : decode cX8_from 67 = .ok (.iload 5, 2) := by decide +kernel
theorem dX8_from_69 : decode cX8_from 69 = .ok (.iaload, 1) := by decide +kernel
theorem dX8_from_70 : decode cX8_from 70 = .ok (.istore 5, 2) := by decide +kernel
theorem dX8_from_72 : decode cX8_from 72 = .ok (.iinc 6 1, 3) := by decide +kernel
theorem dX8_from_75 : decode cX8_from 75 = .ok (.goto (-69), 3) := by decide +kernel
theorem dX8_from_78 : decode cX8_from 78 = .ok (.iconst 0, 1) := by decide +kernel
theorem dX8_from_79 : decode cX8_from 79 = .ok (.ireturn, 1) := by decide +kernel
theorem dX8_speakBody_0 : decode cX8_speakBody 0 = .ok (.aload_n 0, 1) := by decide +kernel
theorem dX8_speakBody_1 : decode cX8_speakBody 1 = .ok (.iload_n 1, 1) := by decide +kernel
theorem dX8_speakBody_2 : decode cX8_speakBody 2 = .ok (.invokevirtual 53, 3) := by decide +kernel
theorem dX8_speakBody_5 : decode cX8_speakBody 5 = .ok (.iload_n 1, 1) := by decide +kernel
theorem dX8_speakBody_6 : decode cX8_speakBody 6 = .ok (.lookupswitch 237 #[(10, 98), (11, 105), (12, 115), (13, 122), (20, 138), (30, 149), (40, 166), (50, 176), (60, 193), (70, 204), (71, 219)], 98) := by decide +kernel
theorem dX8_speakBody_104 : decode cX8_speakBody 104 = .ok (.iload_n 2, 1) := by decide +kernel
theorem dX8_speakBody_105 : decode cX8_speakBody 105 = .ok (.aload_n 0, 1) := by decide +kernel
theorem dX8_speakBody_106 : decode cX8_speakBody 106 = .ok (.getfield 26, 3) := by decide +kernel
theorem dX8_speakBody_109 : decode cX8_speakBody 109 = .ok (.iadd, 1) := by decide +kernel
theorem dX8_speakBody_110 : decode cX8_speakBody 110 = .ok (.ireturn, 1) := by decide +kernel
theorem dX8_speakBody_111 : decode cX8_speakBody 111 = .ok (.aload_n 0, 1) := by decide +kernel
theorem dX8_speakBody_112 : decode cX8_speakBody 112 = .ok (.iconst 0, 1) := by decide +kernel
theorem dX8_speakBody_113 : decode cX8_speakBody 113 = .ok (.iload_n 2, 1) := by decide +kernel
theorem dX8_speakBody_114 : decode cX8_speakBody 114 = .ok (.iload_n 3, 1) := by decide +kernel
theorem dX8_speakBody_115 : decode cX8_speakBody 115 = .ok (.invokevirtual 32, 3) := by decide +kernel
theorem dX8_speakBody_118 : decode cX8_speakBody 118 = .ok (.iconst 2, 1) := by decide +kernel
theorem dX8_speakBody_119 : decode cX8_speakBody 119 = .ok (.imul, 1) := by decide +kernel
theorem dX8_speakBody_120 : decode cX8_speakBody 120 = .ok (.ireturn, 1) := by decide +kernel
theorem dX8_speakBody_121 : decode cX8_speakBody 121 = .ok (.iload_n 2, 1) := by decide +kernel
theorem dX8_speakBody_122 : decode cX8_speakBody 122 = .ok (.aload_n 0, 1) := by decide +kernel
theorem dX8_speakBody_123 : decode cX8_speakBody 123 = .ok (.getfield 25, 3) := by decide +kernel
theorem dX8_speakBody_126 : decode cX8_speakBody 126 = .ok (.isub, 1) := by decide +kernel
theorem dX8_speakBody_127 : decode cX8_speakBody 127 = .ok (.ireturn, 1) := by decide +kernel
theorem dX8_speakBody_128 : decode cX8_speakBody 128 = .ok (.aload_n 0, 1) := by decide +kernel
theorem dX8_speakBody_129 : decode cX8_speakBody 129 = .ok (.iconst 1, 1) := by decide +kernel
theorem dX8_speakBody_130 : decode cX8_speakBody 130 = .ok (.iload_n 2, 1) := by decide +kernel
theorem dX8_speakBody_131 : decode cX8_speakBody 131 = .ok (.iload_n 3, 1) := by decide +kernel
theorem dX8_speakBody_132 : decode cX8_speakBody 132 = .ok (.invokevirtual 32, 3) := by decide +kernel
theorem dX8_speakBody_135 : decode cX8_speakBody 135 = .ok (.aload_n 0, 1) := by decide +kernel
theorem dX8_speakBody_136 : decode cX8_speakBody 136 = .ok (.iconst 2, 1) := by decide +kernel
theorem dX8_speakBody_137 : decode cX8_speakBody 137 = .ok (.iload_n 2, 1) := by decide +kernel
theorem dX8_speakBody_138 : decode cX8_speakBody 138 = .ok (.iload_n 3, 1) := by decide +kernel
theorem dX8_speakBody_139 : decode cX8_speakBody 139 = .ok (.invokevirtual 32, 3) := by decide +kernel
theorem dX8_speakBody_142 : decode cX8_speakBody 142 = .ok (.ixor, 1) := by decide +kernel
theorem dX8_speakBody_143 : decode cX8_speakBody 143 = .ok (.ireturn, 1) := by decide +kernel
theorem dX8_speakBody_144 : decode cX8_speakBody 144 = .ok (.aload_n 0, 1) := by decide +kernel
theorem dX8_speakBody_145 : decode cX8_speakBody 145 = .ok (.iconst 1, 1) := by decide +kernel
theorem dX8_speakBody_146 : decode cX8_speakBody 146 = .ok (.iconst 0, 1) := by decide +kernel
theorem dX8_speakBody_147 : decode cX8_speakBody 147 = .ok (.iload_n 2, 1) := by decide +kernel
theorem dX8_speakBody_148 : decode cX8_speakBody 148 = .ok (.iload_n 3, 1) := by decide +kernel
theorem dX8_speakBody_149 : decode cX8_speakBody 149 = .ok (.invokevirtual 57, 3) := by decide +kernel
theorem dX8_speakBody_152 : decode cX8_speakBody 152 = .ok (.iconst 3, 1) := by decide +kernel
theorem dX8_speakBody_153 : decode cX8_speakBody 153 = .ok (.imul, 1) := by decide +kernel
theorem dX8_speakBody_154 : decode cX8_speakBody 154 = .ok (.ireturn, 1) := by decide +kernel
theorem dX8_speakBody_155 : decode cX8_speakBody 155 = .ok (.aload_n 0, 1) := by decide +kernel
theorem dX8_speakBody_156 : decode cX8_speakBody 156 = .ok (.iconst 2, 1) := by decide +kernel
theorem dX8_speakBody_157 : decode cX8_speakBody 157 = .ok (.iconst 1, 1) := by decide +kernel
theorem dX8_speakBody_158 : decode cX8_speakBody 158 = .ok (.iload_n 2, 1) := by decide +kernel
theorem dX8_speakBody_159 : decode cX8_speakBody 159 = .ok (.iload_n 3, 1) := by decide +kernel
theorem dX8_speakBody_160 : decode cX8_speakBody 160 = .ok (.invokevirtual 57, 3) := by decide +kernel
theorem dX8_speakBody_163 : decode cX8_speakBody 163 = .ok (.aload_n 0, 1) := by decide +kernel
theorem dX8_speakBody_164 : decode cX8_speakBody 164 = .ok (.iconst 2, 1) := by decide +kernel
theorem dX8_speakBody_165 : decode cX8_speakBody 165 = .ok (.iconst 1, 1) := by decide +kernel
theorem dX8_speakBody_166 : decode cX8_speakBody 166 = .ok (.iload_n 3, 1) := by decide +kernel
theorem dX8_speakBody_167 : decode cX8_speakBody 167 = .ok (.invokevirtual 32, 3) := by decide +kernel
theorem dX8_speakBody_170 : decode cX8_speakBody 170 = .ok (.isub, 1) := by decide +kernel
theorem dX8_speakBody_171 : decode cX8_speakBody 171 = .ok (.ireturn, 1) := by decide +kernel
theorem dX8_speakBody_172 : decode cX8_speakBody 172 = .ok (.aload_n 0, 1) := by decide +kernel
theorem dX8_speakBody_173 : decode cX8_speakBody 173 = .ok (.iconst 3, 1) := by decide +kernel
theorem dX8_speakBody_174 : decode cX8_speakBody 174 = .ok (.iconst 2, 1) := by decide +kernel
theorem dX8_speakBody_175 : decode cX8_speakBody 175 = .ok (.iload_n 2, 1) := by decide +kernel
theorem dX8_speakBody_176 : decode cX8_speakBody 176 = .ok (.iload_n 3, 1) := by decide +kernel
theorem dX8_speakBody_177 : decode cX8_speakBody 177 = .ok (.invokevirtual 57, 3) := by decide +kernel
theorem dX8_speakBody_180 : decode cX8_speakBody 180 = .ok (.ineg, 1) := by decide +kernel
theorem dX8_speakBody_181 : decode cX8_speakBody 181 = .ok (.ireturn, 1) := by decide +kernel
theorem dX8_speakBody_182 : decode cX8_speakBody 182 = .ok (.aload_n 0, 1) := by decide +kernel
theorem dX8_speakBody_183 : decode cX8_speakBody 183 = .ok (.iconst 4, 1) := by decide +kernel
theorem dX8_speakBody_184 : decode cX8_speakBody 184 = .ok (.iconst 3, 1) := by decide +kernel
theorem dX8_speakBody_185 : decode cX8_speakBody 185 = .ok (.iload_n 2, 1) := by decide +kernel
theorem dX8_speakBody_186 : decode cX8_speakBody 186 = .ok (.iload_n 3, 1) := by decide +kernel
theorem dX8_speakBody_187 : decode cX8_speakBody 187 = .ok (.invokevirtual 57, 3) := by decide +kernel
theorem dX8_speakBody_190 : decode cX8_speakBody 190 = .ok (.aload_n 0, 1) := by decide +kernel
theorem dX8_speakBody_191 : decode cX8_speakBody 191 = .ok (.iconst 0, 1) := by decide +kernel
theorem dX8_speakBody_192 : decode cX8_speakBody 192 = .ok (.iconst 2, 1) := by decide +kernel
theorem dX8_speakBody_193 : decode cX8_speakBody 193 = .ok (.iload_n 3, 1) := by decide +kernel
theorem dX8_speakBody_194 : decode cX8_speakBody 194 = .ok (.invokevirtual 32, 3) := by decide +kernel
theorem dX8_speakBody_197 : decode cX8_speakBody 197 = .ok (.isub, 1) := by decide +kernel
theorem dX8_speakBody_198 : decode cX8_speakBody 198 = .ok (.ireturn, 1) := by decide +kernel
theorem dX8_speakBody_199 : decode cX8_speakBody 199 = .ok (.aload_n 0, 1) := by decide +kernel
theorem dX8_speakBody_200 : decode cX8_speakBody 200 = .ok (.iconst 5, 1) := by decide +kernel
theorem dX8_speakBody_201 : decode cX8_speakBody 201 = .ok (.iconst 1, 1) := by decide +kernel
theorem dX8_speakBody_202 : decode cX8_speakBody 202 = .ok (.iload_n 2, 1) := by decide +kernel
theorem dX8_speakBody_203 : decode cX8_speakBody 203 = .ok (.iconst 1, 1) := by decide +kernel
theorem dX8_speakBody_204 : decode cX8_speakBody 204 = .ok (.iadd, 1) := by decide +kernel
theorem dX8_speakBody_205 : decode cX8_speakBody 205 = .ok (.iload_n 3, 1) := by decide +kernel
theorem dX8_speakBody_206 : decode cX8_speakBody 206 = .ok (.invokevirtual 57, 3) := by decide +kernel
theorem dX8_speakBody_209 : decode cX8_speakBody 209 = .ok (.ireturn, 1) := by decide +kernel
theorem dX8_speakBody_210 : decode cX8_speakBody 210 = .ok (.aload_n 0, 1) := by decide +kernel
theorem dX8_speakBody_211 : decode cX8_speakBody 211 = .ok (.bipush 6, 2) := by decide +kernel
theorem dX8_speakBody_213 : decode cX8_speakBody 213 = .ok (.iconst 2, 1) := by decide +kernel
theorem dX8_speakBody_214 : decode cX8_speakBody 214 = .ok (.iload_n 2, 1) := by decide +kernel
theorem dX8_speakBody_215 : decode cX8_speakBody 215 = .ok (.iload_n 3, 1) := by decide +kernel
theorem dX8_speakBody_216 : decode cX8_speakBody 216 = .ok (.invokevirtual 57, 3) := by decide +kernel
theorem dX8_speakBody_219 : decode cX8_speakBody 219 = .ok (.aload_n 0, 1) := by decide +kernel
theorem dX8_speakBody_220 : decode cX8_speakBody 220 = .ok (.getfield 26, 3) := by decide +kernel
theorem dX8_speakBody_223 : decode cX8_speakBody 223 = .ok (.ixor, 1) := by decide +kernel
theorem dX8_speakBody_224 : decode cX8_speakBody 224 = .ok (.ireturn, 1) := by decide +kernel
theorem dX8_speakBody_225 : decode cX8_speakBody 225 = .ok (.aload_n 0, 1) := by decide +kernel
theorem dX8_speakBody_226 : decode cX8_speakBody 226 = .ok (.iconst 1, 1) := by decide +kernel
theorem dX8_speakBody_227 : decode cX8_speakBody 227 = .ok (.iload_n 2, 1) := by decide +kernel
theorem dX8_speakBody_228 : decode cX8_speakBody 228 = .ok (.iload_n 3, 1) := by decide +kernel
theorem dX8_speakBody_229 : decode cX8_speakBody 229 = .ok (.invokevirtual 32, 3) := by decide +kernel
theorem dX8_speakBody_232 : decode cX8_speakBody 232 = .ok (.aload_n 0, 1) := by decide +kernel
theorem dX8_speakBody_233 : decode cX8_speakBody 233 = .ok (.bipush 6, 2) := by decide +kernel
theorem dX8_speakBody_235 : decode cX8_speakBody 235 = .ok (.iconst 3, 1) := by decide +kernel
theorem dX8_speakBody_236 : decode cX8_speakBody 236 = .ok (.iload_n 2, 1) := by decide +kernel
theorem dX8_speakBody_237 : decode cX8_speakBody 237 = .ok (.iload_n 3, 1) := by decide +kernel
theorem dX8_speakBody_238 : decode cX8_speakBody 238 = .ok (.invokevirtual 57, 3) := by decide +kernel
theorem dX8_speakBody_241 : decode cX8_speakBody 241 = .ok (.isub, 1) := by decide +kernel
theorem dX8_speakBody_242 : decode cX8_speakBody 242 = .ok (.ireturn, 1) := by decide +kernel
theorem dX8_speakBody_243 : decode cX8_speakBody 243 = .ok (.iconst 0, 1) := by decide +kernel
theorem dX8_speakBody_244 : decode cX8_speakBody 244 = .ok (.ireturn, 1) := by decide +kernel
theorem dX8_note_0 : decode cX8_note 0 = .ok (.aload_n 0, 1) := by decide +kernel
theorem dX8_note_1 : decode cX8_note 1 = .ok (.getfield 29, 3) := by decide +kernel
theorem dX8_note_4 : decode cX8_note 4 = .ok (.bipush 40, 2) := by decide +kernel
theorem dX8_note_6 : decode cX8_note 6 = .ok (.if_icmp .ge 23, 3) := by decide +kernel
theorem dX8_note_9 : decode cX8_note 9 = .ok (.aload_n 0, 1) := by decide +kernel
theorem dX8_note_10 : decode cX8_note 10 = .ok (.getfield 9, 3) := by decide +kernel
theorem dX8_note_13 : decode cX8_note 13 = .ok (.aload_n 0, 1) := by decide +kernel
theorem dX8_note_14 : decode cX8_note 14 = .ok (.getfield 29, 3) := by decide +kernel
theorem dX8_note_17 : decode cX8_note 17 = .ok (.iload_n 1, 1) := by decide +kernel
theorem dX8_note_18 : decode cX8_note 18 = .ok (.iastore, 1) := by decide +kernel
theorem dX8_note_19 : decode cX8_note 19 = .ok (.aload_n 0, 1) := by decide +kernel
theorem dX8_note_20 : decode cX8_note 20 = .ok (.dup, 1) := by decide +kernel
theorem dX8_note_21 : decode cX8_note 21 = .ok (.getfield 29, 3) := by decide +kernel
theorem dX8_note_24 : decode cX8_note 24 = .ok (.iconst 1, 1) := by decide +kernel
theorem dX8_note_25 : decode cX8_note 25 = .ok (.iadd, 1) := by decide +kernel
theorem dX8_note_26 : decode cX8_note 26 = .ok (.putfield 29, 3) := by decide +kernel
theorem dX8_note_29 : decode cX8_note 29 = .ok (.return_, 1) := by decide +kernel
theorem dX9_init_0 : decode cX9_init 0 = .ok (.aload_n 0, 1) := by decide +kernel
theorem dX9_init_1 : decode cX9_init 1 = .ok (.invokespecial 1, 3) := by decide +kernel
theorem dX9_init_4 : decode cX9_init 4 = .ok (.aload_n 0, 1) := by decide +kernel
theorem dX9_init_5 : decode cX9_init 5 = .ok (.new 7, 3) := by decide +kernel
theorem dX9_init_8 : decode cX9_init 8 = .ok (.dup, 1) := by decide +kernel
theorem dX9_init_9 : decode cX9_init 9 = .ok (.invokespecial 9, 3) := by decide +kernel
theorem dX9_init_12 : decode cX9_init 12 = .ok (.putfield 10, 3) := by decide +kernel
theorem dX9_init_15 : decode cX9_init 15 = .ok (.aload_n 0, 1) := by decide +kernel
theorem dX9_init_16 : decode cX9_init 16 = .ok (.new 7, 3) := by decide +kernel
theorem dX9_init_19 : decode cX9_init 19 = .ok (.dup, 1) := by decide +kernel
theorem dX9_init_20 : decode cX9_init 20 = .ok (.invokespecial 9, 3) := by decide +kernel
theorem dX9_init_23 : decode cX9_init 23 = .ok (.putfield 16, 3) := by decide +kernel
theorem dX9_init_26 : decode cX9_init 26 = .ok (.aload_n 0, 1) := by decide +kernel
theorem dX9_init_27 : decode cX9_init 27 = .ok (.new 19, 3) := by decide +kernel
theorem dX9_init_30 : decode cX9_init 30 = .ok (.dup, 1) := by decide +kernel
theorem dX9_init_31 : decode cX9_init 31 = .ok (.invokespecial 21, 3) := by decide +kernel
theorem dX9_init_34 : decode cX9_init 34 = .ok (.putfield 22, 3) := by decide +kernel
theorem dX9_init_37 : decode cX9_init 37 = .ok (.aload_n 0, 1) := by decide +kernel
theorem dX9_init_38 : decode cX9_init 38 = .ok (.new 26, 3) := by decide +kernel
theorem dX9_init_41 : decode cX9_init 41 = .ok (.dup, 1) := by decide +kernel
theorem dX9_init_42 : decode cX9_init 42 = .ok (.invokespecial 28, 3) := by decide +kernel
theorem dX9_init_45 : decode cX9_init 45 = .ok (.putfield 29, 3) := by decide +kernel
theorem dX9_init_48 : decode cX9_init 48 = .ok (.aload_n 0, 1) := by decide +kernel
theorem dX9_init_49 : decode cX9_init 49 = .ok (.new 33, 3) := by decide +kernel
theorem dX9_init_52 : decode cX9_init 52 = .ok (.dup, 1) := by decide +kernel
theorem dX9_init_53 : decode cX9_init 53 = .ok (.invokespecial 35, 3) := by decide +kernel
theorem dX9_init_56 : decode cX9_init 56 = .ok (.putfield 36, 3) := by decide +kernel
theorem dX9_init_59 : decode cX9_init 59 = .ok (.aload_n 0, 1) := by decide +kernel
theorem dX9_init_60 : decode cX9_init 60 = .ok (.iconst 4, 1) := by decide +kernel
theorem dX9_init_61 : decode cX9_init 61 = .ok (.anewarray 40, 3) := by decide +kernel
theorem dX9_init_64 : decode cX9_init 64 = .ok (.putfield 42, 3) := by decide +kernel
theorem dX9_init_67 : decode cX9_init 67 = .ok (.aload_n 0, 1) := by decide +kernel
theorem dX9_init_68 : decode cX9_init 68 = .ok (.bipush 6, 2) := by decide +kernel
theorem dX9_init_70 : decode cX9_init 70 = .ok (.newarray .int, 2) := by decide +kernel
theorem dX9_init_72 : decode cX9_init 72 = .ok (.putfield 46, 3) := by decide +kernel
theorem dX9_init_75 : decode cX9_init 75 = .ok (.aload_n 0, 1) := by decide +kernel
theorem dX9_init_76 : decode cX9_init 76 = .ok (.iconst 5, 1) := by decide +kernel
theorem dX9_init_77 : decode cX9_init 77 = .ok (.newarray .int, 2) := by decide +kernel
theorem dX9_init_79 : decode cX9_init 79 = .ok (.putfield 50, 3) := by decide +kernel
theorem dX9_init_82 : decode cX9_init 82 = .ok (.aload_n 0, 1) := by decide +kernel
theorem dX9_init_83 : decode cX9_init 83 = .ok (.iconst 5, 1) := by decide +kernel
theorem dX9_init_84 : decode cX9_init 84 = .ok (.newarray .int, 2) := by decide +kernel
theorem dX9_init_86 : decode cX9_init 86 = .ok (.putfield 53, 3) := by decide +kernel
theorem dX9_init_89 : decode cX9_init 89 = .ok (.iconst 0, 1) := by decide +kernel
theorem dX9_init_90 : decode cX9_init 90 = .ok (.istore_n 1, 1) := by decide +kernel
theorem dX9_init_91 : decode cX9_init 91 = .ok (.iload_n 1, 1) := by decide +kernel
theorem dX9_init_92 : decode cX9_init 92 = .ok (.iconst 4, 1) := by decide +kernel
theorem dX9_init_93 : decode cX9_init 93 = .ok (.if_icmp .ge 22, 3) := by decide +kernel
theorem dX9_init_96 : decode cX9_init 96 = .ok (.aload_n 0, 1) := by decide +kernel
theorem dX9_init_97 : decode cX9_init 97 = .ok (.getfield 42, 3) := by decide +kernel
theorem dX9_init_100 : decode cX9_init 100 = .ok (.iload_n 1, 1) := by decide +kernel
theorem dX9_init_101 : decode cX9_init 101 = .ok (.new 40, 3) := by decide +kernel
theorem dX9_init_104 : decode cX9_init 104 = .ok (.dup, 1) := by decide +kernel
theorem dX9_init_105 : decode cX9_init 105 = .ok (.invokespecial 56, 3) := by decide +kernel
theorem dX9_init_108 : decode cX9_init 108 = .ok (.aastore, 1) := by decide +kernel
theorem dX9_init_109 : decode cX9_init 109 = .ok (.iinc 1 1, 3) := by decide +kernel
theorem dX9_init_112 : decode cX9_init 112 = .ok (.goto (-21), 3) := by decide +kernel
theorem dX9_init_115 : decode cX9_init 115 = .ok (.return_, 1) := by decide +kernel
theorem dX9_ash_0 : decode cX9_ash 0 = .ok (.aload_n 0, 1) := by decide +kernel
theorem dX9_ash_1 : decode cX9_ash 1 = .ok (.getfield 10, 3) := by decide +kernel
theorem dX9_ash_4 : decode cX9_ash 4 = .ok (.getfield 57, 3) := by decide +kernel
theorem dX9_ash_7 : decode cX9_ash 7 = .ok (.astore_n 2, 1) := by decide +kernel
theorem dX9_ash_8 : decode cX9_ash 8 = .ok (.iload_n 1, 1) := by decide +kernel
theorem dX9_ash_9 : decode cX9_ash 9 = .ok (.invokestatic 60, 3) := by decide +kernel
theorem dX9_ash_12 : decode cX9_ash 12 = .ok (.ifCond .ne 9, 3) := by decide +kernel
theorem dX9_ash_15 : decode cX9_ash 15 = .ok (.aload_n 0, 1) := by decide +kernel
theorem dX9_ash_16 : decode cX9_ash 16 = .ok (.iconst 1, 1) := by decide +kernel
theorem dX9_ash_17 : decode cX9_ash 17 = .ok (.invokevirtual 64, 3) := by decide +kernel
theorem dX9_ash_20 : decode cX9_ash 20 = .ok (.ireturn, 1) := by decide +kernel
theorem dX9_ash_21 : decode cX9_ash 21 = .ok (.aload_n 2, 1) := by decide +kernel
theorem dX9_ash_22 : decode cX9_ash 22 = .ok (.getfield 68, 3) := by decide +kernel
theorem dX9_ash_25 : decode cX9_ash 25 = .ok (.iconst 5, 1) := by decide +kernel
theorem dX9_ash_26 : decode cX9_ash 26 = .ok (.if_icmp .lt 9, 3) := by decide +kernel
theorem dX9_ash_29 : decode cX9_ash 29 = .ok (.aload_n 0, 1) := by decide +kernel
theorem dX9_ash_30 : decode cX9_ash 30 = .ok (.iconst 4, 1) := by decide +kernel
theorem dX9_ash_31 : decode cX9_ash 31 = .ok (.invokevirtual 64, 3) := by decide +kernel
theorem dX9_ash_34 : decode cX9_ash 34 = .ok (.ireturn, 1) := by decide +kernel
theorem dX9_ash_35 : decode cX9_ash 35 = .ok (.aload_n 2, 1) := by decide +kernel
theorem dX9_ash_36 : decode cX9_ash 36 = .ok (.getfield 72, 3) := by decide +kernel
theorem dX9_ash_39 : decode cX9_ash 39 = .ok (.aload_n 2, 1) := by decide +kernel
theorem dX9_ash_40 : decode cX9_ash 40 = .ok (.getfield 68, 3) := by decide +kernel
theorem dX9_ash_43 : decode cX9_ash 43 = .ok (.aaload, 1) := by decide +kernel
theorem dX9_ash_44 : decode cX9_ash 44 = .ok (.iload_n 1, 1) := by decide +kernel
theorem dX9_ash_45 : decode cX9_ash 45 = .ok (.invokevirtual 76, 3) := by decide +kernel
theorem dX9_ash_48 : decode cX9_ash 48 = .ok (.aload_n 2, 1) := by decide +kernel
theorem dX9_ash_49 : decode cX9_ash 49 = .ok (.dup, 1) := by decide +kernel
theorem dX9_ash_50 : decode cX9_ash 50 = .ok (.getfield 68, 3) := by decide +kernel
theorem dX9_ash_53 : decode cX9_ash 53 = .ok (.iconst 1, 1) := by decide +kernel
theorem dX9_ash_54 : decode cX9_ash 54 = .ok (.iadd, 1) := by decide +kernel
theorem dX9_ash_55 : decode cX9_ash 55 = .ok (.putfield 68, 3) := by decide +kernel
theorem dX9_ash_58 : decode cX9_ash 58 = .ok (.aload_n 2, 1) := by decide +kernel
theorem dX9_ash_59 : decode cX9_ash 59 = .ok (.getfield 68, 3) := by decide +kernel
theorem dX9_ash_62 : decode cX9_ash 62 = .ok (.iconst 1, 1) := by decide +kernel
theorem dX9_ash_63 : decode cX9_ash 63 = .ok (.isub, 1) := by decide +kernel
theorem dX9_ash_64 : decode cX9_ash 64 = .ok (.ireturn, 1) := by decide +kernel
theorem dX9_ofAsh_0 : decode cX9_ofAsh 0 = .ok (.aload_n 0, 1) := by decide +kernel
theorem dX9_ofAsh_1 : decode cX9_ofAsh 1 = .ok (.getfield 10, 3) := by decide +kernel
theorem dX9_ofAsh_4 : decode cX9_ofAsh 4 = .ok (.getfield 57, 3) := by decide +kernel
theorem dX9_ofAsh_7 : decode cX9_ofAsh 7 = .ok (.iload_n 1, 1) := by decide +kernel
theorem dX9_ofAsh_8 : decode cX9_ofAsh 8 = .ok (.invokevirtual 82, 3) := by decide +kernel
theorem dX9_ofAsh_11 : decode cX9_ofAsh 11 = .ok (.ifCond .ne 9, 3) := by decide +kernel
theorem dX9_ofAsh_14 : decode cX9_ofAsh 14 = .ok (.aload_n 0, 1) := by decide +kernel
theorem dX9_ofAsh_15 : decode cX9_ofAsh 15 = .ok (.iconst 1, 1) := by decide +kernel
theorem dX9_ofAsh_16 : decode cX9_ofAsh 16 = .ok (.invokevirtual 64, 3) := by decide +kernel
theorem dX9_ofAsh_19 : decode cX9_ofAsh 19 = .ok (.ireturn, 1) := by decide +kernel
theorem dX9_ofAsh_20 : decode cX9_ofAsh 20 = .ok (.aload_n 0, 1) := by decide +kernel
theorem dX9_ofAsh_21 : decode cX9_ofAsh 21 = .ok (.getfield 10, 3) := by decide +kernel
theorem dX9_ofAsh_24 : decode cX9_ofAsh 24 = .ok (.getfield 57, 3) := by decide +kernel
theorem dX9_ofAsh_27 : decode cX9_ofAsh 27 = .ok (.getfield 72, 3) := by decide +kernel
theorem dX9_ofAsh_30 : decode cX9_ofAsh 30 = .ok (.iload_n 1, 1) := by decide +kernel
theorem dX9_ofAsh_31 : decode cX9_ofAsh 31 = .ok (.aaload, 1) := by decide +kernel
theorem dX9_ofAsh_32 : decode cX9_ofAsh 32 = .ok (.astore_n 3, 1) := by decide +kernel
theorem dX9_ofAsh_33 : decode cX9_ofAsh 33 = .ok (.iload_n 2, 1) := by decide +kernel
theorem dX9_ofAsh_34 : decode cX9_ofAsh 34 = .ok (.tableswitch 66 0 4 #[34, 39, 44, 49, 54], 34) := by decide +kernel
theorem dX9_ofAsh_68 : decode cX9_ofAsh 68 = .ok (.aload_n 3, 1) := by decide +kernel
theorem dX9_ofAsh_69 : decode cX9_ofAsh 69 = .ok (.getfield 85, 3) := by decide +kernel
theorem dX9_ofAsh_72 : decode cX9_ofAsh 72 = .ok (.ireturn, 1) := by decide +kernel
theorem dX9_ofAsh_73 : decode cX9_ofAsh 73 = .ok (.aload_n 3, 1) := by decide +kernel
theorem dX9_ofAsh_74 : decode cX9_ofAsh 74 = .ok (.getfield 88, 3) := by decide +kernel
theorem dX9_ofAsh_77 : decode cX9_ofAsh 77 = .ok (.ireturn, 1) := by decide +kernel
theorem dX9_ofAsh_78 : decode cX9_ofAsh 78 = .ok (.aload_n 3, 1) := by decide +kernel
theorem dX9_ofAsh_79 : decode cX9_ofAsh 79 = .ok (.getfield 91, 3) := by decide +kernel
theorem dX9_ofAsh_82 : decode cX9_ofAsh 82 = .ok (.ireturn, 1) := by decide +kernel
theorem dX9_ofAsh_83 : decode cX9_ofAsh 83 = .ok (.aload_n 3, 1) := by decide +kernel
theorem dX9_ofAsh_84 : decode cX9_ofAsh 84 = .ok (.getfield 94, 3) := by decide +kernel
theorem dX9_ofAsh_87 : decode cX9_ofAsh 87 = .ok (.ireturn, 1) := by decide +kernel
theorem dX9_ofAsh_88 : decode cX9_ofAsh 88 = .ok (.aload_n 0, 1) := by decide +kernel
theorem dX9_ofAsh_89 : decode cX9_ofAsh 89 = .ok (.getfield 10, 3) := by decide +kernel
theorem dX9_ofAsh_92 : decode cX9_ofAsh 92 = .ok (.getfield 57, 3) := by decide +kernel
theorem dX9_ofAsh_95 : decode cX9_ofAsh 95 = .ok (.iload_n 1, 1) := by decide +kernel
theorem dX9_ofAsh_96 : decode cX9_ofAsh 96 = .ok (.invokevirtual 97, 3) := by decide +kernel
theorem dX9_ofAsh_99 : decode cX9_ofAsh 99 = .ok (.ireturn, 1) := by decide +kernel
theorem dX9_ofAsh_100 : decode cX9_ofAsh 100 = .ok (.aload_n 0, 1) := by decide +kernel
theorem dX9_ofAsh_101 : decode cX9_ofAsh 101 = .ok (.iconst 1, 1) := by decide +kernel
theorem dX9_ofAsh_102 : decode cX9_ofAsh 102 = .ok (.invokevirtual 64, 3) := by decide +kernel
theorem dX9_ofAsh_105 : decode cX9_ofAsh 105 = .ok (.ireturn, 1) := by decide +kernel
theorem dX9_hedge_0 : decode cX9_hedge 0 = .ok (.aload_n 0, 1) := by decide +kernel
theorem dX9_hedge_1 : decode cX9_hedge 1 = .ok (.getfield 10, 3) := by decide +kernel
theorem dX9_hedge_4 : decode cX9_hedge 4 = .ok (.getfield 57, 3) := by decide +kernel
theorem dX9_hedge_7 : decode cX9_hedge 7 = .ok (.iload_n 1, 1) := by decide +kernel
theorem dX9_hedge_8 : decode cX9_hedge 8 = .ok (.invokevirtual 82, 3) := by decide +kernel
theorem dX9_hedge_11 : decode cX9_hedge 11 = .ok (.ifCond .eq 30, 3) := by decide +kernel
theorem dX9_hedge_14 : decode cX9_hedge 14 = .ok (.iload_n 2, 1) := by decide +kernel
theorem dX9_hedge_15 : decode cX9_hedge 15 = .ok (.iconst 0, 1) := by decide +kernel
theorem dX9_hedge_16 : decode cX9_hedge 16 = .ok (.iconst 1, 1) := by decide +kernel
theorem dX9_hedge_17 : decode cX9_hedge 17 = .ok (.invokestatic 100, 3) := by decide +kernel
theorem dX9_hedge_20 : decode cX9_hedge 20 = .ok (.ifCond .eq 21, 3) := by decide +kernel
theorem dX9_hedge_23 : decode cX9_hedge 23 = .ok (.iload_n 3, 1) := by decide +kernel
theorem dX9_hedge_24 : decode cX9_hedge 24 = .ok (.iconst 0, 1) := by decide +kernel
theorem dX9_hedge_25 : decode cX9_hedge 25 = .ok (.iload_n 2, 1) := by decide +kernel
theorem dX9_hedge_26 : decode cX9_hedge 26 = .ok (.ifCond .ne 8, 3) := by decide +kernel
theorem dX9_hedge_29 : decode cX9_hedge 29 = .ok (.bipush 9, 2) := by decide +kernel
theorem dX9_hedge_31 : decode cX9_hedge 31 = .ok (.goto 4, 3) := by decide +kernel
theorem dX9_hedge_34 : decode cX9_hedge 34 = .ok (.iconst 3, 1) := by decide +kernel
theorem dX9_hedge_35 : decode cX9_hedge 35 = .ok (.invokestatic 100, 3) := by decide +kernel
theorem dX9_hedge_38 : decode cX9_hedge 38 = .ok (.ifCond .ne 9, 3) := by decide +kernel
theorem dX9_hedge_41 : decode cX9_hedge 41 = .ok (.aload_n 0, 1) := by decide +kernel
theorem dX9_hedge_42 : decode cX9_hedge 42 = .ok (.iconst 1, 1) := by decide +kernel
theorem dX9_hedge_43 : decode cX9_hedge 43 = .ok (.invokevirtual 64, 3) := by decide +kernel
theorem dX9_hedge_46 : decode cX9_hedge 46 = .ok (.ireturn, 1) := by decide +kernel
theorem dX9_hedge_47 : decode cX9_hedge 47 = .ok (.aload_n 0, 1) := by decide +kernel
theorem dX9_hedge_48 : decode cX9_hedge 48 = .ok (.getfield 10, 3) := by decide +kernel
theorem dX9_hedge_51 : decode cX9_hedge 51 = .ok (.getfield 57, 3) := by decide +kernel
theorem dX9_hedge_54 : decode cX9_hedge 54 = .ok (.getfield 72, 3) := by decide +kernel
theorem dX9_hedge_57 : decode cX9_hedge 57 = .ok (.iload_n 1, 1) := by decide +kernel
theorem dX9_hedge_58 : decode cX9_hedge 58 = .ok (.aaload, 1) := by decide +kernel
theorem dX9_hedge_59 : decode cX9_hedge 59 = .ok (.astore 4, 2) := by decide +kernel
theorem dX9_hedge_61 : decode cX9_hedge 61 = .ok (.iload_n 2, 1) := by decide +kernel
theorem dX9_hedge_62 : decode cX9_hedge 62 = .ok (.ifCond .ne 19, 3) := by decide +kernel
theorem dX9_hedge_65 : decode cX9_hedge 65 = .ok (.aload 4, 2) := by decide +kernel
theorem dX9_hedge_67 : decode cX9_hedge 67 = .ok (.getfield 91, 3) := by decide +kernel
theorem dX9_hedge_70 : decode cX9_hedge 70 = .ok (.istore 5, 2) := by decide +kernel
theorem dX9_hedge_72 : decode cX9_hedge 72 = .ok (.aload 4, 2) := by decide +kernel
theorem dX9_hedge_74 : decode cX9_hedge 74 = .ok (.iload_n 3, 1) := by decide +kernel
theorem dX9_hedge_75 : decode cX9_hedge 75 = .ok (.putfield 91, 3) := by decide +kernel
theorem dX9_hedge_78 : decode cX9_hedge 78 = .ok (.goto 16, 3) := by decide +kernel
theorem dX9_hedge_81 : decode cX9_hedge 81 = .ok (.aload 4, 2) := by decide +kernel
theorem dX9_hedge_83 : decode cX9_hedge 83 = .ok (.getfield 94, 3) := by decide +kernel
theorem dX9_hedge_86 : decode cX9_hedge 86 = .ok (.istore 5, 2) := by decide +kernel
theorem dX9_hedge_88 : decode cX9_hedge 88 = .ok (.aload 4, 2) := by decide +kernel
theorem dX9_hedge_90 : decode cX9_hedge 90 = .ok (.iload_n 3, 1) := by decide +kernel
theorem dX9_hedge_91 : decode cX9_hedge 91 = .ok (.putfield 94, 3) := by decide +kernel
theorem dX9_hedge_94 : decode cX9_hedge 94 = .ok (.iload 5, 2) := by decide +kernel
theorem dX9_hedge_96 : decode cX9_hedge 96 = .ok (.ireturn, 1) := by decide +kernel
theorem dX9_become_0 : decode cX9_become 0 = .ok (.aload_n 0, 1) := by decide +kernel
theorem dX9_become_1 : decode cX9_become 1 = .ok (.getfield 10, 3) := by decide +kernel
theorem dX9_become_4 : decode cX9_become 4 = .ok (.getfield 57, 3) := by decide +kernel
theorem dX9_become_7 : decode cX9_become 7 = .ok (.iload_n 1, 1) := by decide +kernel
theorem dX9_become_8 : decode cX9_become 8 = .ok (.invokevirtual 82, 3) := by decide +kernel
theorem dX9_become_11 : decode cX9_become 11 = .ok (.ifCond .eq 10, 3) := by decide +kernel
theorem dX9_become_14 : decode cX9_become 14 = .ok (.iload_n 2, 1) := by decide +kernel
theorem dX9_become_15 : decode cX9_become 15 = .ok (.invokestatic 60, 3) := by decide +kernel
theorem dX9_become_18 : decode cX9_become 18 = .ok (.ifCond .ne 9, 3) := by decide +kernel
theorem dX9_become_21 : decode cX9_become 21 = .ok (.aload_n 0, 1) := by decide +kernel
theorem dX9_become_22 : decode cX9_become 22 = .ok (.iconst 1, 1) := by decide +kernel
theorem dX9_become_23 : decode cX9_become 23 = .ok (.invokevirtual 64, 3) := by decide +kernel
theorem dX9_become_26 : decode cX9_become 26 = .ok (.ireturn, 1) := by decide +kernel
theorem dX9_become_27 : decode cX9_become 27 = .ok (.aload_n 0, 1) := by decide +kernel
theorem dX9_become_28 : decode cX9_become 28 = .ok (.getfield 10, 3) := by decide +kernel
theorem dX9_become_31 : decode cX9_become 31 = .ok (.getfield 57, 3) := by decide +kernel
theorem dX9_become_34 : decode cX9_become 34 = .ok (.getfield 72, 3) := by decide +kernel
theorem dX9_become_37 : decode cX9_become 37 = .ok (.iload_n 1, 1) := by decide +kernel
theorem dX9_become_38 : decode cX9_become 38 = .ok (.aaload, 1) := by decide +kernel
theorem dX9_become_39 : decode cX9_become 39 = .ok (.astore_n 3, 1) := by decide +kernel
theorem dX9_become_40 : decode cX9_become 40 = .ok (.aload_n 3, 1) := by decide +kernel
theorem dX9_become_41 : decode cX9_become 41 = .ok (.getfield 85, 3) := by decide +kernel
theorem dX9_become_44 : decode cX9_become 44 = .ok (.istore 4, 2) := by decide +kernel
theorem dX9_become_46 : decode cX9_become 46 = .ok (.aload_n 3, 1) := by decide +kernel
theorem dX9_become_47 : decode cX9_become 47 = .ok (.iload_n 2, 1) := by decide +kernel
theorem dX9_become_48 : decode cX9_become 48 = .ok (.bipush 10, 2) := by decide +kernel
theorem dX9_become_50 : decode cX9_become 50 = .ok (.idiv, 1) := by decide +kernel
theorem dX9_become_51 : decode cX9_become 51 = .ok (.putfield 85, 3) := by decide +kernel
theorem dX9_become_54 : decode cX9_become 54 = .ok (.aload_n 3, 1) := by decide +kernel
theorem dX9_become_55 : decode cX9_become 55 = .ok (.iload_n 2, 1) := by decide +kernel
theorem dX9_become_56 : decode cX9_become 56 = .ok (.bipush 10, 2) := by decide +kernel
theorem dX9_become_58 : decode cX9_become 58 = .ok (.irem, 1) := by decide +kernel
theorem dX9_become_59 : decode cX9_become 59 = .ok (.putfield 88, 3) := by decide +kernel
theorem dX9_become_62 : decode cX9_become 62 = .ok (.iload 4, 2) := by decide +kernel
theorem dX9_become_64 : decode cX9_become 64 = .ok (.ireturn, 1) := by decide +kernel
theorem dX9_as_0 : decode cX9_as 0 = .ok (.aload_n 0, 1) := by decide +kernel
theorem dX9_as_1 : decode cX9_as 1 = .ok (.getfield 10, 3) := by decide +kernel
theorem dX9_as_4 : decode cX9_as 4 = .ok (.getfield 57, 3) := by decide +kernel
theorem dX9_as_7 : decode cX9_as 7 = .ok (.iload_n 1, 1) := by decide +kernel
theorem dX9_as_8 : decode cX9_as 8 = .ok (.invokevirtual 82, 3) := by decide +kernel
theorem dX9_as_11 : decode cX9_as 11 = .ok (.ifCond .eq 13, 3) := by decide +kernel
theorem dX9_as_14 : decode cX9_as 14 = .ok (.iload_n 2, 1) := by decide +kernel
theorem dX9_as_15 : decode cX9_as 15 = .ok (.iconst 0, 1) := by decide +kernel
theorem dX9_as_16 : decode cX9_as 16 = .ok (.bipush 6, 2) := by decide +kernel
theorem dX9_as_18 : decode cX9_as 18 = .ok (.invokestatic 100, 3) := by decide +kernel
theorem dX9_as_21 : decode cX9_as 21 = .ok (.ifCond .ne 9, 3) := by decide +kernel
theorem dX9_as_24 : decode cX9_as 24 = .ok (.aload_n 0, 1) := by decide +kernel
theorem dX9_as_25 : decode cX9_as 25 = .ok (.iconst 1, 1) := by decide +kernel
theorem dX9_as_26 : decode cX9_as 26 = .ok (.invokevirtual 64, 3) := by decide +kernel
theorem dX9_as_29 : decode cX9_as 29 = .ok (.ireturn, 1) := by decide +kernel
theorem dX9_as_30 : decode cX9_as 30 = .ok (.aload_n 0, 1) := by decide +kernel
theorem dX9_as_31 : decode cX9_as 31 = .ok (.getfield 10, 3) := by decide +kernel
theorem dX9_as_34 : decode cX9_as 34 = .ok (.getfield 57, 3) := by decide +kernel
theorem dX9_as_37 : decode cX9_as 37 = .ok (.getfield 72, 3) := by decide +kernel
theorem dX9_as_40 : decode cX9_as 40 = .ok (.iload_n 1, 1) := by decide +kernel
theorem dX9_as_41 : decode cX9_as 41 = .ok (.aaload, 1) := by decide +kernel
theorem dX9_as_42 : decode cX9_as 42 = .ok (.astore_n 3, 1) := by decide +kernel
theorem dX9_as_43 : decode cX9_as 43 = .ok (.aload_n 3, 1) := by decide +kernel
theorem dX9_as_44 : decode cX9_as 44 = .ok (.getfield 85, 3) := by decide +kernel
theorem dX9_as_47 : decode cX9_as 47 = .ok (.iload_n 2, 1) := by decide +kernel
theorem dX9_as_48 : decode cX9_as 48 = .ok (.invokestatic 104, 3) := by decide +kernel
theorem dX9_as_51 : decode cX9_as 51 = .ok (.ifCond .ne 9, 3) := by decide +kernel
theorem dX9_as_54 : decode cX9_as 54 = .ok (.aload_n 0, 1) := by decide +kernel
theorem dX9_as_55 : decode cX9_as 55 = .ok (.iconst 5, 1) := by decide +kernel
theorem dX9_as_56 : decode cX9_as 56 = .ok (.invokevirtual 64, 3) := by decide +kernel
theorem dX9_as_59 : decode cX9_as 59 = .ok (.ireturn, 1) := by decide +kernel
theorem dX9_as_60 : decode cX9_as 60 = .ok (.aload_n 3, 1) := by decide +kernel
theorem dX9_as_61 : decode cX9_as 61 = .ok (.getfield 88, 3) := by decide +kernel
theorem dX9_as_64 : decode cX9_as 64 = .ok (.ireturn, 1) := by decide +kernel
theorem dX9_potter_0 : decode cX9_potter 0 = .ok (.aload_n 0, 1) := by decide +kernel
theorem dX9_potter_1 : decode cX9_potter 1 = .ok (.getfield 10, 3) := by decide +kernel
theorem dX9_potter_4 : decode cX9_potter 4 = .ok (.getfield 57, 3) := by decide +kernel
theorem dX9_potter_7 : decode cX9_potter 7 = .ok (.astore_n 1, 1) := by decide +kernel
theorem dX9_potter_8 : decode cX9_potter 8 = .ok (.aload_n 1, 1) := by decide +kernel
theorem dX9_potter_9 : decode cX9_potter 9 = .ok (.getfield 108, 3) := by decide +kernel
theorem dX9_potter_12 : decode cX9_potter 12 = .ok (.iconst 4, 1) := by decide +kernel
theorem dX9_potter_13 : decode cX9_potter 13 = .ok (.if_icmp .lt 9, 3) := by decide +kernel
theorem dX9_potter_16 : decode cX9_potter 16 = .ok (.aload_n 0, 1) := by decide +kernel
theorem dX9_potter_17 : decode cX9_potter 17 = .ok (.iconst 4, 1) := by decide +kernel
theorem dX9_potter_18 : decode cX9_potter 18 = .ok (.invokevirtual 64, 3) := by decide +kernel
theorem dX9_potter_21 : decode cX9_potter 21 = .ok (.ireturn, 1) := by decide +kernel
theorem dX9_potter_22 : decode cX9_potter 22 = .ok (.aload_n 1, 1) := by decide +kernel
theorem dX9_potter_23 : decode cX9_potter 23 = .ok (.getfield 111, 3) := by decide +kernel
theorem dX9_potter_26 : decode cX9_potter 26 = .ok (.aload_n 1, 1) := by decide +kernel
theorem dX9_potter_27 : decode cX9_potter 27 = .ok (.getfield 108, 3) := by decide +kernel
theorem dX9_potter_30 : decode cX9_potter 30 = .ok (.aaload, 1) := by decide +kernel
theorem dX9_potter_31 : decode cX9_potter 31 = .ok (.invokevirtual 115, 3) := by decide +kernel
theorem dX9_potter_34 : decode cX9_potter 34 = .ok (.aload_n 1, 1) := by decide +kernel
theorem dX9_potter_35 : decode cX9_potter 35 = .ok (.dup, 1) := by decide +kernel
theorem dX9_potter_36 : decode cX9_potter 36 = .ok (.getfield 108, 3) := by decide +kernel
theorem dX9_potter_39 : decode cX9_potter 39 = .ok (.iconst 1, 1) := by decide +kernel
theorem dX9_potter_40 : decode cX9_potter 40 = .ok (.iadd, 1) := by decide +kernel
theorem dX9_potter_41 : decode cX9_potter 41 = .ok (.putfield 108, 3) := by decide +kernel
theorem dX9_potter_44 : decode cX9_potter 44 = .ok (.aload_n 1, 1) := by decide +kernel
theorem dX9_potter_45 : decode cX9_potter 45 = .ok (.getfield 108, 3) := by decide +kernel
theorem dX9_potter_48 : decode cX9_potter 48 = .ok (.iconst 1, 1) := by decide +kernel
theorem dX9_potter_49 : decode cX9_potter 49 = .ok (.isub, 1) := by decide +kernel
theorem dX9_potter_50 : decode cX9_potter 50 = .ok (.ireturn, 1) := by decide +kernel
theorem dX9_ofPotter_0 : decode cX9_ofPotter 0 = .ok (.aload_n 0, 1) := by decide +kernel
theorem dX9_ofPotter_1 : decode cX9_ofPotter 1 = .ok (.getfield 10, 3) := by decide +kernel
theorem dX9_ofPotter_4 : decode cX9_ofPotter 4 = .ok (.getfield 57, 3) := by decide +kernel
theorem dX9_ofPotter_7 : decode cX9_ofPotter 7 = .ok (.iload_n 1, 1) := by decide +kernel
theorem dX9_ofPotter_8 : decode cX9_ofPotter 8 = .ok (.invokevirtual 119, 3) := by decide +kernel
theorem dX9_ofPotter_11 : decode cX9_ofPotter 11 = .ok (.ifCond .ne 9, 3) := by decide +kernel
theorem dX9_ofPotter_14 : decode cX9_ofPotter 14 = .ok (.aload_n 0, 1) := by decide +kernel
theorem dX9_ofPotter_15 : decode cX9_ofPotter 15 = .ok (.iconst 1, 1) := by decide +kernel
theorem dX9_ofPotter_16 : decode cX9_ofPotter 16 = .ok (.invokevirtual 64, 3) := by decide +kernel
theorem dX9_ofPotter_19 : decode cX9_ofPotter 19 = .ok (.ireturn, 1) := by decide +kernel
theorem dX9_ofPotter_20 : decode cX9_ofPotter 20 = .ok (.iload_n 2, 1) := by decide +kernel
theorem dX9_ofPotter_21 : decode cX9_ofPotter 21 = .ok (.tableswitch 87 0 3 #[31, 47, 63, 75], 31) := by decide +kernel
theorem dX9_ofPotter_52 : decode cX9_ofPotter 52 = .ok (.aload_n 0, 1) := by decide +kernel
theorem dX9_ofPotter_53 : decode cX9_ofPotter 53 = .ok (.getfield 10, 3) := by decide +kernel
theorem dX9_ofPotter_56 : decode cX9_ofPotter 56 = .ok (.getfield 57, 3) := by decide +kernel
theorem dX9_ofPotter_59 : decode cX9_ofPotter 59 = .ok (.getfield 111, 3) := by decide +kernel
theorem dX9_ofPotter_62 : decode cX9_ofPotter 62 = .ok (.iload_n 1, 1) := by decide +kernel
theorem dX9_ofPotter_63 : decode cX9_ofPotter 63 = .ok (.aaload, 1) := by decide +kernel
theorem dX9_ofPotter_64 : decode cX9_ofPotter 64 = .ok (.getfield 122, 3) := by decide +kernel
theorem dX9_ofPotter_67 : decode cX9_ofPotter 67 = .ok (.ireturn, 1) := by decide +kernel
theorem dX9_ofPotter_68 : decode cX9_ofPotter 68 = .ok (.aload_n 0, 1) := by decide +kernel
theorem dX9_ofPotter_69 : decode cX9_ofPotter 69 = .ok (.getfield 10, 3) := by decide +kernel
theorem dX9_ofPotter_72 : decode cX9_ofPotter 72 = .ok (.getfield 57, 3) := by decide +kernel
theorem dX9_ofPotter_75 : decode cX9_ofPotter 75 = .ok (.getfield 111, 3) := by decide +kernel
theorem dX9_ofPotter_78 : decode cX9_ofPotter 78 = .ok (.iload_n 1, 1) := by decide +kernel
theorem dX9_ofPotter_79 : decode cX9_ofPotter 79 = .ok (.aaload, 1) := by decide +kernel
theorem dX9_ofPotter_80 : decode cX9_ofPotter 80 = .ok (.getfield 125, 3) := by decide +kernel
theorem dX9_ofPotter_83 : decode cX9_ofPotter 83 = .ok (.ireturn, 1) := by decide +kernel
theorem dX9_ofPotter_84 : decode cX9_ofPotter 84 = .ok (.aload_n 0, 1) := by decide +kernel
theorem dX9_ofPotter_85 : decode cX9_ofPotter 85 = .ok (.getfield 10, 3) := by decide +kernel
theorem dX9_ofPotter_88 : decode cX9_ofPotter 88 = .ok (.getfield 57, 3) := by decide +kernel
theorem dX9_ofPotter_91 : decode cX9_ofPotter 91 = .ok (.iload_n 1, 1) := by decide +kernel
theorem dX9_ofPotter_92 : decode cX9_ofPotter 92 = .ok (.invokevirtual 128, 3) := by decide +kernel
theorem dX9_ofPotter_95 : decode cX9_ofPotter 95 = .ok (.ireturn, 1) := by decide +kernel
theorem dX9_ofPotter_96 : decode cX9_ofPotter 96 = .ok (.aload_n 0, 1) := by decide +kernel
theorem dX9_ofPotter_97 : decode cX9_ofPotter 97 = .ok (.getfield 10, 3) := by decide +kernel
theorem dX9_ofPotter_100 : decode cX9_ofPotter 100 = .ok (.getfield 57, 3) := by decide +kernel
theorem dX9_ofPotter_103 : decode cX9_ofPotter 103 = .ok (.iload_n 1, 1) := by decide +kernel
theorem dX9_ofPotter_104 : decode cX9_ofPotter 104 = .ok (.invokevirtual 131, 3) := by decide +kernel
theorem dX9_ofPotter_107 : decode cX9_ofPotter 107 = .ok (.ireturn, 1) := by decide +kernel
theorem dX9_ofPotter_108 : decode cX9_ofPotter 108 = .ok (.aload_n 0, 1) := by decide +kernel
theorem dX9_ofPotter_109 : decode cX9_ofPotter 109 = .ok (.iconst 1, 1) := by decide +kernel
theorem dX9_ofPotter_110 : decode cX9_ofPotter 110 = .ok (.invokevirtual 64, 3) := by decide +kernel
theorem dX9_ofPotter_113 : decode cX9_ofPotter 113 = .ok (.ireturn, 1) := by decide +kernel
theorem dX9_store_0 : decode cX9_store 0 = .ok (.aload_n 0, 1) := by decide +kernel
theorem dX9_store_1 : decode cX9_store 1 = .ok (.getfield 10, 3) := by decide +kernel
theorem dX9_store_4 : decode cX9_store 4 = .ok (.getfield 57, 3) := by decide +kernel
theorem dX9_store_7 : decode cX9_store 7 = .ok (.iload_n 1, 1) := by decide +kernel
theorem dX9_store_8 : decode cX9_store 8 = .ok (.invokevirtual 119, 3) := by decide +kernel
theorem dX9_store_11 : decode cX9_store 11 = .ok (.ifCond .eq 28, 3) := by decide +kernel
theorem dX9_store_14 : decode cX9_store 14 = .ok (.aload_n 0, 1) := by decide +kernel
theorem dX9_store_15 : decode cX9_store 15 = .ok (.getfield 10, 3) := by decide +kernel
theorem dX9_store_18 : decode cX9_store 18 = .ok (.getfield 57, 3) := by decide +kernel
theorem dX9_store_21 : decode cX9_store 21 = .ok (.iload_n 2, 1) := by decide +kernel
theorem dX9_store_22 : decode cX9_store 22 = .ok (.invokevirtual 82, 3) := by decide +kernel
theorem dX9_store_25 : decode cX9_store 25 = .ok (.ifCond .eq 14, 3) := by decide +kernel
theorem dX9_store_28 : decode cX9_store 28 = .ok (.iload_n 3, 1) := by decide +kernel
theorem dX9_store_29 : decode cX9_store 29 = .ok (.iconst 0, 1) := by decide +kernel
theorem dX9_store_30 : decode cX9_store 30 = .ok (.sipush 999, 3) := by decide +kernel
theorem dX9_store_33 : decode cX9_store 33 = .ok (.invokestatic 100, 3) := by decide +kernel
theorem dX9_store_36 : decode cX9_store 36 = .ok (.ifCond .ne 9, 3) := by decide +kernel
theorem dX9_store_39 : decode cX9_store 39 = .ok (.aload_n 0, 1) := by decide +kernel
theorem dX9_store_40 : decode cX9_store 40 = .ok (.iconst 1, 1) := by decide +kernel
theorem dX9_store_41 : decode cX9_store 41 = .ok (.invokevirtual 64, 3) := by decide +kernel
theorem dX9_store_44 : decode cX9_store 44 = .ok (.ireturn, 1) := by decide +kernel
theorem dX9_store_45 : decode cX9_store 45 = .ok (.aload_n 0, 1) := by decide +kernel
theorem dX9_store_46 : decode cX9_store 46 = .ok (.getfield 10, 3) := by decide +kernel
theorem dX9_store_49 : decode cX9_store 49 = .ok (.getfield 57, 3) := by decide +kernel
theorem dX9_store_52 : decode cX9_store 52 = .ok (.getfield 111, 3) := by decide +kernel
theorem dX9_store_55 : decode cX9_store 55 = .ok (.iload_n 1, 1) := by decide +kernel
theorem dX9_store_56 : decode cX9_store 56 = .ok (.aaload, 1) := by decide +kernel
theorem dX9_store_57 : decode cX9_store 57 = .ok (.getfield 134, 3) := by decide +kernel
theorem dX9_store_60 : decode cX9_store 60 = .ok (.astore 4, 2) := by decide +kernel
theorem dX9_store_62 : decode cX9_store 62 = .ok (.aload 4, 2) := by decide +kernel
theorem dX9_store_64 : decode cX9_store 64 = .ok (.iload_n 2, 1) := by decide +kernel
theorem dX9_store_65 : decode cX9_store 65 = .ok (.iaload, 1) := by decide +kernel
theorem dX9_store_66 : decode cX9_store 66 = .ok (.istore 5, 2) := by decide +kernel
theorem dX9_store_68 : decode cX9_store 68 = .ok (.aload 4, 2) := by decide +kernel
theorem dX9_store_70 : decode cX9_store 70 = .ok (.iload_n 2, 1) := by decide +kernel
theorem dX9_store_71 : decode cX9_store 71 = .ok (.iload_n 3, 1) := by decide +kernel
theorem dX9_store_72 : decode cX9_store 72 = .ok (.iastore, 1) := by decide +kernel
theorem dX9_store_73 : decode cX9_store 73 = .ok (.iload 5, 2) := by decide +kernel
theorem dX9_store_75 : decode cX9_store 75 = .ok (.ireturn, 1) := by decide +kernel
theorem dX9_stored_0 : decode cX9_stored 0 = .ok (.aload_n 0, 1) := by decide +kernel
theorem dX9_stored_1 : decode cX9_stored 1 = .ok (.getfield 10, 3) := by decide +kernel
theorem dX9_stored_4 : decode cX9_stored 4 = .ok (.getfield 57, 3) := by decide +kernel
theorem dX9_stored_7 : decode cX9_stored 7 = .ok (.iload_n 1, 1) := by decide +kernel
theorem dX9_stored_8 : decode cX9_stored 8 = .ok (.invokevirtual 119, 3) := by decide +kernel
theorem dX9_stored_11 : decode cX9_stored 11 = .ok (.ifCond .eq 17, 3) := by decide +kernel
theorem dX9_stored_14 : decode cX9_stored 14 = .ok (.aload_n 0, 1) := by decide +kernel
theorem dX9_stored_15 : decode cX9_stored 15 = .ok (.getfield 10, 3) := by decide +kernel
theorem dX9_stored_18 : decode cX9_stored 18 = .ok (.getfield 57, 3) := by decide +kernel
theorem dX9_stored_21 : decode cX9_stored 21 = .ok (.iload_n 2, 1) := by decide +kernel
theorem dX9_stored_22 : decode cX9_stored 22 = .ok (.invokevirtual 82, 3) := by decide +kernel
theorem dX9_stored_25 : decode cX9_stored 25 = .ok (.ifCond .ne 9, 3) := by decide +kernel
theorem dX9_stored_28 : decode cX9_stored 28 = .ok (.aload_n 0, 1) := by decide +kernel
theorem dX9_stored_29 : decode cX9_stored 29 = .ok (.iconst 1, 1) := by decide +kernel
theorem dX9_stored_30 : decode cX9_stored 30 = .ok (.invokevirtual 64, 3) := by decide +kernel
theorem dX9_stored_33 : decode cX9_stored 33 = .ok (.ireturn, 1) := by decide +kernel
theorem dX9_stored_34 : decode cX9_stored 34 = .ok (.aload_n 0, 1) := by decide +kernel
theorem dX9_stored_35 : decode cX9_stored 35 = .ok (.getfield 10, 3) := by decide +kernel
theorem dX9_stored_38 : decode cX9_stored 38 = .ok (.getfield 57, 3) := by decide +kernel
theorem dX9_stored_41 : decode cX9_stored 41 = .ok (.getfield 111, 3) := by decide +kernel
theorem dX9_stored_44 : decode cX9_stored 44 = .ok (.iload_n 1, 1) := by decide +kernel
theorem dX9_stored_45 : decode cX9_stored 45 = .ok (.aaload, 1) := by decide +kernel
theorem dX9_stored_46 : decode cX9_stored 46 = .ok (.getfield 134, 3) := by decide +kernel
theorem dX9_stored_49 : decode cX9_stored 49 = .ok (.iload_n 2, 1) := by decide +kernel
theorem dX9_stored_50 : decode cX9_stored 50 = .ok (.iaload, 1) := by decide +kernel
theorem dX9_stored_51 : decode cX9_stored 51 = .ok (.ireturn, 1) := by decide +kernel
theorem dX9_feed_0 : decode cX9_feed 0 = .ok (.iload_n 3, 1) := by decide +kernel
theorem dX9_feed_1 : decode cX9_feed 1 = .ok (.iconst 1, 1) := by decide +kernel
theorem dX9_feed_2 : decode cX9_feed 2 = .ok (.bipush 8, 2) := by decide +kernel
theorem dX9_feed_4 : decode cX9_feed 4 = .ok (.invokestatic 100, 3) := by decide +kernel
theorem dX9_feed_7 : decode cX9_feed 7 = .ok (.ifCond .ne 9, 3) := by decide +kernel
theorem dX9_feed_10 : decode cX9_feed 10 = .ok (.aload_n 0, 1) := by decide +kernel
theorem dX9_feed_11 : decode cX9_feed 11 = .ok (.iconst 1, 1) := by decide +kernel
theorem dX9_feed_12 : decode cX9_feed 12 = .ok (.invokevirtual 64, 3) := by decide +kernel
theorem dX9_feed_15 : decode cX9_feed 15 = .ok (.ireturn, 1) := by decide +kernel
theorem dX9_feed_16 : decode cX9_feed 16 = .ok (.aload_n 0, 1) := by decide +kernel
theorem dX9_feed_17 : decode cX9_feed 17 = .ok (.getfield 10, 3) := by decide +kernel
theorem dX9_feed_20 : decode cX9_feed 20 = .ok (.getfield 137, 3) := by decide +kernel
theorem dX9_feed_23 : decode cX9_feed 23 = .ok (.iload_n 3, 1) := by decide +kernel
theorem dX9_feed_24 : decode cX9_feed 24 = .ok (.iadd, 1) := by decide +kernel
theorem dX9_feed_25 : decode cX9_feed 25 = .ok (.bipush 50, 2) := by decide +kernel
theorem dX9_feed_27 : decode cX9_feed 27 = .ok (.if_icmp .le 9, 3) := by decide +kernel
theorem dX9_feed_30 : decode cX9_feed 30 = .ok (.aload_n 0, 1) := by decide +kernel
theorem dX9_feed_31 : decode cX9_feed 31 = .ok (.iconst 4, 1) := by decide +kernel
theorem dX9_feed_32 : decode cX9_feed 32 = .ok (.invokevirtual 64, 3) := by decide +kernel
theorem dX9_feed_35 : decode cX9_feed 35 = .ok (.ireturn, 1) := by decide +kernel
theorem dX9_feed_36 : decode cX9_feed 36 = .ok (.iconst 0, 1) := by decide +kernel
theorem dX9_feed_37 : decode cX9_feed 37 = .ok (.istore 4, 2) := by decide +kernel
theorem dX9_feed_39 : decode cX9_feed 39 = .ok (.iload 4, 2) := by decide +kernel
theorem dX9_feed_41 : decode cX9_feed 41 = .ok (.iload_n 3, 1) := by decide +kernel
theorem dX9_feed_42 : decode cX9_feed 42 = .ok (.if_icmp .ge 39, 3) := by decide +kernel
theorem dX9_feed_45 : decode cX9_feed 45 = .ok (.aload_n 0, 1) := by decide +kernel
theorem dX9_feed_46 : decode cX9_feed 46 = .ok (.getfield 10, 3) := by decide +kernel
theorem dX9_feed_49 : decode cX9_feed 49 = .ok (.getfield 140, 3) := by decide +kernel
theorem dX9_feed_52 : decode cX9_feed 52 = .ok (.aload_n 0, 1) := by decide +kernel
theorem dX9_feed_53 : decode cX9_feed 53 = .ok (.getfield 10, 3) := by decide +kernel
theorem dX9_feed_56 : decode cX9_feed 56 = .ok (.getfield 137, 3) := by decide +kernel
theorem dX9_feed_59 : decode cX9_feed 59 = .ok (.iload 4, 2) := by decide +kernel
theorem dX9_feed_61 : decode cX9_feed 61 = .ok (.iadd, 1) := by decide +kernel
theorem dX9_feed_62 : decode cX9_feed 62 = .ok (.lload_n 1, 1) := by decide +kernel
theorem dX9_feed_63 : decode cX9_feed 63 = .ok (.bipush 8, 2) := by decide +kernel
theorem dX9_feed_65 : decode cX9_feed 65 = .ok (.iload 4, 2) := by decide +kernel
theorem dX9_feed_67 : decode cX9_feed 67 = .ok (.imul, 1) := by decide +kernel
theorem dX9_feed_68 : decode cX9_feed 68 = .ok (.lushr, 1) := by decide +kernel
theorem dX9_feed_69 : decode cX9_feed 69 = .ok (.l2i, 1) := by decide +kernel
theorem dX9_feed_70 : decode cX9_feed 70 = .ok (.sipush 255, 3) := by decide +kernel
theorem dX9_feed_73 : decode cX9_feed 73 = .ok (.iand, 1) := by decide +kernel
theorem dX9_feed_74 : decode cX9_feed 74 = .ok (.iastore, 1) := by decide +kernel
theorem dX9_feed_75 : decode cX9_feed 75 = .ok (.iinc 4 1, 3) := by decide +kernel
theorem dX9_feed_78 : decode cX9_feed 78 = .ok (.goto (-39), 3) := by decide +kernel
theorem dX9_feed_81 : decode cX9_feed 81 = .ok (.aload_n 0, 1) := by decide +kernel
theorem dX9_feed_82 : decode cX9_feed 82 = .ok (.getfield 10, 3) := by decide +kernel
theorem dX9_feed_85 : decode cX9_feed 85 = .ok (.dup, 1) := by decide +kernel
theorem dX9_feed_86 : decode cX9_feed 86 = .ok (.getfield 137, 3) := by decide +kernel
theorem dX9_feed_89 : decode cX9_feed 89 = .ok (.iload_n 3, 1) := by decide +kernel
theorem dX9_feed_90 : decode cX9_feed 90 = .ok (.iadd, 1) := by decide +kernel
theorem dX9_feed_91 : decode cX9_feed 91 = .ok (.putfield 137, 3) := by decide +kernel
theorem dX9_feed_94 : decode cX9_feed 94 = .ok (.aload_n 0, 1) := by decide +kernel
theorem dX9_feed_95 : decode cX9_feed 95 = .ok (.getfield 10, 3) := by decide +kernel
theorem dX9_feed_98 : decode cX9_feed 98 = .ok (.getfield 137, 3) := by decide +kernel
theorem dX9_feed_101 : decode cX9_feed 101 = .ok (.ireturn, 1) := by decide +kernel
theorem dX9_text_0 : decode cX9_text 0 = .ok (.iload_n 1, 1) := by decide +kernel
theorem dX9_text_1 : decode cX9_text 1 = .ok (.invokestatic 143, 3) := by decide +kernel
theorem dX9_text_4 : decode cX9_text 4 = .ok (.ifCond .ne 9, 3) := by decide +kernel
theorem dX9_text_7 : decode cX9_text 7 = .ok (.aload_n 0, 1) := by decide +kernel
theorem dX9_text_8 : decode cX9_text 8 = .ok (.iconst 1, 1) := by decide +kernel
theorem dX9_text_9 : decode cX9_text 9 = .ok (.invokevirtual 64, 3) := by decide +kernel
theorem dX9_text_12 : decode cX9_text 12 = .ok (.ireturn, 1) := by decide +kernel
theorem dX9_text_13 : decode cX9_text 13 = .ok (.aload_n 0, 1) := by decide +kernel
theorem dX9_text_14 : decode cX9_text 14 = .ok (.getfield 29, 3) := by decide +kernel
theorem dX9_text_17 : decode cX9_text 17 = .ok (.aload_n 0, 1) := by decide +kernel
theorem dX9_text_18 : decode cX9_text 18 = .ok (.getfield 10, 3) := by decide +kernel
theorem dX9_text_21 : decode cX9_text 21 = .ok (.getfield 140, 3) := by decide +kernel
theorem dX9_text_24 : decode cX9_text 24 = .ok (.aload_n 0, 1) := by decide +kernel
theorem dX9_text_25 : decode cX9_text 25 = .ok (.getfield 10, 3) := by decide +kernel
theorem dX9_text_28 : decode cX9_text 28 = .ok (.getfield 137, 3) := by decide +kernel
theorem dX9_text_31 : decode cX9_text 31 = .ok (.iload_n 1, 1) := by decide +kernel
theorem dX9_text_32 : decode cX9_text 32 = .ok (.invokevirtual 146, 3) := by decide +kernel
theorem dX9_text_35 : decode cX9_text 35 = .ok (.istore_n 2, 1) := by decide +kernel
theorem dX9_text_36 : decode cX9_text 36 = .ok (.aload_n 0, 1) := by decide +kernel
theorem dX9_text_37 : decode cX9_text 37 = .ok (.getfield 10, 3) := by decide +kernel
theorem dX9_text_40 : decode cX9_text 40 = .ok (.iconst 0, 1) := by decide +kernel
theorem dX9_text_41 : decode cX9_text 41 = .ok (.putfield 137, 3) := by decide +kernel
theorem dX9_text_44 : decode cX9_text 44 = .ok (.iload_n 2, 1) := by decide +kernel
theorem dX9_text_45 : decode cX9_text 45 = .ok (.ifCond .ne 14, 3) := by decide +kernel
theorem dX9_text_48 : decode cX9_text 48 = .ok (.bipush (-10), 2) := by decide +kernel
theorem dX9_text_50 : decode cX9_text 50 = .ok (.aload_n 0, 1) := by decide +kernel
theorem dX9_text_51 : decode cX9_text 51 = .ok (.getfield 29, 3) := by decide +kernel
theorem dX9_text_54 : decode cX9_text 54 = .ok (.getfield 150, 3) := by decide +kernel
theorem dX9_text_57 : decode cX9_text 57 = .ok (.isub, 1) := by decide +kernel
theorem dX9_text_58 : decode cX9_text 58 = .ok (.ireturn, 1) := by decide +kernel
theorem dX9_text_59 : decode cX9_text 59 = .ok (.aload_n 0, 1) := by decide +kernel
theorem dX9_text_60 : decode cX9_text 60 = .ok (.getfield 10, 3) := by decide +kernel
theorem dX9_text_63 : decode cX9_text 63 = .ok (.getfield 153, 3) := by decide +kernel
theorem dX9_text_66 : decode cX9_text 66 = .ok (.iload_n 1, 1) := by decide +kernel
theorem dX9_text_67 : decode cX9_text 67 = .ok (.aaload, 1) := by decide +kernel
theorem dX9_text_68 : decode cX9_text 68 = .ok (.aload_n 0, 1) := by decide +kernel
theorem dX9_text_69 : decode cX9_text 69 = .ok (.getfield 29, 3) := by decide +kernel
theorem dX9_text_72 : decode cX9_text 72 = .ok (.getfield 157, 3) := by decide +kernel
theorem dX9_text_75 : decode cX9_text 75 = .ok (.aload_n 0, 1) := by decide +kernel
theorem dX9_text_76 : decode cX9_text 76 = .ok (.getfield 29, 3) := by decide +kernel
theorem dX9_text_79 : decode cX9_text 79 = .ok (.getfield 160, 3) := by decide +kernel
theorem dX9_text_82 : decode cX9_text 82 = .ok (.invokevirtual 163, 3) := by decide +kernel
theorem dX9_text_85 : decode cX9_text 85 = .ok (.iconst 1, 1) := by decide +kernel
theorem dX9_text_86 : decode cX9_text 86 = .ok (.ireturn, 1) := by decide +kernel
theorem dX9_law_0 : decode cX9_law 0 = .ok (.iload_n 1, 1) := by decide +kernel
theorem dX9_law_1 : decode cX9_law 1 = .ok (.invokestatic 143, 3) := by decide +kernel
theorem dX9_law_4 : decode cX9_law 4 = .ok (.ifCond .ne 9, 3) := by decide +kernel
theorem dX9_law_7 : decode cX9_law 7 = .ok (.aload_n 0, 1) := by decide +kernel
theorem dX9_law_8 : decode cX9_law 8 = .ok (.iconst 1, 1) := by decide +kernel
theorem dX9_law_9 : decode cX9_law 9 = .ok (.invokevirtual 64, 3) := by decide +kernel
theorem dX9_law_12 : decode cX9_law 12 = .ok (.ireturn, 1) := by decide +kernel
theorem dX9_law_13 : decode cX9_law 13 = .ok (.aload_n 0, 1) := by decide +kernel
theorem dX9_law_14 : decode cX9_law 14 = .ok (.getfield 10, 3) := by decide +kernel
theorem dX9_law_17 : decode cX9_law 17 = .ok (.getfield 153, 3) := by decide +kernel
theorem dX9_law_20 : decode cX9_law 20 = .ok (.iload_n 1, 1) := by decide +kernel
theorem dX9_law_21 : decode cX9_law 21 = .ok (.aaload, 1) := by decide +kernel
theorem dX9_law_22 : decode cX9_law 22 = .ok (.iload_n 2, 1) := by decide +kernel
theorem dX9_law_23 : decode cX9_law 23 = .ok (.iload_n 3, 1) := by decide +kernel
theorem dX9_law_24 : decode cX9_law 24 = .ok (.iload 4, 2) := by decide +kernel
theorem dX9_law_26 : decode cX9_law 26 = .ok (.invokevirtual 169, 3) := by decide +kernel
theorem dX9_law_29 : decode cX9_law 29 = .ok (.ireturn, 1) := by decide +kernel
theorem dX9_lend_0 : decode cX9_lend 0 = .ok (.aload_n 0, 1) := by decide +kernel
theorem dX9_lend_1 : decode cX9_lend 1 = .ok (.getfield 10, 3) := by decide +kernel
theorem dX9_lend_4 : decode cX9_lend 4 = .ok (.getfield 57, 3) := by decide +kernel
theorem dX9_lend_7 : decode cX9_lend 7 = .ok (.astore 6, 2) := by decide +kernel
theorem dX9_lend_9 : decode cX9_lend 9 = .ok (.aload 6, 2) := by decide +kernel
theorem dX9_lend_11 : decode cX9_lend 11 = .ok (.iload_n 1, 1) := by decide +kernel
theorem dX9_lend_12 : decode cX9_lend 12 = .ok (.invokevirtual 119, 3) := by decide +kernel
theorem dX9_lend_15 : decode cX9_lend 15 = .ok (.ifCond .eq 21, 3) := by decide +kernel
theorem dX9_lend_18 : decode cX9_lend 18 = .ok (.aload 6, 2) := by decide +kernel
theorem dX9_lend_20 : decode cX9_lend 20 = .ok (.iload_n 2, 1) := by decide +kernel
theorem dX9_lend_21 : decode cX9_lend 21 = .ok (.invokevirtual 119, 3) := by decide +kernel
theorem dX9_lend_24 : decode cX9_lend 24 = .ok (.ifCond .eq 12, 3) := by decide +kernel
theorem dX9_lend_27 : decode cX9_lend 27 = .ok (.iload_n 1, 1) := by decide +kernel
theorem dX9_lend_28 : decode cX9_lend 28 = .ok (.iload_n 2, 1) := by decide +kernel
theorem dX9_lend_29 : decode cX9_lend 29 = .ok (.if_icmp .eq 7, 3) := by decide +kernel
theorem dX9_lend_32 : decode cX9_lend 32 = .ok (.iconst 1, 1) := by decide +kernel
theorem dX9_lend_33 : decode cX9_lend 33 = .ok (.goto 4, 3) := by decide +kernel
theorem dX9_lend_36 : decode cX9_lend 36 = .ok (.iconst 0, 1) := by decide +kernel
theorem dX9_lend_37 : decode cX9_lend 37 = .ok (.istore 7, 2) := by decide +kernel
theorem dX9_lend_39 : decode cX9_lend 39 = .ok (.iload 7, 2) := by decide +kernel
theorem dX9_lend_41 : decode cX9_lend 41 = .ok (.ifCond .eq 34, 3) := by decide +kernel
theorem dX9_lend_44 : decode cX9_lend 44 = .ok (.aload 6, 2) := by decide +kernel
theorem dX9_lend_46 : decode cX9_lend 46 = .ok (.iload_n 3, 1) := by decide +kernel
theorem dX9_lend_47 : decode cX9_lend 47 = .ok (.invokevirtual 82, 3) := by decide +kernel
theorem dX9_lend_50 : decode cX9_lend 50 = .ok (.ifCond .eq 25, 3) := by decide +kernel
theorem dX9_lend_53 : decode cX9_lend 53 = .ok (.iload 4, 2) := by decide +kernel
theorem dX9_lend_55 : decode cX9_lend 55 = .ok (.iconst 1, 1) := by decide +kernel
theorem dX9_lend_56 : decode cX9_lend 56 = .ok (.bipush 99, 2) := by decide +kernel
theorem dX9_lend_58 : decode cX9_lend 58 = .ok (.invokestatic 100, 3) := by decide +kernel
theorem dX9_lend_61 : decode cX9_lend 61 = .ok (.ifCond .eq 14, 3) := by decide +kernel
theorem dX9_lend_64 : decode cX9_lend 64 = .ok (.iload 5, 2) := by decide +kernel
theorem dX9_lend_66 : decode cX9_lend 66 = .ok (.iconst 1, 1) := by decide +kernel
theorem dX9_lend_67 : decode cX9_lend 67 = .ok (.bipush 60, 2) := by decide +kernel
theorem dX9_lend_69 : decode cX9_lend 69 = .ok (.invokestatic 100, 3) := by decide +kernel
theorem dX9_lend_72 : decode cX9_lend 72 = .ok (.ifCond .ne 9, 3) := by decide +kernel
theorem dX9_lend_75 : decode cX9_lend 75 = .ok (.aload_n 0, 1) := by decide +kernel
theorem dX9_lend_76 : decode cX9_lend 76 = .ok (.iconst 1, 1) := by decide +kernel
theorem dX9_lend_77 : decode cX9_lend 77 = .ok (.invokevirtual 64, 3) := by decide +kernel
theorem dX9_lend_80 : decode cX9_lend 80 = .ok (.ireturn, 1) := by decide +kernel
theorem dX9_lend_81 : decode cX9_lend 81 = .ok (.aload 6, 2) := by decide +kernel
theorem dX9_lend_83 : decode cX9_lend 83 = .ok (.iload_n 1, 1) := by decide +kernel
theorem dX9_lend_84 : decode cX9_lend 84 = .ok (.iload_n 2, 1) := by decide +kernel
theorem dX9_lend_85 : decode cX9_lend 85 = .ok (.iload_n 3, 1) := by decide +kernel
theorem dX9_lend_86 : decode cX9_lend 86 = .ok (.iload 4, 2) := by decide +kernel
theorem dX9_lend_88 : decode cX9_lend 88 = .ok (.invokevirtual 173, 3) := by decide +kernel
theorem dX9_lend_91 : decode cX9_lend 91 = .ok (.ifCond .ne 9, 3) := by decide +kernel
theorem dX9_lend_94 : decode cX9_lend 94 = .ok (.aload_n 0, 1) := by decide +kernel
theorem dX9_lend_95 : decode cX9_lend 95 = .ok (.iconst 3, 1) := by decide +kernel
theorem dX9_lend_96 : decode cX9_lend 96 = .ok (.invokevirtual 64, 3) := by decide +kernel
theorem dX9_lend_99 : decode cX9_lend 99 = .ok (.ireturn, 1) := by decide +kernel
theorem dX9_lend_100 : decode cX9_lend 100 = .ok (.aload 6, 2) := by decide +kernel
theorem dX9_lend_102 : decode cX9_lend 102 = .ok (.getfield 177, 3) := by decide +kernel
theorem dX9_lend_105 : decode cX9_lend 105 = .ok (.bipush 10, 2) := by decide +kernel
theorem dX9_lend_107 : decode cX9_lend 107 = .ok (.if_icmp .lt 9, 3) := by decide +kernel
theorem dX9_lend_110 : decode cX9_lend 110 = .ok (.aload_n 0, 1) := by decide +kernel
theorem dX9_lend_111 : decode cX9_lend 111 = .ok (.iconst 4, 1) := by decide +kernel
theorem dX9_lend_112 : decode cX9_lend 112 = .ok (.invokevirtual 64, 3) := by decide +kernel
theorem dX9_lend_115 : decode cX9_lend 115 = .ok (.ireturn, 1) := by decide +kernel
theorem dX9_lend_116 : decode cX9_lend 116 = .ok (.aload 6, 2) := by decide +kernel
theorem dX9_lend_118 : decode cX9_lend 118 = .ok (.iload_n 1, 1) := by decide +kernel
theorem dX9_lend_119 : decode cX9_lend 119 = .ok (.iload_n 2, 1) := by decide +kernel
theorem dX9_lend_120 : decode cX9_lend 120 = .ok (.iload_n 3, 1) := by decide +kernel
theorem dX9_lend_121 : decode cX9_lend 121 = .ok (.iload 4, 2) := by decide +kernel
theorem dX9_lend_123 : decode cX9_lend 123 = .ok (.iload 5, 2) := by decide +kernel
theorem dX9_lend_125 : decode cX9_lend 125 = .ok (.invokevirtual 180, 3) := by decide +kernel
theorem dX9_lend_128 : decode cX9_lend 128 = .ok (.aload 6, 2) := by decide +kernel
theorem dX9_lend_130 : decode cX9_lend 130 = .ok (.getfield 177, 3) := by decide +kernel
theorem dX9_lend_133 : decode cX9_lend 133 = .ok (.iconst 1, 1) := by decide +kernel
theorem dX9_lend_134 : decode cX9_lend 134 = .ok (.isub, 1) := by decide +kernel
theorem dX9_lend_135 : decode cX9_lend 135 = .ok (.ireturn, 1) := by decide +kernel
theorem dX9_ofLoan_0 : decode cX9_ofLoan 0 = .ok (.aload_n 0, 1) := by decide +kernel
theorem dX9_ofLoan_1 : decode cX9_ofLoan 1 = .ok (.getfield 10, 3) := by decide +kernel
theorem dX9_ofLoan_4 : decode cX9_ofLoan 4 = .ok (.getfield 57, 3) := by decide +kernel
theorem dX9_ofLoan_7 : decode cX9_ofLoan 7 = .ok (.iload_n 1, 1) := by decide +kernel
theorem dX9_ofLoan_8 : decode cX9_ofLoan 8 = .ok (.invokevirtual 184, 3) := by decide +kernel
theorem dX9_ofLoan_11 : decode cX9_ofLoan 11 = .ok (.ifCond .ne 9, 3) := by decide +kernel
theorem dX9_ofLoan_14 : decode cX9_ofLoan 14 = .ok (.aload_n 0, 1) := by decide +kernel
theorem dX9_ofLoan_15 : decode cX9_ofLoan 15 = .ok (.iconst 1, 1) := by decide +kernel
theorem dX9_ofLoan_16 : decode cX9_ofLoan 16 = .ok (.invokevirtual 64, 3) := by decide +kernel
theorem dX9_ofLoan_19 : decode cX9_ofLoan 19 = .ok (.ireturn, 1) := by decide +kernel
theorem dX9_ofLoan_20 : decode cX9_ofLoan 20 = .ok (.aload_n 0, 1) := by decide +kernel
theorem dX9_ofLoan_21 : decode cX9_ofLoan 21 = .ok (.getfield 10, 3) := by decide +kernel
theorem dX9_ofLoan_24 : decode cX9_ofLoan 24 = .ok (.getfield 57, 3) := by decide +kernel
theorem dX9_ofLoan_27 : decode cX9_ofLoan 27 = .ok (.getfield 187, 3) := by decide +kernel
theorem dX9_ofLoan_30 : decode cX9_ofLoan 30 = .ok (.iload_n 1, 1) := by decide +kernel
theorem dX9_ofLoan_31 : decode cX9_ofLoan 31 = .ok (.aaload, 1) := by decide +kernel
theorem dX9_ofLoan_32 : decode cX9_ofLoan 32 = .ok (.astore_n 3, 1) := by decide +kernel
theorem dX9_ofLoan_33 : decode cX9_ofLoan 33 = .ok (.iload_n 2, 1) := by decide +kernel
theorem dX9_ofLoan_34 : decode cX9_ofLoan 34 = .ok (.tableswitch 59 0 4 #[34, 39, 44, 49, 54], 34) := by decide +kernel
theorem dX9_ofLoan_68 : decode cX9_ofLoan 68 = .ok (.aload_n 3, 1) := by decide +kernel
theorem dX9_ofLoan_69 : decode cX9_ofLoan 69 = .ok (.getfield 191, 3) := by decide +kernel
theorem dX9_ofLoan_72 : decode cX9_ofLoan 72 = .ok (.ireturn, 1) := by decide +kernel
theorem dX9_ofLoan_73 : decode cX9_ofLoan 73 = .ok (.aload_n 3, 1) := by decide +kernel
theorem dX9_ofLoan_74 : decode cX9_ofLoan 74 = .ok (.getfield 196, 3) := by decide +kernel
theorem dX9_ofLoan_77 : decode cX9_ofLoan 77 = .ok (.ireturn, 1) := by decide +kernel
theorem dX9_ofLoan_78 : decode cX9_ofLoan 78 = .ok (.aload_n 3, 1) := by decide +kernel
theorem dX9_ofLoan_79 : decode cX9_ofLoan 79 = .ok (.getfield 199, 3) := by decide +kernel
theorem dX9_ofLoan_82 : decode cX9_ofLoan 82 = .ok (.ireturn, 1) := by decide +kernel
theorem dX9_ofLoan_83 : decode cX9_ofLoan 83 = .ok (.aload_n 3, 1) := by decide +kernel
theorem dX9_ofLoan_84 : decode cX9_ofLoan 84 = .ok (.getfield 202, 3) := by decide +kernel
theorem dX9_ofLoan_87 : decode cX9_ofLoan 87 = .ok (.ireturn, 1) := by decide +kernel
theorem dX9_ofLoan_88 : decode cX9_ofLoan 88 = .ok (.aload_n 3, 1) := by decide +kernel
theorem dX9_ofLoan_89 : decode cX9_ofLoan 89 = .ok (.getfield 204, 3) := by decide +kernel
theorem dX9_ofLoan_92 : decode cX9_ofLoan 92 = .ok (.ireturn, 1) := by decide +kernel
theorem dX9_ofLoan_93 : decode cX9_ofLoan 93 = .ok (.aload_n 0, 1) := by decide +kernel
theorem dX9_ofLoan_94 : decode cX9_ofLoan 94 = .ok (.iconst 1, 1) := by decide +kernel
theorem dX9_ofLoan_95 : decode cX9_ofLoan 95 = .ok (.invokevirtual 64, 3) := by decide +kernel
theorem dX9_ofLoan_98 : decode cX9_ofLoan 98 = .ok (.ireturn, 1) := by decide +kernel
theorem dX9_back_0 : decode cX9_back 0 = .ok (.aload_n 0, 1) := by decide +kernel
theorem dX9_back_1 : decode cX9_back 1 = .ok (.getfield 10, 3) := by decide +kernel
theorem dX9_back_4 : decode cX9_back 4 = .ok (.getfield 57, 3) := by decide +kernel
theorem dX9_back_7 : decode cX9_back 7 = .ok (.astore_n 2, 1) := by decide +kernel
theorem dX9_back_8 : decode cX9_back 8 = .ok (.aload_n 2, 1) := by decide +kernel
theorem dX9_back_9 : decode cX9_back 9 = .ok (.iload_n 1, 1) := by decide +kernel
theorem dX9_back_10 : decode cX9_back 10 = .ok (.invokevirtual 184, 3) := by decide +kernel
theorem dX9_back_13 : decode cX9_back 13 = .ok (.ifCond .ne 9, 3) := by decide +kernel
theorem dX9_back_16 : decode cX9_back 16 = .ok (.aload_n 0, 1) := by decide +kernel
theorem dX9_back_17 : decode cX9_back 17 = .ok (.iconst 1, 1) := by decide +kernel
theorem dX9_back_18 : decode cX9_back 18 = .ok (.invokevirtual 64, 3) := by decide +kernel
theorem dX9_back_21 : decode cX9_back 21 = .ok (.ireturn, 1) := by decide +kernel
theorem dX9_back_22 : decode cX9_back 22 = .ok (.aload_n 2, 1) := by decide +kernel
theorem dX9_back_23 : decode cX9_back 23 = .ok (.aload_n 2, 1) := by decide +kernel
theorem dX9_back_24 : decode cX9_back 24 = .ok (.getfield 187, 3) := by decide +kernel
theorem dX9_back_27 : decode cX9_back 27 = .ok (.iload_n 1, 1) := by decide +kernel
theorem dX9_back_28 : decode cX9_back 28 = .ok (.aaload, 1) := by decide +kernel
theorem dX9_back_29 : decode cX9_back 29 = .ok (.invokevirtual 207, 3) := by decide +kernel
theorem dX9_back_32 : decode cX9_back 32 = .ok (.ifCond .ne 9, 3) := by decide +kernel
theorem dX9_back_35 : decode cX9_back 35 = .ok (.aload_n 0, 1) := by decide +kernel
theorem dX9_back_36 : decode cX9_back 36 = .ok (.iconst 3, 1) := by decide +kernel
theorem dX9_back_37 : decode cX9_back 37 = .ok (.invokevirtual 64, 3) := by decide +kernel
theorem dX9_back_40 : decode cX9_back 40 = .ok (.ireturn, 1) := by decide +kernel
theorem dX9_back_41 : decode cX9_back 41 = .ok (.aload_n 2, 1) := by decide +kernel
theorem dX9_back_42 : decode cX9_back 42 = .ok (.iload_n 1, 1) := by decide +kernel
theorem dX9_back_43 : decode cX9_back 43 = .ok (.aload_n 0, 1) := by decide +kernel
theorem dX9_back_44 : decode cX9_back 44 = .ok (.getfield 10, 3) := by decide +kernel
theorem dX9_back_47 : decode cX9_back 47 = .ok (.getfield 153, 3) := by decide +kernel
theorem dX9_back_50 : decode cX9_back 50 = .ok (.iconst 1, 1) := by decide +kernel
theorem dX9_back_51 : decode cX9_back 51 = .ok (.aaload, 1) := by decide +kernel
theorem dX9_back_52 : decode cX9_back 52 = .ok (.invokevirtual 211, 3) := by decide +kernel
theorem dX9_back_55 : decode cX9_back 55 = .ok (.ireturn, 1) := by decide +kernel
theorem dX9_fire_0 : decode cX9_fire 0 = .ok (.aload_n 0, 1) := by decide +kernel
theorem dX9_fire_1 : decode cX9_fire 1 = .ok (.getfield 10, 3) := by decide +kernel
theorem dX9_fire_4 : decode cX9_fire 4 = .ok (.getfield 57, 3) := by decide +kernel
theorem dX9_fire_7 : decode cX9_fire 7 = .ok (.astore 4, 2) := by decide +kernel
theorem dX9_fire_9 : decode cX9_fire 9 = .ok (.aload 4, 2) := by decide +kernel
theorem dX9_fire_11 : decode cX9_fire 11 = .ok (.iload_n 1, 1) := by decide +kernel
theorem dX9_fire_12 : decode cX9_fire 12 = .ok (.invokevirtual 119, 3) := by decide +kernel
theorem dX9_fire_15 : decode cX9_fire 15 = .ok (.ifCond .eq 18, 3) := by decide +kernel
theorem dX9_fire_18 : decode cX9_fire 18 = .ok (.aload_n 0, 1) := by decide +kernel
theorem dX9_fire_19 : decode cX9_fire 19 = .ok (.iload_n 2, 1) := by decide +kernel
theorem dX9_fire_20 : decode cX9_fire 20 = .ok (.invokevirtual 215, 3) := by decide +kernel
theorem dX9_fire_23 : decode cX9_fire 23 = .ok (.ifCond .eq 10, 3) := by decide +kernel
theorem dX9_fire_26 : decode cX9_fire 26 = .ok (.iload_n 3, 1) := by decide +kernel
theorem dX9_fire_27 : decode cX9_fire 27 = .ok (.invokestatic 218, 3) := by decide +kernel
theorem dX9_fire_30 : decode cX9_fire 30 = .ok (.ifCond .ne 9, 3) := by decide +kernel
theorem dX9_fire_33 : decode cX9_fire 33 = .ok (.aload_n 0, 1) := by decide +kernel
theorem dX9_fire_34 : decode cX9_fire 34 = .ok (.iconst 1, 1) := by decide +kernel
theorem dX9_fire_35 : decode cX9_fire 35 = .ok (.invokevirtual 64, 3) := by decide +kernel
theorem dX9_fire_38 : decode cX9_fire 38 = .ok (.ireturn, 1) := by decide +kernel
theorem dX9_fire_39 : decode cX9_fire 39 = .ok (.iload_n 2, 1) := by decide +kernel
theorem dX9_fire_40 : decode cX9_fire 40 = .ok (.ifCond .ne 9, 3) := by decide +kernel
theorem dX9_fire_43 : decode cX9_fire 43 = .ok (.aload_n 0, 1) := by decide +kernel
theorem dX9_fire_44 : decode cX9_fire 44 = .ok (.iconst 2, 1) := by decide +kernel
theorem dX9_fire_45 : decode cX9_fire 45 = .ok (.invokevirtual 64, 3) := by decide +kernel
theorem dX9_fire_48 : decode cX9_fire 48 = .ok (.ireturn, 1) := by decide +kernel
theorem dX9_fire_49 : decode cX9_fire 49 = .ok (.aload 4, 2) := by decide +kernel
theorem dX9_fire_51 : decode cX9_fire 51 = .ok (.getfield 111, 3) := by decide +kernel
theorem dX9_fire_54 : decode cX9_fire 54 = .ok (.iload_n 1, 1) := by decide +kernel
theorem dX9_fire_55 : decode cX9_fire 55 = .ok (.aaload, 1) := by decide +kernel
theorem dX9_fire_56 : decode cX9_fire 56 = .ok (.astore 5, 2) := by decide +kernel
theorem dX9_fire_58 : decode cX9_fire 58 = .ok (.aload 5, 2) := by decide +kernel
theorem dX9_fire_60 : decode cX9_fire 60 = .ok (.iload_n 2, 1) := by decide +kernel
theorem dX9_fire_61 : decode cX9_fire 61 = .ok (.invokevirtual 221, 3) := by decide +kernel
theorem dX9_fire_64 : decode cX9_fire 64 = .ok (.ifCond .ne 9, 3) := by decide +kernel
theorem dX9_fire_67 : decode cX9_fire 67 = .ok (.aload_n 0, 1) := by decide +kernel
theorem dX9_fire_68 : decode cX9_fire 68 = .ok (.iconst 3, 1) := by decide +kernel
theorem dX9_fire_69 : decode cX9_fire 69 = .ok (.invokevirtual 64, 3) := by decide +kernel
theorem dX9_fire_72 : decode cX9_fire 72 = .ok (.ireturn, 1) := by decide +kernel
theorem dX9_fire_73 : decode cX9_fire 73 = .ok (.aload_n 0, 1) := by decide +kernel
theorem dX9_fire_74 : decode cX9_fire 74 = .ok (.iload_n 2, 1) := by decide +kernel
theorem dX9_fire_75 : decode cX9_fire 75 = .ok (.iload_n 3, 1) := by decide +kernel
theorem dX9_fire_76 : decode cX9_fire 76 = .ok (.invokevirtual 224, 3) := by decide +kernel
theorem dX9_fire_79 : decode cX9_fire 79 = .ok (.istore 6, 2) := by decide +kernel
theorem dX9_fire_81 : decode cX9_fire 81 = .ok (.iload 6, 2) := by decide +kernel
theorem dX9_fire_83 : decode cX9_fire 83 = .ok (.iconst (-1), 1) := by decide +kernel
theorem dX9_fire_84 : decode cX9_fire 84 = .ok (.if_icmp .ne 9, 3) := by decide +kernel
theorem dX9_fire_87 : decode cX9_fire 87 = .ok (.aload_n 0, 1) := by decide +kernel
theorem dX9_fire_88 : decode cX9_fire 88 = .ok (.iconst 5, 1) := by decide +kernel
theorem dX9_fire_89 : decode cX9_fire 89 = .ok (.invokevirtual 64, 3) := by decide +kernel
theorem dX9_fire_92 : decode cX9_fire 92 = .ok (.ireturn, 1) := by decide +kernel
theorem dX9_fire_93 : decode cX9_fire 93 = .ok (.aload 5, 2) := by decide +kernel
theorem dX9_fire_95 : decode cX9_fire 95 = .ok (.iload_n 2, 1) := by decide +kernel
theorem dX9_fire_96 : decode cX9_fire 96 = .ok (.invokevirtual 228, 3) := by decide +kernel
theorem dX9_fire_99 : decode cX9_fire 99 = .ok (.iload 6, 2) := by decide +kernel
theorem dX9_fire_101 : decode cX9_fire 101 = .ok (.ireturn, 1) := by decide +kernel
theorem dX9_days_0 : decode cX9_days 0 = .ok (.iload_n 1, 1) := by decide +kernel
theorem dX9_days_1 : decode cX9_days 1 = .ok (.iconst 1, 1) := by decide +kernel
theorem dX9_days_2 : decode cX9_days 2 = .ok (.bipush 60, 2) := by decide +kernel
theorem dX9_days_4 : decode cX9_days 4 = .ok (.invokestatic 100, 3) := by decide +kernel
theorem dX9_days_7 : decode cX9_days 7 = .ok (.ifCond .ne 9, 3) := by decide +kernel
theorem dX9_days_10 : decode cX9_days 10 = .ok (.aload_n 0, 1) := by decide +kernel
theorem dX9_days_11 : decode cX9_days 11 = .ok (.iconst 1, 1) := by decide +kernel
theorem dX9_days_12 : decode cX9_days 12 = .ok (.invokevirtual 64, 3) := by decide +kernel
theorem dX9_days_15 : decode cX9_days 15 = .ok (.ireturn, 1) := by decide +kernel
theorem dX9_days_16 : decode cX9_days 16 = .ok (.aload_n 0, 1) := by decide +kernel
theorem dX9_days_17 : decode cX9_days 17 = .ok (.getfield 10, 3) := by decide +kernel
theorem dX9_days_20 : decode cX9_days 20 = .ok (.getfield 57, 3) := by decide +kernel
theorem dX9_days_23 : decode cX9_days 23 = .ok (.getfield 231, 3) := by decide +kernel
theorem dX9_days_26 : decode cX9_days 26 = .ok (.iload_n 1, 1) := by decide +kernel
theorem dX9_days_27 : decode cX9_days 27 = .ok (.iadd, 1) := by decide +kernel
theorem dX9_days_28 : decode cX9_days 28 = .ok (.sipush 9999, 3) := by decide +kernel
theorem dX9_days_31 : decode cX9_days 31 = .ok (.if_icmp .le 9, 3) := by decide +kernel
theorem dX9_days_34 : decode cX9_days 34 = .ok (.aload_n 0, 1) := by decide +kernel
theorem dX9_days_35 : decode cX9_days 35 = .ok (.iconst 3, 1) := by decide +kernel
theorem dX9_days_36 : decode cX9_days 36 = .ok (.invokevirtual 64, 3) := by decide +kernel
theorem dX9_days_39 : decode cX9_days 39 = .ok (.ireturn, 1) := by decide +kernel
theorem dX9_days_40 : decode cX9_days 40 = .ok (.aload_n 0, 1) := by decide +kernel
theorem dX9_days_41 : decode cX9_days 41 = .ok (.getfield 10, 3) := by decide +kernel
theorem dX9_days_44 : decode cX9_days 44 = .ok (.getfield 57, 3) := by decide +kernel
theorem dX9_days_47 : decode cX9_days 47 = .ok (.iload_n 1, 1) := by decide +kernel
theorem dX9_days_48 : decode cX9_days 48 = .ok (.aload_n 0, 1) := by decide +kernel
theorem dX9_days_49 : decode cX9_days 49 = .ok (.getfield 10, 3) := by decide +kernel
theorem dX9_days_52 : decode cX9_days 52 = .ok (.getfield 153, 3) := by decide +kernel
theorem dX9_days_55 : decode cX9_days 55 = .ok (.iconst 1, 1) := by decide +kernel
theorem dX9_days_56 : decode cX9_days 56 = .ok (.aaload, 1) := by decide +kernel
theorem dX9_days_57 : decode cX9_days 57 = .ok (.invokevirtual 234, 3) := by decide +kernel
theorem dX9_days_60 : decode cX9_days 60 = .ok (.aload_n 0, 1) := by decide +kernel
theorem dX9_days_61 : decode cX9_days 61 = .ok (.getfield 10, 3) := by decide +kernel
theorem dX9_days_64 : decode cX9_days 64 = .ok (.getfield 57, 3) := by decide +kernel
theorem dX9_days_67 : decode cX9_days 67 = .ok (.getfield 177, 3) := by decide +kernel
theorem dX9_days_70 : decode cX9_days 70 = .ok (.ireturn, 1) := by decide +kernel
theorem dX9_loose_0 : decode cX9_loose 0 = .ok (.iload_n 1, 1) := by decide +kernel
theorem dX9_loose_1 : decode cX9_loose 1 = .ok (.iconst 1, 1) := by decide +kernel
theorem dX9_loose_2 : decode cX9_loose 2 = .ok (.bipush 40, 2) := by decide +kernel
theorem dX9_loose_4 : decode cX9_loose 4 = .ok (.invokestatic 100, 3) := by decide +kernel
theorem dX9_loose_7 : decode cX9_loose 7 = .ok (.ifCond .ne 9, 3) := by decide +kernel
theorem dX9_loose_10 : decode cX9_loose 10 = .ok (.aload_n 0, 1) := by decide +kernel
theorem dX9_loose_11 : decode cX9_loose 11 = .ok (.iconst 1, 1) := by decide +kernel
theorem dX9_loose_12 : decode cX9_loose 12 = .ok (.invokevirtual 64, 3) := by decide +kernel
theorem dX9_loose_15 : decode cX9_loose 15 = .ok (.ireturn, 1) := by decide +kernel
theorem dX9_loose_16 : decode cX9_loose 16 = .ok (.aload_n 0, 1) := by decide +kernel
theorem dX9_loose_17 : decode cX9_loose 17 = .ok (.getfield 10, 3) := by decide +kernel
theorem dX9_loose_20 : decode cX9_loose 20 = .ok (.getfield 57, 3) := by decide +kernel
theorem dX9_loose_23 : decode cX9_loose 23 = .ok (.getfield 231, 3) := by decide +kernel
theorem dX9_loose_26 : decode cX9_loose 26 = .ok (.iload_n 1, 1) := by decide +kernel
theorem dX9_loose_27 : decode cX9_loose 27 = .ok (.iadd, 1) := by decide +kernel
theorem dX9_loose_28 : decode cX9_loose 28 = .ok (.sipush 9999, 3) := by decide +kernel
theorem dX9_loose_31 : decode cX9_loose 31 = .ok (.if_icmp .le 9, 3) := by decide +kernel
theorem dX9_loose_34 : decode cX9_loose 34 = .ok (.aload_n 0, 1) := by decide +kernel
theorem dX9_loose_35 : decode cX9_loose 35 = .ok (.iconst 3, 1) := by decide +kernel
theorem dX9_loose_36 : decode cX9_loose 36 = .ok (.invokevirtual 64, 3) := by decide +kernel
theorem dX9_loose_39 : decode cX9_loose 39 = .ok (.ireturn, 1) := by decide +kernel
theorem dX9_loose_40 : decode cX9_loose 40 = .ok (.iconst 0, 1) := by decide +kernel
theorem dX9_loose_41 : decode cX9_loose 41 = .ok (.istore_n 2, 1) := by decide +kernel
theorem dX9_loose_42 : decode cX9_loose 42 = .ok (.iload_n 2, 1) := by decide +kernel
theorem dX9_loose_43 : decode cX9_loose 43 = .ok (.iload_n 1, 1) := by decide +kernel
theorem dX9_loose_44 : decode cX9_loose 44 = .ok (.if_icmp .ge 33, 3) := by decide +kernel
theorem dX9_loose_47 : decode cX9_loose 47 = .ok (.aload_n 0, 1) := by decide +kernel
theorem dX9_loose_48 : decode cX9_loose 48 = .ok (.invokevirtual 238, 3) := by decide +kernel
theorem dX9_loose_51 : decode cX9_loose 51 = .ok (.aload_n 0, 1) := by decide +kernel
theorem dX9_loose_52 : decode cX9_loose 52 = .ok (.getfield 10, 3) := by decide +kernel
theorem dX9_loose_55 : decode cX9_loose 55 = .ok (.getfield 57, 3) := by decide +kernel
theorem dX9_loose_58 : decode cX9_loose 58 = .ok (.iconst 1, 1) := by decide +kernel
theorem dX9_loose_59 : decode cX9_loose 59 = .ok (.aload_n 0, 1) := by decide +kernel
theorem dX9_loose_60 : decode cX9_loose 60 = .ok (.getfield 10, 3) := by decide +kernel
theorem dX9_loose_63 : decode cX9_loose 63 = .ok (.getfield 153, 3) := by decide +kernel
theorem dX9_loose_66 : decode cX9_loose 66 = .ok (.iconst 1, 1) := by decide +kernel
theorem dX9_loose_67 : decode cX9_loose 67 = .ok (.aaload, 1) := by decide +kernel
theorem dX9_loose_68 : decode cX9_loose 68 = .ok (.invokevirtual 234, 3) := by decide +kernel
theorem dX9_loose_71 : decode cX9_loose 71 = .ok (.iinc 2 1, 3) := by decide +kernel
theorem dX9_loose_74 : decode cX9_loose 74 = .ok (.goto (-32), 3) := by decide +kernel
theorem dX9_loose_77 : decode cX9_loose 77 = .ok (.aload_n 0, 1) := by decide +kernel
theorem dX9_loose_78 : decode cX9_loose 78 = .ok (.getfield 10, 3) := by decide +kernel
theorem dX9_loose_81 : decode cX9_loose 81 = .ok (.getfield 57, 3) := by decide +kernel
theorem dX9_loose_84 : decode cX9_loose 84 = .ok (.getfield 177, 3) := by decide +kernel
theorem dX9_loose_87 : decode cX9_loose 87 = .ok (.ireturn, 1) := by decide +kernel
theorem dX9_colour_0 : decode cX9_colour 0 = .ok (.aload_n 0, 1) := by decide +kernel
theorem dX9_colour_1 : decode cX9_colour 1 = .ok (.iload_n 1, 1) := by decide +kernel
theorem dX9_colour_2 : decode cX9_colour 2 = .ok (.invokevirtual 215, 3) := by decide +kernel
theorem dX9_colour_5 : decode cX9_colour 5 = .ok (.ifCond .eq 10, 3) := by decide +kernel
theorem dX9_colour_8 : decode cX9_colour 8 = .ok (.iload_n 2, 1) := by decide +kernel
theorem dX9_colour_9 : decode cX9_colour 9 = .ok (.invokestatic 218, 3) := by decide +kernel
theorem dX9_colour_12 : decode cX9_colour 12 = .ok (.ifCond .ne 9, 3) := by decide +kernel
theorem dX9_colour_15 : decode cX9_colour 15 = .ok (.aload_n 0, 1) := by decide +kernel
theorem dX9_colour_16 : decode cX9_colour 16 = .ok (.iconst 1, 1) := by decide +kernel
theorem dX9_colour_17 : decode cX9_colour 17 = .ok (.invokevirtual 64, 3) := by decide +kernel
theorem dX9_colour_20 : decode cX9_colour 20 = .ok (.ireturn, 1) := by decide +kernel
theorem dX9_colour_21 : decode cX9_colour 21 = .ok (.aload_n 0, 1) := by decide +kernel
theorem dX9_colour_22 : decode cX9_colour 22 = .ok (.iload_n 1, 1) := by decide +kernel
theorem dX9_colour_23 : decode cX9_colour 23 = .ok (.iload_n 2, 1) := by decide +kernel
theorem dX9_colour_24 : decode cX9_colour 24 = .ok (.invokevirtual 224, 3) := by decide +kernel
theorem dX9_colour_27 : decode cX9_colour 27 = .ok (.istore_n 3, 1) := by decide +kernel
theorem dX9_colour_28 : decode cX9_colour 28 = .ok (.iload_n 3, 1) := by decide +kernel
theorem dX9_colour_29 : decode cX9_colour 29 = .ok (.iconst (-1), 1) := by decide +kernel
theorem dX9_colour_30 : decode cX9_colour 30 = .ok (.if_icmp .ne 11, 3) := by decide +kernel
theorem dX9_colour_33 : decode cX9_colour 33 = .ok (.aload_n 0, 1) := by decide +kernel
theorem dX9_colour_34 : decode cX9_colour 34 = .ok (.iconst 5, 1) := by decide +kernel
theorem dX9_colour_35 : decode cX9_colour 35 = .ok (.invokevirtual 64, 3) := by decide +kernel
theorem dX9_colour_38 : decode cX9_colour 38 = .ok (.goto 4, 3) := by decide +kernel
theorem dX9_colour_41 : decode cX9_colour 41 = .ok (.iload_n 3, 1) := by decide +kernel
theorem dX9_colour_42 : decode cX9_colour 42 = .ok (.ireturn, 1) := by decide +kernel
theorem dX9_then_0 : decode cX9_then 0 = .ok (.iload_n 1, 1) := by decide +kernel
theorem dX9_then_1 : decode cX9_then 1 = .ok (.iconst 0, 1) := by decide +kernel
theorem dX9_then_2 : decode cX9_then 2 = .ok (.bipush 60, 2) := by decide +kernel
theorem dX9_then_4 : decode cX9_then 4 = .ok (.invokestatic 100, 3) := by decide +kernel
theorem dX9_then_7 : decode cX9_then 7 = .ok (.ifCond .eq 17, 3) := by decide +kernel
theorem dX9_then_10 : decode cX9_then 10 = .ok (.aload_n 0, 1) := by decide +kernel
theorem dX9_then_11 : decode cX9_then 11 = .ok (.getfield 10, 3) := by decide +kernel
theorem dX9_then_14 : decode cX9_then 14 = .ok (.getfield 57, 3) := by decide +kernel
theorem dX9_then_17 : decode cX9_then 17 = .ok (.iload_n 2, 1) := by decide +kernel
theorem dX9_then_18 : decode cX9_then 18 = .ok (.invokevirtual 119, 3) := by decide +kernel
theorem dX9_then_21 : decode cX9_then 21 = .ok (.ifCond .ne 9, 3) := by decide +kernel
theorem dX9_then_24 : decode cX9_then 24 = .ok (.aload_n 0, 1) := by decide +kernel
theorem dX9_then_25 : decode cX9_then 25 = .ok (.iconst 1, 1) := by decide +kernel
theorem dX9_then_26 : decode cX9_then 26 = .ok (.invokevirtual 64, 3) := by decide +kernel
theorem dX9_then_29 : decode cX9_then 29 = .ok (.ireturn, 1) := by decide +kernel
theorem dX9_then_30 : decode cX9_then 30 = .ok (.iload_n 3, 1) := by decide +kernel
theorem dX9_then_31 : decode cX9_then 31 = .ok (.iconst (-1), 1) := by decide +kernel
theorem dX9_then_32 : decode cX9_then 32 = .ok (.if_icmp .eq 23, 3) := by decide +kernel
theorem dX9_then_35 : decode cX9_then 35 = .ok (.aload_n 0, 1) := by decide +kernel
theorem dX9_then_36 : decode cX9_then 36 = .ok (.getfield 10, 3) := by decide +kernel
theorem dX9_then_39 : decode cX9_then 39 = .ok (.getfield 57, 3) := by decide +kernel
theorem dX9_then_42 : decode cX9_then 42 = .ok (.iload_n 3, 1) := by decide +kernel
theorem dX9_then_43 : decode cX9_then 43 = .ok (.invokevirtual 82, 3) := by decide +kernel
theorem dX9_then_46 : decode cX9_then 46 = .ok (.ifCond .ne 9, 3) := by decide +kernel
theorem dX9_then_49 : decode cX9_then 49 = .ok (.aload_n 0, 1) := by decide +kernel
theorem dX9_then_50 : decode cX9_then 50 = .ok (.iconst 1, 1) := by decide +kernel
theorem dX9_then_51 : decode cX9_then 51 = .ok (.invokevirtual 64, 3) := by decide +kernel
theorem dX9_then_54 : decode cX9_then 54 = .ok (.ireturn, 1) := by decide +kernel
theorem dX9_then_55 : decode cX9_then 55 = .ok (.aload_n 0, 1) := by decide +kernel
theorem dX9_then_56 : decode cX9_then 56 = .ok (.getfield 22, 3) := by decide +kernel
theorem dX9_then_59 : decode cX9_then 59 = .ok (.aload_n 0, 1) := by decide +kernel
theorem dX9_then_60 : decode cX9_then 60 = .ok (.getfield 10, 3) := by decide +kernel
theorem dX9_then_63 : decode cX9_then 63 = .ok (.getfield 57, 3) := by decide +kernel
theorem dX9_then_66 : decode cX9_then 66 = .ok (.invokevirtual 241, 3) := by decide +kernel
theorem dX9_then_69 : decode cX9_then 69 = .ok (.aload_n 0, 1) := by decide +kernel
theorem dX9_then_70 : decode cX9_then 70 = .ok (.getfield 22, 3) := by decide +kernel
theorem dX9_then_73 : decode cX9_then 73 = .ok (.iload_n 1, 1) := by decide +kernel
theorem dX9_then_74 : decode cX9_then 74 = .ok (.aload_n 0, 1) := by decide +kernel
theorem dX9_then_75 : decode cX9_then 75 = .ok (.getfield 10, 3) := by decide +kernel
theorem dX9_then_78 : decode cX9_then 78 = .ok (.getfield 153, 3) := by decide +kernel
theorem dX9_then_81 : decode cX9_then 81 = .ok (.iconst 1, 1) := by decide +kernel
theorem dX9_then_82 : decode cX9_then 82 = .ok (.aaload, 1) := by decide +kernel
theorem dX9_then_83 : decode cX9_then 83 = .ok (.invokevirtual 234, 3) := by decide +kernel
theorem dX9_then_86 : decode cX9_then 86 = .ok (.aload_n 0, 1) := by decide +kernel
theorem dX9_then_87 : decode cX9_then 87 = .ok (.getfield 22, 3) := by decide +kernel
theorem dX9_then_90 : decode cX9_then 90 = .ok (.getfield 111, 3) := by decide +kernel
theorem dX9_then_93 : decode cX9_then 93 = .ok (.iload_n 2, 1) := by decide +kernel
theorem dX9_then_94 : decode cX9_then 94 = .ok (.aaload, 1) := by decide +kernel
theorem dX9_then_95 : decode cX9_then 95 = .ok (.astore 4, 2) := by decide +kernel
theorem dX9_then_97 : decode cX9_then 97 = .ok (.iload_n 3, 1) := by decide +kernel
theorem dX9_then_98 : decode cX9_then 98 = .ok (.iconst (-1), 1) := by decide +kernel
theorem dX9_then_99 : decode cX9_then 99 = .ok (.if_icmp .ne 11, 3) := by decide +kernel
theorem dX9_then_102 : decode cX9_then 102 = .ok (.aload 4, 2) := by decide +kernel
theorem dX9_then_104 : decode cX9_then 104 = .ok (.getfield 125, 3) := by decide +kernel
theorem dX9_then_107 : decode cX9_then 107 = .ok (.goto 10, 3) := by decide +kernel
theorem dX9_then_110 : decode cX9_then 110 = .ok (.aload 4, 2) := by decide +kernel
theorem dX9_then_112 : decode cX9_then 112 = .ok (.getfield 134, 3) := by decide +kernel
theorem dX9_then_115 : decode cX9_then 115 = .ok (.iload_n 3, 1) := by decide +kernel
theorem dX9_then_116 : decode cX9_then 116 = .ok (.iaload, 1) := by decide +kernel
theorem dX9_then_117 : decode cX9_then 117 = .ok (.ireturn, 1) := by decide +kernel
theorem dX9_breaks_0 : decode cX9_breaks 0 = .ok (.aload_n 0, 1) := by decide +kernel
theorem dX9_breaks_1 : decode cX9_breaks 1 = .ok (.getfield 10, 3) := by decide +kernel
theorem dX9_breaks_4 : decode cX9_breaks 4 = .ok (.getfield 57, 3) := by decide +kernel
theorem dX9_breaks_7 : decode cX9_breaks 7 = .ok (.iload_n 1, 1) := by decide +kernel
theorem dX9_breaks_8 : decode cX9_breaks 8 = .ok (.invokevirtual 119, 3) := by decide +kernel
theorem dX9_breaks_11 : decode cX9_breaks 11 = .ok (.ifCond .ne 9, 3) := by decide +kernel
theorem dX9_breaks_14 : decode cX9_breaks 14 = .ok (.aload_n 0, 1) := by decide +kernel
theorem dX9_breaks_15 : decode cX9_breaks 15 = .ok (.iconst 1, 1) := by decide +kernel
theorem dX9_breaks_16 : decode cX9_breaks 16 = .ok (.invokevirtual 64, 3) := by decide +kernel
theorem dX9_breaks_19 : decode cX9_breaks 19 = .ok (.ireturn, 1) := by decide +kernel
theorem dX9_breaks_20 : decode cX9_breaks 20 = .ok (.aload_n 0, 1) := by decide +kernel
theorem dX9_breaks_21 : decode cX9_breaks 21 = .ok (.getfield 22, 3) := by decide +kernel
theorem dX9_breaks_24 : decode cX9_breaks 24 = .ok (.aload_n 0, 1) := by decide +kernel
theorem dX9_breaks_25 : decode cX9_breaks 25 = .ok (.getfield 10, 3) := by decide +kernel
theorem dX9_breaks_28 : decode cX9_breaks 28 = .ok (.getfield 57, 3) := by decide +kernel
theorem dX9_breaks_31 : decode cX9_breaks 31 = .ok (.invokevirtual 241, 3) := by decide +kernel
theorem dX9_breaks_34 : decode cX9_breaks 34 = .ok (.iconst 1, 1) := by decide +kernel
theorem dX9_breaks_35 : decode cX9_breaks 35 = .ok (.istore_n 2, 1) := by decide +kernel
theorem dX9_breaks_36 : decode cX9_breaks 36 = .ok (.iload_n 2, 1) := by decide +kernel
theorem dX9_breaks_37 : decode cX9_breaks 37 = .ok (.bipush 60, 2) := by decide +kernel
theorem dX9_breaks_39 : decode cX9_breaks 39 = .ok (.if_icmp .gt 58, 3) := by decide +kernel
theorem dX9_breaks_42 : decode cX9_breaks 42 = .ok (.aload_n 0, 1) := by decide +kernel
theorem dX9_breaks_43 : decode cX9_breaks 43 = .ok (.getfield 22, 3) := by decide +kernel
theorem dX9_breaks_46 : decode cX9_breaks 46 = .ok (.iconst 1, 1) := by decide +kernel
theorem dX9_breaks_47 : decode cX9_breaks 47 = .ok (.aload_n 0, 1) := by decide +kernel
theorem dX9_breaks_48 : decode cX9_breaks 48 = .ok (.getfield 10, 3) := by decide +kernel
theorem dX9_breaks_51 : decode cX9_breaks 51 = .ok (.getfield 153, 3) := by decide +kernel
theorem dX9_breaks_54 : decode cX9_breaks 54 = .ok (.iconst 1, 1) := by decide +kernel
theorem dX9_breaks_55 : decode cX9_breaks 55 = .ok (.aaload, 1) := by decide +kernel
theorem dX9_breaks_56 : decode cX9_breaks 56 = .ok (.invokevirtual 234, 3) := by decide +kernel
theorem dX9_breaks_59 : decode cX9_breaks 59 = .ok (.aload_n 0, 1) := by decide +kernel
theorem dX9_breaks_60 : decode cX9_breaks 60 = .ok (.getfield 22, 3) := by decide +kernel
theorem dX9_breaks_63 : decode cX9_breaks 63 = .ok (.getfield 111, 3) := by decide +kernel
theorem dX9_breaks_66 : decode cX9_breaks 66 = .ok (.iload_n 1, 1) := by decide +kernel
theorem dX9_breaks_67 : decode cX9_breaks 67 = .ok (.aaload, 1) := by decide +kernel
theorem dX9_breaks_68 : decode cX9_breaks 68 = .ok (.getfield 125, 3) := by decide +kernel
theorem dX9_breaks_71 : decode cX9_breaks 71 = .ok (.aload_n 0, 1) := by decide +kernel
theorem dX9_breaks_72 : decode cX9_breaks 72 = .ok (.getfield 10, 3) := by decide +kernel
theorem dX9_breaks_75 : decode cX9_breaks 75 = .ok (.getfield 57, 3) := by decide +kernel
theorem dX9_breaks_78 : decode cX9_breaks 78 = .ok (.getfield 111, 3) := by decide +kernel
theorem dX9_breaks_81 : decode cX9_breaks 81 = .ok (.iload_n 1, 1) := by decide +kernel
theorem dX9_breaks_82 : decode cX9_breaks 82 = .ok (.aaload, 1) := by decide +kernel
theorem dX9_breaks_83 : decode cX9_breaks 83 = .ok (.getfield 125, 3) := by decide +kernel
theorem dX9_breaks_86 : decode cX9_breaks 86 = .ok (.if_icmp .le 5, 3) := by decide +kernel
theorem dX9_breaks_89 : decode cX9_breaks 89 = .ok (.iload_n 2, 1) := by decide +kernel
theorem dX9_breaks_90 : decode cX9_breaks 90 = .ok (.ireturn, 1) := by decide +kernel
theorem dX9_breaks_91 : decode cX9_breaks 91 = .ok (.iinc 2 1, 3) := by decide +kernel
theorem dX9_breaks_94 : decode cX9_breaks 94 = .ok (.goto (-58), 3) := by decide +kernel
theorem dX9_breaks_97 : decode cX9_breaks 97 = .ok (.aload_n 0, 1) := by decide +kernel
theorem dX9_breaks_98 : decode cX9_breaks 98 = .ok (.iconst 2, 1) := by decide +kernel
theorem dX9_breaks_99 : decode cX9_breaks 99 = .ok (.invokevirtual 64, 3) := by decide +kernel
theorem dX9_breaks_102 : decode cX9_breaks 102 = .ok (.ireturn, 1) := by decide +kernel
theorem dX9_recipe_0 : decode cX9_recipe 0 = .ok (.aload_n 0, 1) := by decide +kernel
theorem dX9_recipe_1 : decode cX9_recipe 1 = .ok (.getfield 10, 3) := by decide +kernel
theorem dX9_recipe_4 : decode cX9_recipe 4 = .ok (.getfield 57, 3) := by decide +kernel
theorem dX9_recipe_7 : decode cX9_recipe 7 = .ok (.iload_n 1, 1) := by decide +kernel
theorem dX9_recipe_8 : decode cX9_recipe 8 = .ok (.invokevirtual 119, 3) := by decide +kernel
theorem dX9_recipe_11 : decode cX9_recipe 11 = .ok (.ifCond .eq 17, 3) := by decide +kernel
theorem dX9_recipe_14 : decode cX9_recipe 14 = .ok (.iload_n 2, 1) := by decide +kernel
theorem dX9_recipe_15 : decode cX9_recipe 15 = .ok (.invokestatic 245, 3) := by decide +kernel
theorem dX9_recipe_18 : decode cX9_recipe 18 = .ok (.ifCond .eq 10, 3) := by decide +kernel
theorem dX9_recipe_21 : decode cX9_recipe 21 = .ok (.iload_n 3, 1) := by decide +kernel
theorem dX9_recipe_22 : decode cX9_recipe 22 = .ok (.invokestatic 218, 3) := by decide +kernel
theorem dX9_recipe_25 : decode cX9_recipe 25 = .ok (.ifCond .ne 9, 3) := by decide +kernel
theorem dX9_recipe_28 : decode cX9_recipe 28 = .ok (.aload_n 0, 1) := by decide +kernel
