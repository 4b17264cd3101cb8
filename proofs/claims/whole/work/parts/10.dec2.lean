theorem dX9_recipe_29 : decode cX9_recipe 29 = .ok (.iconst 1, 1) := by decide +kernel
theorem dX9_recipe_30 : decode cX9_recipe 30 = .ok (.invokevirtual 64, 3) := by decide +kernel
theorem dX9_recipe_33 : decode cX9_recipe 33 = .ok (.ireturn, 1) := by decide +kernel
theorem dX9_recipe_34 : decode cX9_recipe 34 = .ok (.aload_n 0, 1) := by decide +kernel
theorem dX9_recipe_35 : decode cX9_recipe 35 = .ok (.aload_n 0, 1) := by decide +kernel
theorem dX9_recipe_36 : decode cX9_recipe 36 = .ok (.getfield 10, 3) := by decide +kernel
theorem dX9_recipe_39 : decode cX9_recipe 39 = .ok (.getfield 57, 3) := by decide +kernel
theorem dX9_recipe_42 : decode cX9_recipe 42 = .ok (.getfield 111, 3) := by decide +kernel
theorem dX9_recipe_45 : decode cX9_recipe 45 = .ok (.iload_n 1, 1) := by decide +kernel
theorem dX9_recipe_46 : decode cX9_recipe 46 = .ok (.aaload, 1) := by decide +kernel
theorem dX9_recipe_47 : decode cX9_recipe 47 = .ok (.iload_n 3, 1) := by decide +kernel
theorem dX9_recipe_48 : decode cX9_recipe 48 = .ok (.invokevirtual 248, 3) := by decide +kernel
theorem dX9_recipe_51 : decode cX9_recipe 51 = .ok (.aload_n 0, 1) := by decide +kernel
theorem dX9_recipe_52 : decode cX9_recipe 52 = .ok (.iload_n 2, 1) := by decide +kernel
theorem dX9_recipe_53 : decode cX9_recipe 53 = .ok (.invokevirtual 252, 3) := by decide +kernel
theorem dX9_recipe_56 : decode cX9_recipe 56 = .ok (.istore 4, 2) := by decide +kernel
theorem dX9_recipe_58 : decode cX9_recipe 58 = .ok (.iload 4, 2) := by decide +kernel
theorem dX9_recipe_60 : decode cX9_recipe 60 = .ok (.ifCond .ne 11, 3) := by decide +kernel
theorem dX9_recipe_63 : decode cX9_recipe 63 = .ok (.aload_n 0, 1) := by decide +kernel
theorem dX9_recipe_64 : decode cX9_recipe 64 = .ok (.iconst 2, 1) := by decide +kernel
theorem dX9_recipe_65 : decode cX9_recipe 65 = .ok (.invokevirtual 64, 3) := by decide +kernel
theorem dX9_recipe_68 : decode cX9_recipe 68 = .ok (.goto 5, 3) := by decide +kernel
theorem dX9_recipe_71 : decode cX9_recipe 71 = .ok (.iload 4, 2) := by decide +kernel
theorem dX9_recipe_73 : decode cX9_recipe 73 = .ok (.ireturn, 1) := by decide +kernel
theorem dX9_heats_0 : decode cX9_heats 0 = .ok (.aload_n 0, 1) := by decide +kernel
theorem dX9_heats_1 : decode cX9_heats 1 = .ok (.iload_n 1, 1) := by decide +kernel
theorem dX9_heats_2 : decode cX9_heats 2 = .ok (.invokevirtual 215, 3) := by decide +kernel
theorem dX9_heats_5 : decode cX9_heats 5 = .ok (.ifCond .eq 10, 3) := by decide +kernel
theorem dX9_heats_8 : decode cX9_heats 8 = .ok (.iload_n 2, 1) := by decide +kernel
theorem dX9_heats_9 : decode cX9_heats 9 = .ok (.invokestatic 245, 3) := by decide +kernel
theorem dX9_heats_12 : decode cX9_heats 12 = .ok (.ifCond .ne 9, 3) := by decide +kernel
theorem dX9_heats_15 : decode cX9_heats 15 = .ok (.aload_n 0, 1) := by decide +kernel
theorem dX9_heats_16 : decode cX9_heats 16 = .ok (.iconst 1, 1) := by decide +kernel
theorem dX9_heats_17 : decode cX9_heats 17 = .ok (.invokevirtual 64, 3) := by decide +kernel
theorem dX9_heats_20 : decode cX9_heats 20 = .ok (.ireturn, 1) := by decide +kernel
theorem dX9_heats_21 : decode cX9_heats 21 = .ok (.aload_n 0, 1) := by decide +kernel
theorem dX9_heats_22 : decode cX9_heats 22 = .ok (.iload_n 1, 1) := by decide +kernel
theorem dX9_heats_23 : decode cX9_heats 23 = .ok (.iload_n 2, 1) := by decide +kernel
theorem dX9_heats_24 : decode cX9_heats 24 = .ok (.invokevirtual 255, 3) := by decide +kernel
theorem dX9_heats_27 : decode cX9_heats 27 = .ok (.ireturn, 1) := by decide +kernel
theorem dX9_burnt_0 : decode cX9_burnt 0 = .ok (.iload_n 1, 1) := by decide +kernel
theorem dX9_burnt_1 : decode cX9_burnt 1 = .ok (.invokestatic 258, 3) := by decide +kernel
theorem dX9_burnt_4 : decode cX9_burnt 4 = .ok (.ifCond .ne 9, 3) := by decide +kernel
theorem dX9_burnt_7 : decode cX9_burnt 7 = .ok (.aload_n 0, 1) := by decide +kernel
theorem dX9_burnt_8 : decode cX9_burnt 8 = .ok (.iconst 1, 1) := by decide +kernel
theorem dX9_burnt_9 : decode cX9_burnt 9 = .ok (.invokevirtual 64, 3) := by decide +kernel
theorem dX9_burnt_12 : decode cX9_burnt 12 = .ok (.ireturn, 1) := by decide +kernel
theorem dX9_burnt_13 : decode cX9_burnt 13 = .ok (.aload_n 0, 1) := by decide +kernel
theorem dX9_burnt_14 : decode cX9_burnt 14 = .ok (.getfield 42, 3) := by decide +kernel
theorem dX9_burnt_17 : decode cX9_burnt 17 = .ok (.iload_n 1, 1) := by decide +kernel
theorem dX9_burnt_18 : decode cX9_burnt 18 = .ok (.aaload, 1) := by decide +kernel
theorem dX9_burnt_19 : decode cX9_burnt 19 = .ok (.invokevirtual 261, 3) := by decide +kernel
theorem dX9_burnt_22 : decode cX9_burnt 22 = .ok (.ifCond .ne 17, 3) := by decide +kernel
theorem dX9_burnt_25 : decode cX9_burnt 25 = .ok (.aload_n 0, 1) := by decide +kernel
theorem dX9_burnt_26 : decode cX9_burnt 26 = .ok (.getfield 42, 3) := by decide +kernel
theorem dX9_burnt_29 : decode cX9_burnt 29 = .ok (.iload_n 1, 1) := by decide +kernel
theorem dX9_burnt_30 : decode cX9_burnt 30 = .ok (.aaload, 1) := by decide +kernel
theorem dX9_burnt_31 : decode cX9_burnt 31 = .ok (.getfield 265, 3) := by decide +kernel
theorem dX9_burnt_34 : decode cX9_burnt 34 = .ok (.bipush 10, 2) := by decide +kernel
theorem dX9_burnt_36 : decode cX9_burnt 36 = .ok (.if_icmp .le 9, 3) := by decide +kernel
theorem dX9_burnt_39 : decode cX9_burnt 39 = .ok (.aload_n 0, 1) := by decide +kernel
theorem dX9_burnt_40 : decode cX9_burnt 40 = .ok (.iconst 2, 1) := by decide +kernel
theorem dX9_burnt_41 : decode cX9_burnt 41 = .ok (.invokevirtual 64, 3) := by decide +kernel
theorem dX9_burnt_44 : decode cX9_burnt 44 = .ok (.ireturn, 1) := by decide +kernel
theorem dX9_burnt_45 : decode cX9_burnt 45 = .ok (.iconst 0, 1) := by decide +kernel
theorem dX9_burnt_46 : decode cX9_burnt 46 = .ok (.istore_n 2, 1) := by decide +kernel
theorem dX9_burnt_47 : decode cX9_burnt 47 = .ok (.iconst 0, 1) := by decide +kernel
theorem dX9_burnt_48 : decode cX9_burnt 48 = .ok (.istore_n 3, 1) := by decide +kernel
theorem dX9_burnt_49 : decode cX9_burnt 49 = .ok (.iload_n 3, 1) := by decide +kernel
theorem dX9_burnt_50 : decode cX9_burnt 50 = .ok (.aload_n 0, 1) := by decide +kernel
theorem dX9_burnt_51 : decode cX9_burnt 51 = .ok (.getfield 10, 3) := by decide +kernel
theorem dX9_burnt_54 : decode cX9_burnt 54 = .ok (.getfield 57, 3) := by decide +kernel
theorem dX9_burnt_57 : decode cX9_burnt 57 = .ok (.getfield 68, 3) := by decide +kernel
theorem dX9_burnt_60 : decode cX9_burnt 60 = .ok (.if_icmp .ge 40, 3) := by decide +kernel
theorem dX9_burnt_63 : decode cX9_burnt 63 = .ok (.aload_n 0, 1) := by decide +kernel
theorem dX9_burnt_64 : decode cX9_burnt 64 = .ok (.aload_n 0, 1) := by decide +kernel
theorem dX9_burnt_65 : decode cX9_burnt 65 = .ok (.getfield 10, 3) := by decide +kernel
theorem dX9_burnt_68 : decode cX9_burnt 68 = .ok (.getfield 57, 3) := by decide +kernel
theorem dX9_burnt_71 : decode cX9_burnt 71 = .ok (.getfield 72, 3) := by decide +kernel
theorem dX9_burnt_74 : decode cX9_burnt 74 = .ok (.iload_n 3, 1) := by decide +kernel
theorem dX9_burnt_75 : decode cX9_burnt 75 = .ok (.aaload, 1) := by decide +kernel
theorem dX9_burnt_76 : decode cX9_burnt 76 = .ok (.aload_n 0, 1) := by decide +kernel
theorem dX9_burnt_77 : decode cX9_burnt 77 = .ok (.getfield 42, 3) := by decide +kernel
theorem dX9_burnt_80 : decode cX9_burnt 80 = .ok (.iload_n 1, 1) := by decide +kernel
theorem dX9_burnt_81 : decode cX9_burnt 81 = .ok (.aaload, 1) := by decide +kernel
theorem dX9_burnt_82 : decode cX9_burnt 82 = .ok (.invokevirtual 266, 3) := by decide +kernel
theorem dX9_burnt_85 : decode cX9_burnt 85 = .ok (.ifCond .eq 9, 3) := by decide +kernel
theorem dX9_burnt_88 : decode cX9_burnt 88 = .ok (.iload_n 2, 1) := by decide +kernel
theorem dX9_burnt_89 : decode cX9_burnt 89 = .ok (.iconst 1, 1) := by decide +kernel
theorem dX9_burnt_90 : decode cX9_burnt 90 = .ok (.iload_n 3, 1) := by decide +kernel
theorem dX9_burnt_91 : decode cX9_burnt 91 = .ok (.ishl, 1) := by decide +kernel
theorem dX9_burnt_92 : decode cX9_burnt 92 = .ok (.ior, 1) := by decide +kernel
theorem dX9_burnt_93 : decode cX9_burnt 93 = .ok (.istore_n 2, 1) := by decide +kernel
theorem dX9_burnt_94 : decode cX9_burnt 94 = .ok (.iinc 3 1, 3) := by decide +kernel
theorem dX9_burnt_97 : decode cX9_burnt 97 = .ok (.goto (-48), 3) := by decide +kernel
theorem dX9_burnt_100 : decode cX9_burnt 100 = .ok (.iload_n 2, 1) := by decide +kernel
theorem dX9_burnt_101 : decode cX9_burnt 101 = .ok (.ireturn, 1) := by decide +kernel
theorem dX9_round_0 : decode cX9_round 0 = .ok (.aload_n 0, 1) := by decide +kernel
theorem dX9_round_1 : decode cX9_round 1 = .ok (.getfield 10, 3) := by decide +kernel
theorem dX9_round_4 : decode cX9_round 4 = .ok (.getfield 57, 3) := by decide +kernel
theorem dX9_round_7 : decode cX9_round 7 = .ok (.astore_n 1, 1) := by decide +kernel
theorem dX9_round_8 : decode cX9_round 8 = .ok (.iconst 0, 1) := by decide +kernel
theorem dX9_round_9 : decode cX9_round 9 = .ok (.istore_n 2, 1) := by decide +kernel
theorem dX9_round_10 : decode cX9_round 10 = .ok (.iconst 0, 1) := by decide +kernel
theorem dX9_round_11 : decode cX9_round 11 = .ok (.istore_n 3, 1) := by decide +kernel
theorem dX9_round_12 : decode cX9_round 12 = .ok (.iload_n 3, 1) := by decide +kernel
theorem dX9_round_13 : decode cX9_round 13 = .ok (.aload_n 1, 1) := by decide +kernel
theorem dX9_round_14 : decode cX9_round 14 = .ok (.getfield 68, 3) := by decide +kernel
theorem dX9_round_17 : decode cX9_round 17 = .ok (.if_icmp .ge 67, 3) := by decide +kernel
theorem dX9_round_20 : decode cX9_round 20 = .ok (.iconst 1, 1) := by decide +kernel
theorem dX9_round_21 : decode cX9_round 21 = .ok (.istore 4, 2) := by decide +kernel
theorem dX9_round_23 : decode cX9_round 23 = .ok (.iload 4, 2) := by decide +kernel
theorem dX9_round_25 : decode cX9_round 25 = .ok (.aload_n 1, 1) := by decide +kernel
theorem dX9_round_26 : decode cX9_round 26 = .ok (.getfield 108, 3) := by decide +kernel
theorem dX9_round_29 : decode cX9_round 29 = .ok (.if_icmp .ge 49, 3) := by decide +kernel
theorem dX9_round_32 : decode cX9_round 32 = .ok (.iconst 0, 1) := by decide +kernel
theorem dX9_round_33 : decode cX9_round 33 = .ok (.istore 5, 2) := by decide +kernel
theorem dX9_round_35 : decode cX9_round 35 = .ok (.iload 5, 2) := by decide +kernel
theorem dX9_round_37 : decode cX9_round 37 = .ok (.iload 4, 2) := by decide +kernel
theorem dX9_round_39 : decode cX9_round 39 = .ok (.if_icmp .ge 33, 3) := by decide +kernel
theorem dX9_round_42 : decode cX9_round 42 = .ok (.iload_n 2, 1) := by decide +kernel
theorem dX9_round_43 : decode cX9_round 43 = .ok (.aload_n 1, 1) := by decide +kernel
theorem dX9_round_44 : decode cX9_round 44 = .ok (.iload 5, 2) := by decide +kernel
theorem dX9_round_46 : decode cX9_round 46 = .ok (.iload 4, 2) := by decide +kernel
theorem dX9_round_48 : decode cX9_round 48 = .ok (.iload_n 3, 1) := by decide +kernel
theorem dX9_round_49 : decode cX9_round 49 = .ok (.invokevirtual 270, 3) := by decide +kernel
theorem dX9_round_52 : decode cX9_round 52 = .ok (.aload_n 1, 1) := by decide +kernel
theorem dX9_round_53 : decode cX9_round 53 = .ok (.iload 4, 2) := by decide +kernel
theorem dX9_round_55 : decode cX9_round 55 = .ok (.iload 5, 2) := by decide +kernel
theorem dX9_round_57 : decode cX9_round 57 = .ok (.iload_n 3, 1) := by decide +kernel
theorem dX9_round_58 : decode cX9_round 58 = .ok (.invokevirtual 270, 3) := by decide +kernel
theorem dX9_round_61 : decode cX9_round 61 = .ok (.invokestatic 273, 3) := by decide +kernel
theorem dX9_round_64 : decode cX9_round 64 = .ok (.iadd, 1) := by decide +kernel
theorem dX9_round_65 : decode cX9_round 65 = .ok (.istore_n 2, 1) := by decide +kernel
theorem dX9_round_66 : decode cX9_round 66 = .ok (.iinc 5 1, 3) := by decide +kernel
theorem dX9_round_69 : decode cX9_round 69 = .ok (.goto (-34), 3) := by decide +kernel
theorem dX9_round_72 : decode cX9_round 72 = .ok (.iinc 4 1, 3) := by decide +kernel
theorem dX9_round_75 : decode cX9_round 75 = .ok (.goto (-52), 3) := by decide +kernel
theorem dX9_round_78 : decode cX9_round 78 = .ok (.iinc 3 1, 3) := by decide +kernel
theorem dX9_round_81 : decode cX9_round 81 = .ok (.goto (-69), 3) := by decide +kernel
theorem dX9_round_84 : decode cX9_round 84 = .ok (.iload_n 2, 1) := by decide +kernel
theorem dX9_round_85 : decode cX9_round 85 = .ok (.ireturn, 1) := by decide +kernel
theorem dX9_lender_0 : decode cX9_lender 0 = .ok (.aload_n 0, 1) := by decide +kernel
theorem dX9_lender_1 : decode cX9_lender 1 = .ok (.getfield 10, 3) := by decide +kernel
theorem dX9_lender_4 : decode cX9_lender 4 = .ok (.getfield 57, 3) := by decide +kernel
theorem dX9_lender_7 : decode cX9_lender 7 = .ok (.astore 5, 2) := by decide +kernel
theorem dX9_lender_9 : decode cX9_lender 9 = .ok (.aload 5, 2) := by decide +kernel
theorem dX9_lender_11 : decode cX9_lender 11 = .ok (.iload_n 1, 1) := by decide +kernel
theorem dX9_lender_12 : decode cX9_lender 12 = .ok (.invokevirtual 119, 3) := by decide +kernel
theorem dX9_lender_15 : decode cX9_lender 15 = .ok (.ifCond .eq 16, 3) := by decide +kernel
theorem dX9_lender_18 : decode cX9_lender 18 = .ok (.aload 5, 2) := by decide +kernel
theorem dX9_lender_20 : decode cX9_lender 20 = .ok (.iload_n 2, 1) := by decide +kernel
theorem dX9_lender_21 : decode cX9_lender 21 = .ok (.invokevirtual 82, 3) := by decide +kernel
theorem dX9_lender_24 : decode cX9_lender 24 = .ok (.ifCond .eq 7, 3) := by decide +kernel
theorem dX9_lender_27 : decode cX9_lender 27 = .ok (.iconst 1, 1) := by decide +kernel
theorem dX9_lender_28 : decode cX9_lender 28 = .ok (.goto 4, 3) := by decide +kernel
theorem dX9_lender_31 : decode cX9_lender 31 = .ok (.iconst 0, 1) := by decide +kernel
theorem dX9_lender_32 : decode cX9_lender 32 = .ok (.istore 6, 2) := by decide +kernel
theorem dX9_lender_34 : decode cX9_lender 34 = .ok (.iload 6, 2) := by decide +kernel
theorem dX9_lender_36 : decode cX9_lender 36 = .ok (.ifCond .eq 24, 3) := by decide +kernel
theorem dX9_lender_39 : decode cX9_lender 39 = .ok (.iload_n 3, 1) := by decide +kernel
theorem dX9_lender_40 : decode cX9_lender 40 = .ok (.iconst 1, 1) := by decide +kernel
theorem dX9_lender_41 : decode cX9_lender 41 = .ok (.bipush 99, 2) := by decide +kernel
theorem dX9_lender_43 : decode cX9_lender 43 = .ok (.invokestatic 100, 3) := by decide +kernel
theorem dX9_lender_46 : decode cX9_lender 46 = .ok (.ifCond .eq 14, 3) := by decide +kernel
theorem dX9_lender_49 : decode cX9_lender 49 = .ok (.iload 4, 2) := by decide +kernel
theorem dX9_lender_51 : decode cX9_lender 51 = .ok (.iconst 1, 1) := by decide +kernel
theorem dX9_lender_52 : decode cX9_lender 52 = .ok (.bipush 20, 2) := by decide +kernel
theorem dX9_lender_54 : decode cX9_lender 54 = .ok (.invokestatic 100, 3) := by decide +kernel
theorem dX9_lender_57 : decode cX9_lender 57 = .ok (.ifCond .ne 9, 3) := by decide +kernel
theorem dX9_lender_60 : decode cX9_lender 60 = .ok (.aload_n 0, 1) := by decide +kernel
theorem dX9_lender_61 : decode cX9_lender 61 = .ok (.iconst 1, 1) := by decide +kernel
theorem dX9_lender_62 : decode cX9_lender 62 = .ok (.invokevirtual 64, 3) := by decide +kernel
theorem dX9_lender_65 : decode cX9_lender 65 = .ok (.ireturn, 1) := by decide +kernel
theorem dX9_lender_66 : decode cX9_lender 66 = .ok (.aload 5, 2) := by decide +kernel
theorem dX9_lender_68 : decode cX9_lender 68 = .ok (.getfield 177, 3) := by decide +kernel
theorem dX9_lender_71 : decode cX9_lender 71 = .ok (.bipush 10, 2) := by decide +kernel
theorem dX9_lender_73 : decode cX9_lender 73 = .ok (.if_icmp .lt 9, 3) := by decide +kernel
theorem dX9_lender_76 : decode cX9_lender 76 = .ok (.aload_n 0, 1) := by decide +kernel
theorem dX9_lender_77 : decode cX9_lender 77 = .ok (.iconst 4, 1) := by decide +kernel
theorem dX9_lender_78 : decode cX9_lender 78 = .ok (.invokevirtual 64, 3) := by decide +kernel
theorem dX9_lender_81 : decode cX9_lender 81 = .ok (.ireturn, 1) := by decide +kernel
theorem dX9_lender_82 : decode cX9_lender 82 = .ok (.iconst (-1), 1) := by decide +kernel
theorem dX9_lender_83 : decode cX9_lender 83 = .ok (.istore 7, 2) := by decide +kernel
theorem dX9_lender_85 : decode cX9_lender 85 = .ok (.iconst 0, 1) := by decide +kernel
theorem dX9_lender_86 : decode cX9_lender 86 = .ok (.istore 8, 2) := by decide +kernel
theorem dX9_lender_88 : decode cX9_lender 88 = .ok (.iconst 0, 1) := by decide +kernel
theorem dX9_lender_89 : decode cX9_lender 89 = .ok (.istore 9, 2) := by decide +kernel
theorem dX9_lender_91 : decode cX9_lender 91 = .ok (.iload 9, 2) := by decide +kernel
theorem dX9_lender_93 : decode cX9_lender 93 = .ok (.aload 5, 2) := by decide +kernel
theorem dX9_lender_95 : decode cX9_lender 95 = .ok (.getfield 108, 3) := by decide +kernel
theorem dX9_lender_98 : decode cX9_lender 98 = .ok (.if_icmp .ge 98, 3) := by decide +kernel
theorem dX9_lender_101 : decode cX9_lender 101 = .ok (.iload 9, 2) := by decide +kernel
theorem dX9_lender_103 : decode cX9_lender 103 = .ok (.iload_n 1, 1) := by decide +kernel
theorem dX9_lender_104 : decode cX9_lender 104 = .ok (.if_icmp .eq 86, 3) := by decide +kernel
theorem dX9_lender_107 : decode cX9_lender 107 = .ok (.aload 5, 2) := by decide +kernel
theorem dX9_lender_109 : decode cX9_lender 109 = .ok (.iload 9, 2) := by decide +kernel
theorem dX9_lender_111 : decode cX9_lender 111 = .ok (.iload_n 1, 1) := by decide +kernel
theorem dX9_lender_112 : decode cX9_lender 112 = .ok (.iload_n 2, 1) := by decide +kernel
theorem dX9_lender_113 : decode cX9_lender 113 = .ok (.iload_n 3, 1) := by decide +kernel
theorem dX9_lender_114 : decode cX9_lender 114 = .ok (.invokevirtual 173, 3) := by decide +kernel
theorem dX9_lender_117 : decode cX9_lender 117 = .ok (.ifCond .eq 73, 3) := by decide +kernel
theorem dX9_lender_120 : decode cX9_lender 120 = .ok (.aload_n 0, 1) := by decide +kernel
theorem dX9_lender_121 : decode cX9_lender 121 = .ok (.getfield 22, 3) := by decide +kernel
theorem dX9_lender_124 : decode cX9_lender 124 = .ok (.aload 5, 2) := by decide +kernel
theorem dX9_lender_126 : decode cX9_lender 126 = .ok (.invokevirtual 241, 3) := by decide +kernel
theorem dX9_lender_129 : decode cX9_lender 129 = .ok (.aload_n 0, 1) := by decide +kernel
theorem dX9_lender_130 : decode cX9_lender 130 = .ok (.getfield 22, 3) := by decide +kernel
theorem dX9_lender_133 : decode cX9_lender 133 = .ok (.iload 9, 2) := by decide +kernel
theorem dX9_lender_135 : decode cX9_lender 135 = .ok (.iload_n 1, 1) := by decide +kernel
theorem dX9_lender_136 : decode cX9_lender 136 = .ok (.iload_n 2, 1) := by decide +kernel
theorem dX9_lender_137 : decode cX9_lender 137 = .ok (.iload_n 3, 1) := by decide +kernel
theorem dX9_lender_138 : decode cX9_lender 138 = .ok (.iload 4, 2) := by decide +kernel
theorem dX9_lender_140 : decode cX9_lender 140 = .ok (.invokevirtual 180, 3) := by decide +kernel
theorem dX9_lender_143 : decode cX9_lender 143 = .ok (.aload_n 0, 1) := by decide +kernel
theorem dX9_lender_144 : decode cX9_lender 144 = .ok (.getfield 22, 3) := by decide +kernel
theorem dX9_lender_147 : decode cX9_lender 147 = .ok (.bipush 60, 2) := by decide +kernel
theorem dX9_lender_149 : decode cX9_lender 149 = .ok (.aload_n 0, 1) := by decide +kernel
theorem dX9_lender_150 : decode cX9_lender 150 = .ok (.getfield 10, 3) := by decide +kernel
theorem dX9_lender_153 : decode cX9_lender 153 = .ok (.getfield 153, 3) := by decide +kernel
theorem dX9_lender_156 : decode cX9_lender 156 = .ok (.iconst 1, 1) := by decide +kernel
theorem dX9_lender_157 : decode cX9_lender 157 = .ok (.aaload, 1) := by decide +kernel
theorem dX9_lender_158 : decode cX9_lender 158 = .ok (.invokevirtual 234, 3) := by decide +kernel
theorem dX9_lender_161 : decode cX9_lender 161 = .ok (.aload_n 0, 1) := by decide +kernel
theorem dX9_lender_162 : decode cX9_lender 162 = .ok (.getfield 22, 3) := by decide +kernel
theorem dX9_lender_165 : decode cX9_lender 165 = .ok (.invokevirtual 278, 3) := by decide +kernel
theorem dX9_lender_168 : decode cX9_lender 168 = .ok (.istore 10, 2) := by decide +kernel
theorem dX9_lender_170 : decode cX9_lender 170 = .ok (.iload 7, 2) := by decide +kernel
theorem dX9_lender_172 : decode cX9_lender 172 = .ok (.ifCond .lt 10, 3) := by decide +kernel
theorem dX9_lender_175 : decode cX9_lender 175 = .ok (.iload 10, 2) := by decide +kernel
theorem dX9_lender_177 : decode cX9_lender 177 = .ok (.iload 8, 2) := by decide +kernel
theorem dX9_lender_179 : decode cX9_lender 179 = .ok (.if_icmp .ge 11, 3) := by decide +kernel
theorem dX9_lender_182 : decode cX9_lender 182 = .ok (.iload 9, 2) := by decide +kernel
theorem dX9_lender_184 : decode cX9_lender 184 = .ok (.istore 7, 2) := by decide +kernel
theorem dX9_lender_186 : decode cX9_lender 186 = .ok (.iload 10, 2) := by decide +kernel
theorem dX9_lender_188 : decode cX9_lender 188 = .ok (.istore 8, 2) := by decide +kernel
theorem dX9_lender_190 : decode cX9_lender 190 = .ok (.iinc 9 1, 3) := by decide +kernel
theorem dX9_lender_193 : decode cX9_lender 193 = .ok (.goto (-102), 3) := by decide +kernel
theorem dX9_lender_196 : decode cX9_lender 196 = .ok (.iload 7, 2) := by decide +kernel
theorem dX9_lender_198 : decode cX9_lender 198 = .ok (.ifCond .ge 11, 3) := by decide +kernel
theorem dX9_lender_201 : decode cX9_lender 201 = .ok (.aload_n 0, 1) := by decide +kernel
theorem dX9_lender_202 : decode cX9_lender 202 = .ok (.iconst 2, 1) := by decide +kernel
theorem dX9_lender_203 : decode cX9_lender 203 = .ok (.invokevirtual 64, 3) := by decide +kernel
theorem dX9_lender_206 : decode cX9_lender 206 = .ok (.goto 5, 3) := by decide +kernel
theorem dX9_lender_209 : decode cX9_lender 209 = .ok (.iload 7, 2) := by decide +kernel
theorem dX9_lender_211 : decode cX9_lender 211 = .ok (.ireturn, 1) := by decide +kernel
theorem dX9_odds_0 : decode cX9_odds 0 = .ok (.aload_n 0, 1) := by decide +kernel
theorem dX9_odds_1 : decode cX9_odds 1 = .ok (.iload_n 1, 1) := by decide +kernel
theorem dX9_odds_2 : decode cX9_odds 2 = .ok (.invokevirtual 215, 3) := by decide +kernel
theorem dX9_odds_5 : decode cX9_odds 5 = .ok (.ifCond .eq 19, 3) := by decide +kernel
theorem dX9_odds_8 : decode cX9_odds 8 = .ok (.iload_n 2, 1) := by decide +kernel
theorem dX9_odds_9 : decode cX9_odds 9 = .ok (.invokestatic 245, 3) := by decide +kernel
theorem dX9_odds_12 : decode cX9_odds 12 = .ok (.ifCond .eq 12, 3) := by decide +kernel
theorem dX9_odds_15 : decode cX9_odds 15 = .ok (.iload_n 3, 1) := by decide +kernel
theorem dX9_odds_16 : decode cX9_odds 16 = .ok (.iconst 0, 1) := by decide +kernel
theorem dX9_odds_17 : decode cX9_odds 17 = .ok (.iconst 1, 1) := by decide +kernel
theorem dX9_odds_18 : decode cX9_odds 18 = .ok (.invokestatic 100, 3) := by decide +kernel
theorem dX9_odds_21 : decode cX9_odds 21 = .ok (.ifCond .ne 9, 3) := by decide +kernel
theorem dX9_odds_24 : decode cX9_odds 24 = .ok (.aload_n 0, 1) := by decide +kernel
theorem dX9_odds_25 : decode cX9_odds 25 = .ok (.iconst 1, 1) := by decide +kernel
theorem dX9_odds_26 : decode cX9_odds 26 = .ok (.invokevirtual 64, 3) := by decide +kernel
theorem dX9_odds_29 : decode cX9_odds 29 = .ok (.ireturn, 1) := by decide +kernel
theorem dX9_odds_30 : decode cX9_odds 30 = .ok (.aload_n 0, 1) := by decide +kernel
theorem dX9_odds_31 : decode cX9_odds 31 = .ok (.iload_n 1, 1) := by decide +kernel
theorem dX9_odds_32 : decode cX9_odds 32 = .ok (.iload_n 2, 1) := by decide +kernel
theorem dX9_odds_33 : decode cX9_odds 33 = .ok (.invokevirtual 255, 3) := by decide +kernel
theorem dX9_odds_36 : decode cX9_odds 36 = .ok (.invokestatic 282, 3) := by decide +kernel
theorem dX9_odds_39 : decode cX9_odds 39 = .ok (.istore 4, 2) := by decide +kernel
theorem dX9_odds_41 : decode cX9_odds 41 = .ok (.iload 4, 2) := by decide +kernel
theorem dX9_odds_43 : decode cX9_odds 43 = .ok (.bipush 10, 2) := by decide +kernel
theorem dX9_odds_45 : decode cX9_odds 45 = .ok (.invokestatic 287, 3) := by decide +kernel
theorem dX9_odds_48 : decode cX9_odds 48 = .ok (.istore 5, 2) := by decide +kernel
theorem dX9_odds_50 : decode cX9_odds 50 = .ok (.iload_n 3, 1) := by decide +kernel
theorem dX9_odds_51 : decode cX9_odds 51 = .ok (.ifCond .ne 11, 3) := by decide +kernel
theorem dX9_odds_54 : decode cX9_odds 54 = .ok (.iload 4, 2) := by decide +kernel
theorem dX9_odds_56 : decode cX9_odds 56 = .ok (.iload 5, 2) := by decide +kernel
theorem dX9_odds_58 : decode cX9_odds 58 = .ok (.idiv, 1) := by decide +kernel
theorem dX9_odds_59 : decode cX9_odds 59 = .ok (.goto 8, 3) := by decide +kernel
theorem dX9_odds_62 : decode cX9_odds 62 = .ok (.bipush 10, 2) := by decide +kernel
theorem dX9_odds_64 : decode cX9_odds 64 = .ok (.iload 5, 2) := by decide +kernel
theorem dX9_odds_66 : decode cX9_odds 66 = .ok (.idiv, 1) := by decide +kernel
theorem dX9_odds_67 : decode cX9_odds 67 = .ok (.ireturn, 1) := by decide +kernel
theorem dX9_seed_0 : decode cX9_seed 0 = .ok (.aload_n 0, 1) := by decide +kernel
theorem dX9_seed_1 : decode cX9_seed 1 = .ok (.getfield 10, 3) := by decide +kernel
theorem dX9_seed_4 : decode cX9_seed 4 = .ok (.getfield 290, 3) := by decide +kernel
theorem dX9_seed_7 : decode cX9_seed 7 = .ok (.istore_n 2, 1) := by decide +kernel
theorem dX9_seed_8 : decode cX9_seed 8 = .ok (.aload_n 0, 1) := by decide +kernel
theorem dX9_seed_9 : decode cX9_seed 9 = .ok (.getfield 10, 3) := by decide +kernel
theorem dX9_seed_12 : decode cX9_seed 12 = .ok (.iload_n 1, 1) := by decide +kernel
theorem dX9_seed_13 : decode cX9_seed 13 = .ok (.putfield 290, 3) := by decide +kernel
theorem dX9_seed_16 : decode cX9_seed 16 = .ok (.iload_n 2, 1) := by decide +kernel
theorem dX9_seed_17 : decode cX9_seed 17 = .ok (.ireturn, 1) := by decide +kernel
theorem dX9_voice_0 : decode cX9_voice 0 = .ok (.aload_n 0, 1) := by decide +kernel
theorem dX9_voice_1 : decode cX9_voice 1 = .ok (.getfield 10, 3) := by decide +kernel
theorem dX9_voice_4 : decode cX9_voice 4 = .ok (.getfield 57, 3) := by decide +kernel
theorem dX9_voice_7 : decode cX9_voice 7 = .ok (.iload_n 1, 1) := by decide +kernel
theorem dX9_voice_8 : decode cX9_voice 8 = .ok (.invokevirtual 82, 3) := by decide +kernel
theorem dX9_voice_11 : decode cX9_voice 11 = .ok (.ifCond .eq 12, 3) := by decide +kernel
theorem dX9_voice_14 : decode cX9_voice 14 = .ok (.iload_n 2, 1) := by decide +kernel
theorem dX9_voice_15 : decode cX9_voice 15 = .ok (.iconst 0, 1) := by decide +kernel
theorem dX9_voice_16 : decode cX9_voice 16 = .ok (.iconst 3, 1) := by decide +kernel
theorem dX9_voice_17 : decode cX9_voice 17 = .ok (.invokestatic 100, 3) := by decide +kernel
theorem dX9_voice_20 : decode cX9_voice 20 = .ok (.ifCond .ne 9, 3) := by decide +kernel
theorem dX9_voice_23 : decode cX9_voice 23 = .ok (.aload_n 0, 1) := by decide +kernel
theorem dX9_voice_24 : decode cX9_voice 24 = .ok (.iconst 1, 1) := by decide +kernel
theorem dX9_voice_25 : decode cX9_voice 25 = .ok (.invokevirtual 64, 3) := by decide +kernel
theorem dX9_voice_28 : decode cX9_voice 28 = .ok (.ireturn, 1) := by decide +kernel
theorem dX9_voice_29 : decode cX9_voice 29 = .ok (.aload_n 0, 1) := by decide +kernel
theorem dX9_voice_30 : decode cX9_voice 30 = .ok (.getfield 36, 3) := by decide +kernel
theorem dX9_voice_33 : decode cX9_voice 33 = .ok (.aload_n 0, 1) := by decide +kernel
theorem dX9_voice_34 : decode cX9_voice 34 = .ok (.getfield 10, 3) := by decide +kernel
theorem dX9_voice_37 : decode cX9_voice 37 = .ok (.getfield 57, 3) := by decide +kernel
theorem dX9_voice_40 : decode cX9_voice 40 = .ok (.getfield 72, 3) := by decide +kernel
theorem dX9_voice_43 : decode cX9_voice 43 = .ok (.iload_n 1, 1) := by decide +kernel
theorem dX9_voice_44 : decode cX9_voice 44 = .ok (.aaload, 1) := by decide +kernel
theorem dX9_voice_45 : decode cX9_voice 45 = .ok (.iload_n 1, 1) := by decide +kernel
theorem dX9_voice_46 : decode cX9_voice 46 = .ok (.iload_n 2, 1) := by decide +kernel
theorem dX9_voice_47 : decode cX9_voice 47 = .ok (.iload_n 3, 1) := by decide +kernel
theorem dX9_voice_48 : decode cX9_voice 48 = .ok (.invokevirtual 293, 3) := by decide +kernel
theorem dX9_voice_51 : decode cX9_voice 51 = .ok (.ireturn, 1) := by decide +kernel
theorem dX9_trace_0 : decode cX9_trace 0 = .ok (.iload_n 1, 1) := by decide +kernel
theorem dX9_trace_1 : decode cX9_trace 1 = .ok (.iconst 0, 1) := by decide +kernel
theorem dX9_trace_2 : decode cX9_trace 2 = .ok (.aload_n 0, 1) := by decide +kernel
theorem dX9_trace_3 : decode cX9_trace 3 = .ok (.getfield 36, 3) := by decide +kernel
theorem dX9_trace_6 : decode cX9_trace 6 = .ok (.getfield 297, 3) := by decide +kernel
theorem dX9_trace_9 : decode cX9_trace 9 = .ok (.iconst 1, 1) := by decide +kernel
theorem dX9_trace_10 : decode cX9_trace 10 = .ok (.isub, 1) := by decide +kernel
theorem dX9_trace_11 : decode cX9_trace 11 = .ok (.invokestatic 100, 3) := by decide +kernel
theorem dX9_trace_14 : decode cX9_trace 14 = .ok (.ifCond .ne 9, 3) := by decide +kernel
theorem dX9_trace_17 : decode cX9_trace 17 = .ok (.aload_n 0, 1) := by decide +kernel
theorem dX9_trace_18 : decode cX9_trace 18 = .ok (.iconst 2, 1) := by decide +kernel
theorem dX9_trace_19 : decode cX9_trace 19 = .ok (.invokevirtual 64, 3) := by decide +kernel
theorem dX9_trace_22 : decode cX9_trace 22 = .ok (.ireturn, 1) := by decide +kernel
theorem dX9_trace_23 : decode cX9_trace 23 = .ok (.aload_n 0, 1) := by decide +kernel
theorem dX9_trace_24 : decode cX9_trace 24 = .ok (.getfield 36, 3) := by decide +kernel
theorem dX9_trace_27 : decode cX9_trace 27 = .ok (.getfield 300, 3) := by decide +kernel
theorem dX9_trace_30 : decode cX9_trace 30 = .ok (.iload_n 1, 1) := by decide +kernel
theorem dX9_trace_31 : decode cX9_trace 31 = .ok (.iaload, 1) := by decide +kernel
theorem dX9_trace_32 : decode cX9_trace 32 = .ok (.ireturn, 1) := by decide +kernel
theorem dX9_sheet_0 : decode cX9_sheet 0 = .ok (.iload_n 2, 1) := by decide +kernel
theorem dX9_sheet_1 : decode cX9_sheet 1 = .ok (.ifCond .eq 21, 3) := by decide +kernel
theorem dX9_sheet_4 : decode cX9_sheet 4 = .ok (.iload_n 2, 1) := by decide +kernel
theorem dX9_sheet_5 : decode cX9_sheet 5 = .ok (.bipush 8, 2) := by decide +kernel
theorem dX9_sheet_7 : decode cX9_sheet 7 = .ok (.if_icmp .eq 15, 3) := by decide +kernel
theorem dX9_sheet_10 : decode cX9_sheet 10 = .ok (.iload_n 2, 1) := by decide +kernel
theorem dX9_sheet_11 : decode cX9_sheet 11 = .ok (.bipush 16, 2) := by decide +kernel
theorem dX9_sheet_13 : decode cX9_sheet 13 = .ok (.if_icmp .eq 9, 3) := by decide +kernel
theorem dX9_sheet_16 : decode cX9_sheet 16 = .ok (.iload_n 2, 1) := by decide +kernel
theorem dX9_sheet_17 : decode cX9_sheet 17 = .ok (.bipush 32, 2) := by decide +kernel
theorem dX9_sheet_19 : decode cX9_sheet 19 = .ok (.if_icmp .ne 7, 3) := by decide +kernel
theorem dX9_sheet_22 : decode cX9_sheet 22 = .ok (.iconst 1, 1) := by decide +kernel
theorem dX9_sheet_23 : decode cX9_sheet 23 = .ok (.goto 4, 3) := by decide +kernel
theorem dX9_sheet_26 : decode cX9_sheet 26 = .ok (.iconst 0, 1) := by decide +kernel
theorem dX9_sheet_27 : decode cX9_sheet 27 = .ok (.istore 4, 2) := by decide +kernel
theorem dX9_sheet_29 : decode cX9_sheet 29 = .ok (.iload_n 1, 1) := by decide +kernel
theorem dX9_sheet_30 : decode cX9_sheet 30 = .ok (.invokestatic 258, 3) := by decide +kernel
theorem dX9_sheet_33 : decode cX9_sheet 33 = .ok (.ifCond .eq 8, 3) := by decide +kernel
theorem dX9_sheet_36 : decode cX9_sheet 36 = .ok (.iload 4, 2) := by decide +kernel
theorem dX9_sheet_38 : decode cX9_sheet 38 = .ok (.ifCond .ne 9, 3) := by decide +kernel
theorem dX9_sheet_41 : decode cX9_sheet 41 = .ok (.aload_n 0, 1) := by decide +kernel
theorem dX9_sheet_42 : decode cX9_sheet 42 = .ok (.iconst 1, 1) := by decide +kernel
theorem dX9_sheet_43 : decode cX9_sheet 43 = .ok (.invokevirtual 64, 3) := by decide +kernel
theorem dX9_sheet_46 : decode cX9_sheet 46 = .ok (.ireturn, 1) := by decide +kernel
theorem dX9_sheet_47 : decode cX9_sheet 47 = .ok (.iload_n 2, 1) := by decide +kernel
theorem dX9_sheet_48 : decode cX9_sheet 48 = .ok (.ifCond .eq 13, 3) := by decide +kernel
theorem dX9_sheet_51 : decode cX9_sheet 51 = .ok (.iload_n 3, 1) := by decide +kernel
theorem dX9_sheet_52 : decode cX9_sheet 52 = .ok (.ifCond .ge 9, 3) := by decide +kernel
theorem dX9_sheet_55 : decode cX9_sheet 55 = .ok (.aload_n 0, 1) := by decide +kernel
theorem dX9_sheet_56 : decode cX9_sheet 56 = .ok (.iconst 3, 1) := by decide +kernel
theorem dX9_sheet_57 : decode cX9_sheet 57 = .ok (.invokevirtual 64, 3) := by decide +kernel
theorem dX9_sheet_60 : decode cX9_sheet 60 = .ok (.ireturn, 1) := by decide +kernel
theorem dX9_sheet_61 : decode cX9_sheet 61 = .ok (.iload_n 2, 1) := by decide +kernel
theorem dX9_sheet_62 : decode cX9_sheet 62 = .ok (.ifCond .eq 15, 3) := by decide +kernel
theorem dX9_sheet_65 : decode cX9_sheet 65 = .ok (.iload_n 3, 1) := by decide +kernel
theorem dX9_sheet_66 : decode cX9_sheet 66 = .ok (.bipush 40, 2) := by decide +kernel
theorem dX9_sheet_68 : decode cX9_sheet 68 = .ok (.if_icmp .le 9, 3) := by decide +kernel
theorem dX9_sheet_71 : decode cX9_sheet 71 = .ok (.aload_n 0, 1) := by decide +kernel
theorem dX9_sheet_72 : decode cX9_sheet 72 = .ok (.iconst 1, 1) := by decide +kernel
theorem dX9_sheet_73 : decode cX9_sheet 73 = .ok (.invokevirtual 64, 3) := by decide +kernel
theorem dX9_sheet_76 : decode cX9_sheet 76 = .ok (.ireturn, 1) := by decide +kernel
theorem dX9_sheet_77 : decode cX9_sheet 77 = .ok (.aload_n 0, 1) := by decide +kernel
theorem dX9_sheet_78 : decode cX9_sheet 78 = .ok (.getfield 42, 3) := by decide +kernel
theorem dX9_sheet_81 : decode cX9_sheet 81 = .ok (.iload_n 1, 1) := by decide +kernel
theorem dX9_sheet_82 : decode cX9_sheet 82 = .ok (.aaload, 1) := by decide +kernel
theorem dX9_sheet_83 : decode cX9_sheet 83 = .ok (.iload_n 2, 1) := by decide +kernel
theorem dX9_sheet_84 : decode cX9_sheet 84 = .ok (.iload_n 2, 1) := by decide +kernel
theorem dX9_sheet_85 : decode cX9_sheet 85 = .ok (.ifCond .ne 7, 3) := by decide +kernel
theorem dX9_sheet_88 : decode cX9_sheet 88 = .ok (.iconst 0, 1) := by decide +kernel
theorem dX9_sheet_89 : decode cX9_sheet 89 = .ok (.goto 4, 3) := by decide +kernel
theorem dX9_sheet_92 : decode cX9_sheet 92 = .ok (.iload_n 3, 1) := by decide +kernel
theorem dX9_sheet_93 : decode cX9_sheet 93 = .ok (.invokevirtual 303, 3) := by decide +kernel
theorem dX9_sheet_96 : decode cX9_sheet 96 = .ok (.iconst 1, 1) := by decide +kernel
theorem dX9_sheet_97 : decode cX9_sheet 97 = .ok (.ireturn, 1) := by decide +kernel
theorem dX9_put_0 : decode cX9_put 0 = .ok (.iload_n 1, 1) := by decide +kernel
theorem dX9_put_1 : decode cX9_put 1 = .ok (.invokestatic 258, 3) := by decide +kernel
theorem dX9_put_4 : decode cX9_put 4 = .ok (.ifCond .ne 9, 3) := by decide +kernel
theorem dX9_put_7 : decode cX9_put 7 = .ok (.aload_n 0, 1) := by decide +kernel
theorem dX9_put_8 : decode cX9_put 8 = .ok (.iconst 1, 1) := by decide +kernel
theorem dX9_put_9 : decode cX9_put 9 = .ok (.invokevirtual 64, 3) := by decide +kernel
theorem dX9_put_12 : decode cX9_put 12 = .ok (.ireturn, 1) := by decide +kernel
theorem dX9_put_13 : decode cX9_put 13 = .ok (.aload_n 0, 1) := by decide +kernel
theorem dX9_put_14 : decode cX9_put 14 = .ok (.getfield 42, 3) := by decide +kernel
theorem dX9_put_17 : decode cX9_put 17 = .ok (.iload_n 1, 1) := by decide +kernel
theorem dX9_put_18 : decode cX9_put 18 = .ok (.aaload, 1) := by decide +kernel
theorem dX9_put_19 : decode cX9_put 19 = .ok (.invokevirtual 261, 3) := by decide +kernel
theorem dX9_put_22 : decode cX9_put 22 = .ok (.ifCond .eq 9, 3) := by decide +kernel
theorem dX9_put_25 : decode cX9_put 25 = .ok (.aload_n 0, 1) := by decide +kernel
theorem dX9_put_26 : decode cX9_put 26 = .ok (.iconst 2, 1) := by decide +kernel
theorem dX9_put_27 : decode cX9_put 27 = .ok (.invokevirtual 64, 3) := by decide +kernel
theorem dX9_put_30 : decode cX9_put 30 = .ok (.ireturn, 1) := by decide +kernel
theorem dX9_put_31 : decode cX9_put 31 = .ok (.iload_n 2, 1) := by decide +kernel
theorem dX9_put_32 : decode cX9_put 32 = .ok (.iconst 0, 1) := by decide +kernel
theorem dX9_put_33 : decode cX9_put 33 = .ok (.aload_n 0, 1) := by decide +kernel
theorem dX9_put_34 : decode cX9_put 34 = .ok (.getfield 42, 3) := by decide +kernel
theorem dX9_put_37 : decode cX9_put 37 = .ok (.iload_n 1, 1) := by decide +kernel
theorem dX9_put_38 : decode cX9_put 38 = .ok (.aaload, 1) := by decide +kernel
theorem dX9_put_39 : decode cX9_put 39 = .ok (.getfield 265, 3) := by decide +kernel
theorem dX9_put_42 : decode cX9_put 42 = .ok (.iconst 1, 1) := by decide +kernel
theorem dX9_put_43 : decode cX9_put 43 = .ok (.isub, 1) := by decide +kernel
theorem dX9_put_44 : decode cX9_put 44 = .ok (.invokestatic 100, 3) := by decide +kernel
theorem dX9_put_47 : decode cX9_put 47 = .ok (.ifCond .ne 9, 3) := by decide +kernel
theorem dX9_put_50 : decode cX9_put 50 = .ok (.aload_n 0, 1) := by decide +kernel
theorem dX9_put_51 : decode cX9_put 51 = .ok (.iconst 1, 1) := by decide +kernel
theorem dX9_put_52 : decode cX9_put 52 = .ok (.invokevirtual 64, 3) := by decide +kernel
theorem dX9_put_55 : decode cX9_put 55 = .ok (.ireturn, 1) := by decide +kernel
theorem dX9_put_56 : decode cX9_put 56 = .ok (.aload_n 0, 1) := by decide +kernel
theorem dX9_put_57 : decode cX9_put 57 = .ok (.getfield 42, 3) := by decide +kernel
theorem dX9_put_60 : decode cX9_put 60 = .ok (.iload_n 1, 1) := by decide +kernel
theorem dX9_put_61 : decode cX9_put 61 = .ok (.aaload, 1) := by decide +kernel
theorem dX9_put_62 : decode cX9_put 62 = .ok (.iload_n 2, 1) := by decide +kernel
theorem dX9_put_63 : decode cX9_put 63 = .ok (.iload_n 3, 1) := by decide +kernel
theorem dX9_put_64 : decode cX9_put 64 = .ok (.invokevirtual 306, 3) := by decide +kernel
theorem dX9_put_67 : decode cX9_put 67 = .ok (.iconst 1, 1) := by decide +kernel
theorem dX9_put_68 : decode cX9_put 68 = .ok (.ireturn, 1) := by decide +kernel
theorem dX9_move_0 : decode cX9_move 0 = .ok (.iload_n 1, 1) := by decide +kernel
theorem dX9_move_1 : decode cX9_move 1 = .ok (.invokestatic 258, 3) := by decide +kernel
theorem dX9_move_4 : decode cX9_move 4 = .ok (.ifCond .eq 10, 3) := by decide +kernel
theorem dX9_move_7 : decode cX9_move 7 = .ok (.iload_n 3, 1) := by decide +kernel
theorem dX9_move_8 : decode cX9_move 8 = .ok (.invokestatic 258, 3) := by decide +kernel
theorem dX9_move_11 : decode cX9_move 11 = .ok (.ifCond .ne 9, 3) := by decide +kernel
theorem dX9_move_14 : decode cX9_move 14 = .ok (.aload_n 0, 1) := by decide +kernel
theorem dX9_move_15 : decode cX9_move 15 = .ok (.iconst 1, 1) := by decide +kernel
theorem dX9_move_16 : decode cX9_move 16 = .ok (.invokevirtual 64, 3) := by decide +kernel
theorem dX9_move_19 : decode cX9_move 19 = .ok (.ireturn, 1) := by decide +kernel
theorem dX9_move_20 : decode cX9_move 20 = .ok (.aload_n 0, 1) := by decide +kernel
theorem dX9_move_21 : decode cX9_move 21 = .ok (.getfield 42, 3) := by decide +kernel
theorem dX9_move_24 : decode cX9_move 24 = .ok (.iload_n 1, 1) := by decide +kernel
theorem dX9_move_25 : decode cX9_move 25 = .ok (.aaload, 1) := by decide +kernel
theorem dX9_move_26 : decode cX9_move 26 = .ok (.astore 6, 2) := by decide +kernel
theorem dX9_move_28 : decode cX9_move 28 = .ok (.aload_n 0, 1) := by decide +kernel
theorem dX9_move_29 : decode cX9_move 29 = .ok (.getfield 42, 3) := by decide +kernel
theorem dX9_move_32 : decode cX9_move 32 = .ok (.iload_n 3, 1) := by decide +kernel
theorem dX9_move_33 : decode cX9_move 33 = .ok (.aaload, 1) := by decide +kernel
theorem dX9_move_34 : decode cX9_move 34 = .ok (.astore 7, 2) := by decide +kernel
theorem dX9_move_36 : decode cX9_move 36 = .ok (.aload 6, 2) := by decide +kernel
theorem dX9_move_38 : decode cX9_move 38 = .ok (.invokevirtual 261, 3) := by decide +kernel
theorem dX9_move_41 : decode cX9_move 41 = .ok (.ifCond .ne 11, 3) := by decide +kernel
theorem dX9_move_44 : decode cX9_move 44 = .ok (.aload 7, 2) := by decide +kernel
theorem dX9_move_46 : decode cX9_move 46 = .ok (.invokevirtual 261, 3) := by decide +kernel
theorem dX9_move_49 : decode cX9_move 49 = .ok (.ifCond .eq 9, 3) := by decide +kernel
theorem dX9_move_52 : decode cX9_move 52 = .ok (.aload_n 0, 1) := by decide +kernel
theorem dX9_move_53 : decode cX9_move 53 = .ok (.iconst 2, 1) := by decide +kernel
theorem dX9_move_54 : decode cX9_move 54 = .ok (.invokevirtual 64, 3) := by decide +kernel
theorem dX9_move_57 : decode cX9_move 57 = .ok (.ireturn, 1) := by decide +kernel
theorem dX9_move_58 : decode cX9_move 58 = .ok (.aload 6, 2) := by decide +kernel
theorem dX9_move_60 : decode cX9_move 60 = .ok (.getfield 309, 3) := by decide +kernel
theorem dX9_move_63 : decode cX9_move 63 = .ok (.aload 7, 2) := by decide +kernel
theorem dX9_move_65 : decode cX9_move 65 = .ok (.getfield 309, 3) := by decide +kernel
theorem dX9_move_68 : decode cX9_move 68 = .ok (.if_icmp .eq 9, 3) := by decide +kernel
theorem dX9_move_71 : decode cX9_move 71 = .ok (.aload_n 0, 1) := by decide +kernel
theorem dX9_move_72 : decode cX9_move 72 = .ok (.iconst 5, 1) := by decide +kernel
theorem dX9_move_73 : decode cX9_move 73 = .ok (.invokevirtual 64, 3) := by decide +kernel
theorem dX9_move_76 : decode cX9_move 76 = .ok (.ireturn, 1) := by decide +kernel
theorem dX9_move_77 : decode cX9_move 77 = .ok (.aload 6, 2) := by decide +kernel
theorem dX9_move_79 : decode cX9_move 79 = .ok (.iload_n 2, 1) := by decide +kernel
theorem dX9_move_80 : decode cX9_move 80 = .ok (.iload 5, 2) := by decide +kernel
theorem dX9_move_82 : decode cX9_move 82 = .ok (.invokevirtual 312, 3) := by decide +kernel
theorem dX9_move_85 : decode cX9_move 85 = .ok (.ifCond .eq 15, 3) := by decide +kernel
theorem dX9_move_88 : decode cX9_move 88 = .ok (.aload 7, 2) := by decide +kernel
theorem dX9_move_90 : decode cX9_move 90 = .ok (.iload 4, 2) := by decide +kernel
theorem dX9_move_92 : decode cX9_move 92 = .ok (.iload 5, 2) := by decide +kernel
theorem dX9_move_94 : decode cX9_move 94 = .ok (.invokevirtual 312, 3) := by decide +kernel
theorem dX9_move_97 : decode cX9_move 97 = .ok (.ifCond .ne 9, 3) := by decide +kernel
theorem dX9_move_100 : decode cX9_move 100 = .ok (.aload_n 0, 1) := by decide +kernel
theorem dX9_move_101 : decode cX9_move 101 = .ok (.iconst 1, 1) := by decide +kernel
theorem dX9_move_102 : decode cX9_move 102 = .ok (.invokevirtual 64, 3) := by decide +kernel
theorem dX9_move_105 : decode cX9_move 105 = .ok (.ireturn, 1) := by decide +kernel
theorem dX9_move_106 : decode cX9_move 106 = .ok (.aload 6, 2) := by decide +kernel
theorem dX9_move_108 : decode cX9_move 108 = .ok (.getfield 315, 3) := by decide +kernel
theorem dX9_move_111 : decode cX9_move 111 = .ok (.iload_n 2, 1) := by decide +kernel
theorem dX9_move_112 : decode cX9_move 112 = .ok (.aload 7, 2) := by decide +kernel
theorem dX9_move_114 : decode cX9_move 114 = .ok (.getfield 315, 3) := by decide +kernel
theorem dX9_move_117 : decode cX9_move 117 = .ok (.iload 4, 2) := by decide +kernel
theorem dX9_move_119 : decode cX9_move 119 = .ok (.iload 5, 2) := by decide +kernel
theorem dX9_move_121 : decode cX9_move 121 = .ok (.invokestatic 318, 3) := by decide +kernel
theorem dX9_move_124 : decode cX9_move 124 = .ok (.iload 5, 2) := by decide +kernel
theorem dX9_move_126 : decode cX9_move 126 = .ok (.ireturn, 1) := by decide +kernel
theorem dX9_hedges_0 : decode cX9_hedges 0 = .ok (.iload_n 1, 1) := by decide +kernel
theorem dX9_hedges_1 : decode cX9_hedges 1 = .ok (.invokestatic 258, 3) := by decide +kernel
theorem dX9_hedges_4 : decode cX9_hedges 4 = .ok (.ifCond .ne 9, 3) := by decide +kernel
theorem dX9_hedges_7 : decode cX9_hedges 7 = .ok (.aload_n 0, 1) := by decide +kernel
theorem dX9_hedges_8 : decode cX9_hedges 8 = .ok (.iconst 1, 1) := by decide +kernel
theorem dX9_hedges_9 : decode cX9_hedges 9 = .ok (.invokevirtual 64, 3) := by decide +kernel
theorem dX9_hedges_12 : decode cX9_hedges 12 = .ok (.ireturn, 1) := by decide +kernel
theorem dX9_hedges_13 : decode cX9_hedges 13 = .ok (.aload_n 0, 1) := by decide +kernel
theorem dX9_hedges_14 : decode cX9_hedges 14 = .ok (.getfield 42, 3) := by decide +kernel
theorem dX9_hedges_17 : decode cX9_hedges 17 = .ok (.iload_n 1, 1) := by decide +kernel
theorem dX9_hedges_18 : decode cX9_hedges 18 = .ok (.aaload, 1) := by decide +kernel
theorem dX9_hedges_19 : decode cX9_hedges 19 = .ok (.astore_n 2, 1) := by decide +kernel
theorem dX9_hedges_20 : decode cX9_hedges 20 = .ok (.aload_n 2, 1) := by decide +kernel
theorem dX9_hedges_21 : decode cX9_hedges 21 = .ok (.invokevirtual 261, 3) := by decide +kernel
theorem dX9_hedges_24 : decode cX9_hedges 24 = .ok (.ifCond .eq 9, 3) := by decide +kernel
theorem dX9_hedges_27 : decode cX9_hedges 27 = .ok (.aload_n 0, 1) := by decide +kernel
theorem dX9_hedges_28 : decode cX9_hedges 28 = .ok (.iconst 2, 1) := by decide +kernel
theorem dX9_hedges_29 : decode cX9_hedges 29 = .ok (.invokevirtual 64, 3) := by decide +kernel
theorem dX9_hedges_32 : decode cX9_hedges 32 = .ok (.ireturn, 1) := by decide +kernel
theorem dX9_hedges_33 : decode cX9_hedges 33 = .ok (.aload_n 2, 1) := by decide +kernel
theorem dX9_hedges_34 : decode cX9_hedges 34 = .ok (.getfield 265, 3) := by decide +kernel
theorem dX9_hedges_37 : decode cX9_hedges 37 = .ok (.aload_n 0, 1) := by decide +kernel
theorem dX9_hedges_38 : decode cX9_hedges 38 = .ok (.getfield 10, 3) := by decide +kernel
theorem dX9_hedges_41 : decode cX9_hedges 41 = .ok (.getfield 57, 3) := by decide +kernel
theorem dX9_hedges_44 : decode cX9_hedges 44 = .ok (.getfield 68, 3) := by decide +kernel
theorem dX9_hedges_47 : decode cX9_hedges 47 = .ok (.invokestatic 273, 3) := by decide +kernel
theorem dX9_hedges_50 : decode cX9_hedges 50 = .ok (.istore_n 3, 1) := by decide +kernel
theorem dX9_hedges_51 : decode cX9_hedges 51 = .ok (.iconst 0, 1) := by decide +kernel
theorem dX9_hedges_52 : decode cX9_hedges 52 = .ok (.istore 4, 2) := by decide +kernel
theorem dX9_hedges_54 : decode cX9_hedges 54 = .ok (.iload 4, 2) := by decide +kernel
theorem dX9_hedges_56 : decode cX9_hedges 56 = .ok (.iload_n 3, 1) := by decide +kernel
theorem dX9_hedges_57 : decode cX9_hedges 57 = .ok (.if_icmp .ge 51, 3) := by decide +kernel
theorem dX9_hedges_60 : decode cX9_hedges 60 = .ok (.aload_n 2, 1) := by decide +kernel
theorem dX9_hedges_61 : decode cX9_hedges 61 = .ok (.getfield 315, 3) := by decide +kernel
theorem dX9_hedges_64 : decode cX9_hedges 64 = .ok (.iload 4, 2) := by decide +kernel
theorem dX9_hedges_66 : decode cX9_hedges 66 = .ok (.iaload, 1) := by decide +kernel
theorem dX9_hedges_67 : decode cX9_hedges 67 = .ok (.iconst 0, 1) := by decide +kernel
theorem dX9_hedges_68 : decode cX9_hedges 68 = .ok (.bipush 9, 2) := by decide +kernel
theorem dX9_hedges_70 : decode cX9_hedges 70 = .ok (.invokestatic 100, 3) := by decide +kernel
theorem dX9_hedges_73 : decode cX9_hedges 73 = .ok (.ifCond .ne 6, 3) := by decide +kernel
theorem dX9_hedges_76 : decode cX9_hedges 76 = .ok (.iload 4, 2) := by decide +kernel
theorem dX9_hedges_78 : decode cX9_hedges 78 = .ok (.ireturn, 1) := by decide +kernel
theorem dX9_hedges_79 : decode cX9_hedges 79 = .ok (.aload_n 0, 1) := by decide +kernel
theorem dX9_hedges_80 : decode cX9_hedges 80 = .ok (.getfield 10, 3) := by decide +kernel
theorem dX9_hedges_83 : decode cX9_hedges 83 = .ok (.getfield 57, 3) := by decide +kernel
theorem dX9_hedges_86 : decode cX9_hedges 86 = .ok (.getfield 72, 3) := by decide +kernel
theorem dX9_hedges_89 : decode cX9_hedges 89 = .ok (.iload 4, 2) := by decide +kernel
theorem dX9_hedges_91 : decode cX9_hedges 91 = .ok (.aaload, 1) := by decide +kernel
theorem dX9_hedges_92 : decode cX9_hedges 92 = .ok (.aload_n 2, 1) := by decide +kernel
theorem dX9_hedges_93 : decode cX9_hedges 93 = .ok (.getfield 315, 3) := by decide +kernel
theorem dX9_hedges_96 : decode cX9_hedges 96 = .ok (.iload 4, 2) := by decide +kernel
theorem dX9_hedges_98 : decode cX9_hedges 98 = .ok (.iaload, 1) := by decide +kernel
theorem dX9_hedges_99 : decode cX9_hedges 99 = .ok (.putfield 91, 3) := by decide +kernel
theorem dX9_hedges_102 : decode cX9_hedges 102 = .ok (.iinc 4 1, 3) := by decide +kernel
theorem dX9_hedges_105 : decode cX9_hedges 105 = .ok (.goto (-51), 3) := by decide +kernel
theorem dX9_hedges_108 : decode cX9_hedges 108 = .ok (.iload_n 3, 1) := by decide +kernel
theorem dX9_hedges_109 : decode cX9_hedges 109 = .ok (.ireturn, 1) := by decide +kernel
theorem dX9_judge_0 : decode cX9_judge 0 = .ok (.iload_n 1, 1) := by decide +kernel
theorem dX9_judge_1 : decode cX9_judge 1 = .ok (.invokestatic 258, 3) := by decide +kernel
theorem dX9_judge_4 : decode cX9_judge 4 = .ok (.ifCond .ne 9, 3) := by decide +kernel
theorem dX9_judge_7 : decode cX9_judge 7 = .ok (.aload_n 0, 1) := by decide +kernel
theorem dX9_judge_8 : decode cX9_judge 8 = .ok (.iconst 1, 1) := by decide +kernel
theorem dX9_judge_9 : decode cX9_judge 9 = .ok (.invokevirtual 64, 3) := by decide +kernel
theorem dX9_judge_12 : decode cX9_judge 12 = .ok (.ireturn, 1) := by decide +kernel
theorem dX9_judge_13 : decode cX9_judge 13 = .ok (.aload_n 0, 1) := by decide +kernel
theorem dX9_judge_14 : decode cX9_judge 14 = .ok (.getfield 42, 3) := by decide +kernel
theorem dX9_judge_17 : decode cX9_judge 17 = .ok (.iload_n 1, 1) := by decide +kernel
theorem dX9_judge_18 : decode cX9_judge 18 = .ok (.aaload, 1) := by decide +kernel
theorem dX9_judge_19 : decode cX9_judge 19 = .ok (.astore_n 2, 1) := by decide +kernel
theorem dX9_judge_20 : decode cX9_judge 20 = .ok (.aload_n 2, 1) := by decide +kernel
theorem dX9_judge_21 : decode cX9_judge 21 = .ok (.invokevirtual 261, 3) := by decide +kernel
theorem dX9_judge_24 : decode cX9_judge 24 = .ok (.ifCond .eq 9, 3) := by decide +kernel
theorem dX9_judge_27 : decode cX9_judge 27 = .ok (.aload_n 0, 1) := by decide +kernel
theorem dX9_judge_28 : decode cX9_judge 28 = .ok (.iconst 2, 1) := by decide +kernel
theorem dX9_judge_29 : decode cX9_judge 29 = .ok (.invokevirtual 64, 3) := by decide +kernel
theorem dX9_judge_32 : decode cX9_judge 32 = .ok (.ireturn, 1) := by decide +kernel
theorem dX9_judge_33 : decode cX9_judge 33 = .ok (.aload_n 2, 1) := by decide +kernel
theorem dX9_judge_34 : decode cX9_judge 34 = .ok (.getfield 265, 3) := by decide +kernel
theorem dX9_judge_37 : decode cX9_judge 37 = .ok (.aload_n 0, 1) := by decide +kernel
theorem dX9_judge_38 : decode cX9_judge 38 = .ok (.getfield 10, 3) := by decide +kernel
theorem dX9_judge_41 : decode cX9_judge 41 = .ok (.getfield 57, 3) := by decide +kernel
theorem dX9_judge_44 : decode cX9_judge 44 = .ok (.getfield 177, 3) := by decide +kernel
theorem dX9_judge_47 : decode cX9_judge 47 = .ok (.invokestatic 273, 3) := by decide +kernel
theorem dX9_judge_50 : decode cX9_judge 50 = .ok (.istore_n 3, 1) := by decide +kernel
theorem dX9_judge_51 : decode cX9_judge 51 = .ok (.iconst 0, 1) := by decide +kernel
theorem dX9_judge_52 : decode cX9_judge 52 = .ok (.istore 4, 2) := by decide +kernel
theorem dX9_judge_54 : decode cX9_judge 54 = .ok (.iload 4, 2) := by decide +kernel
theorem dX9_judge_56 : decode cX9_judge 56 = .ok (.iload_n 3, 1) := by decide +kernel
theorem dX9_judge_57 : decode cX9_judge 57 = .ok (.if_icmp .ge 38, 3) := by decide +kernel
theorem dX9_judge_60 : decode cX9_judge 60 = .ok (.aload_n 2, 1) := by decide +kernel
theorem dX9_judge_61 : decode cX9_judge 61 = .ok (.getfield 315, 3) := by decide +kernel
theorem dX9_judge_64 : decode cX9_judge 64 = .ok (.iload 4, 2) := by decide +kernel
theorem dX9_judge_66 : decode cX9_judge 66 = .ok (.iaload, 1) := by decide +kernel
theorem dX9_judge_67 : decode cX9_judge 67 = .ok (.aload_n 0, 1) := by decide +kernel
theorem dX9_judge_68 : decode cX9_judge 68 = .ok (.getfield 10, 3) := by decide +kernel
theorem dX9_judge_71 : decode cX9_judge 71 = .ok (.getfield 57, 3) := by decide +kernel
theorem dX9_judge_74 : decode cX9_judge 74 = .ok (.getfield 187, 3) := by decide +kernel
theorem dX9_judge_77 : decode cX9_judge 77 = .ok (.iload 4, 2) := by decide +kernel
theorem dX9_judge_79 : decode cX9_judge 79 = .ok (.aaload, 1) := by decide +kernel
theorem dX9_judge_80 : decode cX9_judge 80 = .ok (.getfield 202, 3) := by decide +kernel
theorem dX9_judge_83 : decode cX9_judge 83 = .ok (.if_icmp .eq 6, 3) := by decide +kernel
theorem dX9_judge_86 : decode cX9_judge 86 = .ok (.iload 4, 2) := by decide +kernel
theorem dX9_judge_88 : decode cX9_judge 88 = .ok (.ireturn, 1) := by decide +kernel
theorem dX9_judge_89 : decode cX9_judge 89 = .ok (.iinc 4 1, 3) := by decide +kernel
theorem dX9_judge_92 : decode cX9_judge 92 = .ok (.goto (-38), 3) := by decide +kernel
theorem dX9_judge_95 : decode cX9_judge 95 = .ok (.aload_n 2, 1) := by decide +kernel
theorem dX9_judge_96 : decode cX9_judge 96 = .ok (.getfield 265, 3) := by decide +kernel
theorem dX9_judge_99 : decode cX9_judge 99 = .ok (.aload_n 0, 1) := by decide +kernel
theorem dX9_judge_100 : decode cX9_judge 100 = .ok (.getfield 10, 3) := by decide +kernel
theorem dX9_judge_103 : decode cX9_judge 103 = .ok (.getfield 57, 3) := by decide +kernel
theorem dX9_judge_106 : decode cX9_judge 106 = .ok (.getfield 177, 3) := by decide +kernel
theorem dX9_judge_109 : decode cX9_judge 109 = .ok (.if_icmp .ne 7, 3) := by decide +kernel
theorem dX9_judge_112 : decode cX9_judge 112 = .ok (.iconst (-1), 1) := by decide +kernel
theorem dX9_judge_113 : decode cX9_judge 113 = .ok (.goto 4, 3) := by decide +kernel
theorem dX9_judge_116 : decode cX9_judge 116 = .ok (.iload_n 3, 1) := by decide +kernel
theorem dX9_judge_117 : decode cX9_judge 117 = .ok (.ireturn, 1) := by decide +kernel
theorem dX9_image_0 : decode cX9_image 0 = .ok (.aload_n 0, 1) := by decide +kernel
theorem dX9_image_1 : decode cX9_image 1 = .ok (.getfield 16, 3) := by decide +kernel
theorem dX9_image_4 : decode cX9_image 4 = .ok (.aload_n 0, 1) := by decide +kernel
theorem dX9_image_5 : decode cX9_image 5 = .ok (.getfield 10, 3) := by decide +kernel
theorem dX9_image_8 : decode cX9_image 8 = .ok (.invokevirtual 324, 3) := by decide +kernel
theorem dX9_image_11 : decode cX9_image 11 = .ok (.aload_n 0, 1) := by decide +kernel
theorem dX9_image_12 : decode cX9_image 12 = .ok (.dup, 1) := by decide +kernel
theorem dX9_image_13 : decode cX9_image 13 = .ok (.getfield 327, 3) := by decide +kernel
theorem dX9_image_16 : decode cX9_image 16 = .ok (.iconst 1, 1) := by decide +kernel
theorem dX9_image_17 : decode cX9_image 17 = .ok (.iadd, 1) := by decide +kernel
theorem dX9_image_18 : decode cX9_image 18 = .ok (.putfield 327, 3) := by decide +kernel
theorem dX9_image_21 : decode cX9_image 21 = .ok (.aload_n 0, 1) := by decide +kernel
theorem dX9_image_22 : decode cX9_image 22 = .ok (.getfield 327, 3) := by decide +kernel
theorem dX9_image_25 : decode cX9_image 25 = .ok (.ireturn, 1) := by decide +kernel
theorem dX9_restore_0 : decode cX9_restore 0 = .ok (.aload_n 0, 1) := by decide +kernel
theorem dX9_restore_1 : decode cX9_restore 1 = .ok (.getfield 327, 3) := by decide +kernel
theorem dX9_restore_4 : decode cX9_restore 4 = .ok (.ifCond .ne 9, 3) := by decide +kernel
theorem dX9_restore_7 : decode cX9_restore 7 = .ok (.aload_n 0, 1) := by decide +kernel
theorem dX9_restore_8 : decode cX9_restore 8 = .ok (.iconst 2, 1) := by decide +kernel
theorem dX9_restore_9 : decode cX9_restore 9 = .ok (.invokevirtual 64, 3) := by decide +kernel
theorem dX9_restore_12 : decode cX9_restore 12 = .ok (.ireturn, 1) := by decide +kernel
theorem dX9_restore_13 : decode cX9_restore 13 = .ok (.aload_n 0, 1) := by decide +kernel
theorem dX9_restore_14 : decode cX9_restore 14 = .ok (.getfield 10, 3) := by decide +kernel
theorem dX9_restore_17 : decode cX9_restore 17 = .ok (.aload_n 0, 1) := by decide +kernel
theorem dX9_restore_18 : decode cX9_restore 18 = .ok (.getfield 16, 3) := by decide +kernel
theorem dX9_restore_21 : decode cX9_restore 21 = .ok (.invokevirtual 324, 3) := by decide +kernel
theorem dX9_restore_24 : decode cX9_restore 24 = .ok (.aload_n 0, 1) := by decide +kernel
theorem dX9_restore_25 : decode cX9_restore 25 = .ok (.getfield 10, 3) := by decide +kernel
theorem dX9_restore_28 : decode cX9_restore 28 = .ok (.getfield 57, 3) := by decide +kernel
theorem dX9_restore_31 : decode cX9_restore 31 = .ok (.getfield 231, 3) := by decide +kernel
theorem dX9_restore_34 : decode cX9_restore 34 = .ok (.ireturn, 1) := by decide +kernel
theorem dX9_tell_0 : decode cX9_tell 0 = .ok (.aload_n 0, 1) := by decide +kernel
theorem dX9_tell_1 : decode cX9_tell 1 = .ok (.getfield 10, 3) := by decide +kernel
theorem dX9_tell_4 : decode cX9_tell 4 = .ok (.getfield 330, 3) := by decide +kernel
theorem dX9_tell_7 : decode cX9_tell 7 = .ok (.bipush 20, 2) := by decide +kernel
theorem dX9_tell_9 : decode cX9_tell 9 = .ok (.if_icmp .lt 9, 3) := by decide +kernel
theorem dX9_tell_12 : decode cX9_tell 12 = .ok (.aload_n 0, 1) := by decide +kernel
theorem dX9_tell_13 : decode cX9_tell 13 = .ok (.iconst 4, 1) := by decide +kernel
theorem dX9_tell_14 : decode cX9_tell 14 = .ok (.invokevirtual 64, 3) := by decide +kernel
theorem dX9_tell_17 : decode cX9_tell 17 = .ok (.ireturn, 1) := by decide +kernel
theorem dX9_tell_18 : decode cX9_tell 18 = .ok (.aload_n 0, 1) := by decide +kernel
theorem dX9_tell_19 : decode cX9_tell 19 = .ok (.getfield 10, 3) := by decide +kernel
theorem dX9_tell_22 : decode cX9_tell 22 = .ok (.getfield 333, 3) := by decide +kernel
theorem dX9_tell_25 : decode cX9_tell 25 = .ok (.aload_n 0, 1) := by decide +kernel
theorem dX9_tell_26 : decode cX9_tell 26 = .ok (.getfield 10, 3) := by decide +kernel
theorem dX9_tell_29 : decode cX9_tell 29 = .ok (.getfield 330, 3) := by decide +kernel
theorem dX9_tell_32 : decode cX9_tell 32 = .ok (.iload_n 1, 1) := by decide +kernel
theorem dX9_tell_33 : decode cX9_tell 33 = .ok (.iastore, 1) := by decide +kernel
theorem dX9_tell_34 : decode cX9_tell 34 = .ok (.aload_n 0, 1) := by decide +kernel
theorem dX9_tell_35 : decode cX9_tell 35 = .ok (.getfield 10, 3) := by decide +kernel
theorem dX9_tell_38 : decode cX9_tell 38 = .ok (.dup, 1) := by decide +kernel
theorem dX9_tell_39 : decode cX9_tell 39 = .ok (.getfield 330, 3) := by decide +kernel
theorem dX9_tell_42 : decode cX9_tell 42 = .ok (.iconst 1, 1) := by decide +kernel
theorem dX9_tell_43 : decode cX9_tell 43 = .ok (.iadd, 1) := by decide +kernel
theorem dX9_tell_44 : decode cX9_tell 44 = .ok (.putfield 330, 3) := by decide +kernel
theorem dX9_tell_47 : decode cX9_tell 47 = .ok (.aload_n 0, 1) := by decide +kernel
theorem dX9_tell_48 : decode cX9_tell 48 = .ok (.getfield 10, 3) := by decide +kernel
theorem dX9_tell_51 : decode cX9_tell 51 = .ok (.getfield 330, 3) := by decide +kernel
theorem dX9_tell_54 : decode cX9_tell 54 = .ok (.ireturn, 1) := by decide +kernel
theorem dX9_check_0 : decode cX9_check 0 = .ok (.aload_n 0, 1) := by decide +kernel
theorem dX9_check_1 : decode cX9_check 1 = .ok (.getfield 10, 3) := by decide +kernel
theorem dX9_check_4 : decode cX9_check 4 = .ok (.getfield 330, 3) := by decide +kernel
theorem dX9_check_7 : decode cX9_check 7 = .ok (.istore_n 1, 1) := by decide +kernel
theorem dX9_check_8 : decode cX9_check 8 = .ok (.aload_n 0, 1) := by decide +kernel
theorem dX9_check_9 : decode cX9_check 9 = .ok (.getfield 10, 3) := by decide +kernel
theorem dX9_check_12 : decode cX9_check 12 = .ok (.iconst 0, 1) := by decide +kernel
theorem dX9_check_13 : decode cX9_check 13 = .ok (.putfield 330, 3) := by decide +kernel
theorem dX9_check_16 : decode cX9_check 16 = .ok (.aload_n 0, 1) := by decide +kernel
theorem dX9_check_17 : decode cX9_check 17 = .ok (.getfield 22, 3) := by decide +kernel
theorem dX9_check_20 : decode cX9_check 20 = .ok (.aload_n 0, 1) := by decide +kernel
theorem dX9_check_21 : decode cX9_check 21 = .ok (.getfield 10, 3) := by decide +kernel
theorem dX9_check_24 : decode cX9_check 24 = .ok (.getfield 57, 3) := by decide +kernel
theorem dX9_check_27 : decode cX9_check 27 = .ok (.invokevirtual 241, 3) := by decide +kernel
theorem dX9_check_30 : decode cX9_check 30 = .ok (.iconst 0, 1) := by decide +kernel
theorem dX9_check_31 : decode cX9_check 31 = .ok (.istore_n 2, 1) := by decide +kernel
theorem dX9_check_32 : decode cX9_check 32 = .ok (.iload_n 2, 1) := by decide +kernel
theorem dX9_check_33 : decode cX9_check 33 = .ok (.iload_n 1, 1) := by decide +kernel
theorem dX9_check_34 : decode cX9_check 34 = .ok (.if_icmp .ge 49, 3) := by decide +kernel
theorem dX9_check_37 : decode cX9_check 37 = .ok (.aload_n 0, 1) := by decide +kernel
theorem dX9_check_38 : decode cX9_check 38 = .ok (.getfield 22, 3) := by decide +kernel
theorem dX9_check_41 : decode cX9_check 41 = .ok (.iconst 1, 1) := by decide +kernel
theorem dX9_check_42 : decode cX9_check 42 = .ok (.aload_n 0, 1) := by decide +kernel
theorem dX9_check_43 : decode cX9_check 43 = .ok (.getfield 10, 3) := by decide +kernel
theorem dX9_check_46 : decode cX9_check 46 = .ok (.getfield 153, 3) := by decide +kernel
theorem dX9_check_49 : decode cX9_check 49 = .ok (.iconst 1, 1) := by decide +kernel
theorem dX9_check_50 : decode cX9_check 50 = .ok (.aaload, 1) := by decide +kernel
theorem dX9_check_51 : decode cX9_check 51 = .ok (.invokevirtual 234, 3) := by decide +kernel
theorem dX9_check_54 : decode cX9_check 54 = .ok (.aload_n 0, 1) := by decide +kernel
theorem dX9_check_55 : decode cX9_check 55 = .ok (.getfield 22, 3) := by decide +kernel
theorem dX9_check_58 : decode cX9_check 58 = .ok (.getfield 177, 3) := by decide +kernel
theorem dX9_check_61 : decode cX9_check 61 = .ok (.aload_n 0, 1) := by decide +kernel
theorem dX9_check_62 : decode cX9_check 62 = .ok (.getfield 10, 3) := by decide +kernel
theorem dX9_check_65 : decode cX9_check 65 = .ok (.getfield 333, 3) := by decide +kernel
theorem dX9_check_68 : decode cX9_check 68 = .ok (.iload_n 2, 1) := by decide +kernel
theorem dX9_check_69 : decode cX9_check 69 = .ok (.iaload, 1) := by decide +kernel
theorem dX9_check_70 : decode cX9_check 70 = .ok (.if_icmp .eq 7, 3) := by decide +kernel
theorem dX9_check_73 : decode cX9_check 73 = .ok (.iconst 1, 1) := by decide +kernel
theorem dX9_check_74 : decode cX9_check 74 = .ok (.iload_n 2, 1) := by decide +kernel
theorem dX9_check_75 : decode cX9_check 75 = .ok (.iadd, 1) := by decide +kernel
theorem dX9_check_76 : decode cX9_check 76 = .ok (.ireturn, 1) := by decide +kernel
theorem dX9_check_77 : decode cX9_check 77 = .ok (.iinc 2 1, 3) := by decide +kernel
theorem dX9_check_80 : decode cX9_check 80 = .ok (.goto (-48), 3) := by decide +kernel
theorem dX9_check_83 : decode cX9_check 83 = .ok (.iconst 0, 1) := by decide +kernel
theorem dX9_check_84 : decode cX9_check 84 = .ok (.ireturn, 1) := by decide +kernel
theorem dX9_count_0 : decode cX9_count 0 = .ok (.iload_n 1, 1) := by decide +kernel
theorem dX9_count_1 : decode cX9_count 1 = .ok (.tableswitch 153 0 9 #[55, 66, 77, 88, 99, 110, 121, 129, 137, 145], 55) := by decide +kernel
theorem dX9_count_56 : decode cX9_count 56 = .ok (.aload_n 0, 1) := by decide +kernel
theorem dX9_count_57 : decode cX9_count 57 = .ok (.getfield 10, 3) := by decide +kernel
theorem dX9_count_60 : decode cX9_count 60 = .ok (.getfield 57, 3) := by decide +kernel
theorem dX9_count_63 : decode cX9_count 63 = .ok (.getfield 68, 3) := by decide +kernel
theorem dX9_count_66 : decode cX9_count 66 = .ok (.ireturn, 1) := by decide +kernel
theorem dX9_count_67 : decode cX9_count 67 = .ok (.aload_n 0, 1) := by decide +kernel
theorem dX9_count_68 : decode cX9_count 68 = .ok (.getfield 10, 3) := by decide +kernel
theorem dX9_count_71 : decode cX9_count 71 = .ok (.getfield 57, 3) := by decide +kernel
theorem dX9_count_74 : decode cX9_count 74 = .ok (.getfield 108, 3) := by decide +kernel
theorem dX9_count_77 : decode cX9_count 77 = .ok (.ireturn, 1) := by decide +kernel
theorem dX9_count_78 : decode cX9_count 78 = .ok (.aload_n 0, 1) := by decide +kernel
theorem dX9_count_79 : decode cX9_count 79 = .ok (.getfield 10, 3) := by decide +kernel
theorem dX9_count_82 : decode cX9_count 82 = .ok (.getfield 57, 3) := by decide +kernel
theorem dX9_count_85 : decode cX9_count 85 = .ok (.getfield 177, 3) := by decide +kernel
theorem dX9_count_88 : decode cX9_count 88 = .ok (.ireturn, 1) := by decide +kernel
theorem dX9_count_89 : decode cX9_count 89 = .ok (.aload_n 0, 1) := by decide +kernel
theorem dX9_count_90 : decode cX9_count 90 = .ok (.getfield 10, 3) := by decide +kernel
theorem dX9_count_93 : decode cX9_count 93 = .ok (.getfield 57, 3) := by decide +kernel
theorem dX9_count_96 : decode cX9_count 96 = .ok (.getfield 231, 3) := by decide +kernel
theorem dX9_count_99 : decode cX9_count 99 = .ok (.ireturn, 1) := by decide +kernel
theorem dX9_count_100 : decode cX9_count 100 = .ok (.aload_n 0, 1) := by decide +kernel
theorem dX9_count_101 : decode cX9_count 101 = .ok (.getfield 10, 3) := by decide +kernel
theorem dX9_count_104 : decode cX9_count 104 = .ok (.getfield 57, 3) := by decide +kernel
theorem dX9_count_107 : decode cX9_count 107 = .ok (.invokevirtual 336, 3) := by decide +kernel
theorem dX9_count_110 : decode cX9_count 110 = .ok (.ireturn, 1) := by decide +kernel
theorem dX9_count_111 : decode cX9_count 111 = .ok (.aload_n 0, 1) := by decide +kernel
theorem dX9_count_112 : decode cX9_count 112 = .ok (.getfield 10, 3) := by decide +kernel
theorem dX9_count_115 : decode cX9_count 115 = .ok (.getfield 57, 3) := by decide +kernel
theorem dX9_count_118 : decode cX9_count 118 = .ok (.invokevirtual 278, 3) := by decide +kernel
theorem dX9_count_121 : decode cX9_count 121 = .ok (.ireturn, 1) := by decide +kernel
theorem dX9_count_122 : decode cX9_count 122 = .ok (.aload_n 0, 1) := by decide +kernel
theorem dX9_count_123 : decode cX9_count 123 = .ok (.getfield 10, 3) := by decide +kernel
theorem dX9_count_126 : decode cX9_count 126 = .ok (.getfield 137, 3) := by decide +kernel
theorem dX9_count_129 : decode cX9_count 129 = .ok (.ireturn, 1) := by decide +kernel
theorem dX9_count_130 : decode cX9_count 130 = .ok (.aload_n 0, 1) := by decide +kernel
theorem dX9_count_131 : decode cX9_count 131 = .ok (.getfield 10, 3) := by decide +kernel
theorem dX9_count_134 : decode cX9_count 134 = .ok (.getfield 330, 3) := by decide +kernel
theorem dX9_count_137 : decode cX9_count 137 = .ok (.ireturn, 1) := by decide +kernel
theorem dX9_count_138 : decode cX9_count 138 = .ok (.aload_n 0, 1) := by decide +kernel
theorem dX9_count_139 : decode cX9_count 139 = .ok (.getfield 36, 3) := by decide +kernel
theorem dX9_count_142 : decode cX9_count 142 = .ok (.getfield 297, 3) := by decide +kernel
theorem dX9_count_145 : decode cX9_count 145 = .ok (.ireturn, 1) := by decide +kernel
theorem dX9_count_146 : decode cX9_count 146 = .ok (.aload_n 0, 1) := by decide +kernel
theorem dX9_count_147 : decode cX9_count 147 = .ok (.getfield 10, 3) := by decide +kernel
theorem dX9_count_150 : decode cX9_count 150 = .ok (.getfield 290, 3) := by decide +kernel
theorem dX9_count_153 : decode cX9_count 153 = .ok (.ireturn, 1) := by decide +kernel
theorem dX9_count_154 : decode cX9_count 154 = .ok (.aload_n 0, 1) := by decide +kernel
theorem dX9_count_155 : decode cX9_count 155 = .ok (.iconst 1, 1) := by decide +kernel
theorem dX9_count_156 : decode cX9_count 156 = .ok (.invokevirtual 64, 3) := by decide +kernel
theorem dX9_count_159 : decode cX9_count 159 = .ok (.ireturn, 1) := by decide +kernel
theorem dX9_told_0 : decode cX9_told 0 = .ok (.iload_n 1, 1) := by decide +kernel
theorem dX9_told_1 : decode cX9_told 1 = .ok (.iconst 1, 1) := by decide +kernel
theorem dX9_told_2 : decode cX9_told 2 = .ok (.iconst 5, 1) := by decide +kernel
theorem dX9_told_3 : decode cX9_told 3 = .ok (.invokestatic 100, 3) := by decide +kernel
theorem dX9_told_6 : decode cX9_told 6 = .ok (.ifCond .ne 9, 3) := by decide +kernel
theorem dX9_told_9 : decode cX9_told 9 = .ok (.aload_n 0, 1) := by decide +kernel
theorem dX9_told_10 : decode cX9_told 10 = .ok (.iconst 1, 1) := by decide +kernel
theorem dX9_told_11 : decode cX9_told 11 = .ok (.invokevirtual 64, 3) := by decide +kernel
theorem dX9_told_14 : decode cX9_told 14 = .ok (.ireturn, 1) := by decide +kernel
theorem dX9_told_15 : decode cX9_told 15 = .ok (.aload_n 0, 1) := by decide +kernel
theorem dX9_told_16 : decode cX9_told 16 = .ok (.getfield 46, 3) := by decide +kernel
theorem dX9_told_19 : decode cX9_told 19 = .ok (.iload_n 1, 1) := by decide +kernel
theorem dX9_told_20 : decode cX9_told 20 = .ok (.iaload, 1) := by decide +kernel
theorem dX9_told_21 : decode cX9_told 21 = .ok (.ireturn, 1) := by decide +kernel
theorem dX9_fail_0 : decode cX9_fail 0 = .ok (.iload_n 1, 1) := by decide +kernel
theorem dX9_fail_1 : decode cX9_fail 1 = .ok (.iconst 1, 1) := by decide +kernel
theorem dX9_fail_2 : decode cX9_fail 2 = .ok (.iconst 5, 1) := by decide +kernel
theorem dX9_fail_3 : decode cX9_fail 3 = .ok (.invokestatic 100, 3) := by decide +kernel
theorem dX9_fail_6 : decode cX9_fail 6 = .ok (.ifCond .eq 13, 3) := by decide +kernel
theorem dX9_fail_9 : decode cX9_fail 9 = .ok (.aload_n 0, 1) := by decide +kernel
theorem dX9_fail_10 : decode cX9_fail 10 = .ok (.getfield 46, 3) := by decide +kernel
theorem dX9_fail_13 : decode cX9_fail 13 = .ok (.iload_n 1, 1) := by decide +kernel
theorem dX9_fail_14 : decode cX9_fail 14 = .ok (.dup2, 1) := by decide +kernel
theorem dX9_fail_15 : decode cX9_fail 15 = .ok (.iaload, 1) := by decide +kernel
theorem dX9_fail_16 : decode cX9_fail 16 = .ok (.iconst 1, 1) := by decide +kernel
theorem dX9_fail_17 : decode cX9_fail 17 = .ok (.iadd, 1) := by decide +kernel
theorem dX9_fail_18 : decode cX9_fail 18 = .ok (.iastore, 1) := by decide +kernel
theorem dX9_fail_19 : decode cX9_fail 19 = .ok (.ldc_w 339, 3) := by decide +kernel
theorem dX9_fail_22 : decode cX9_fail 22 = .ok (.iload_n 1, 1) := by decide +kernel
theorem dX9_fail_23 : decode cX9_fail 23 = .ok (.isub, 1) := by decide +kernel
theorem dX9_fail_24 : decode cX9_fail 24 = .ok (.ireturn, 1) := by decide +kernel
theorem dX9_within_0 : decode cX9_within 0 = .ok (.iload_n 0, 1) := by decide +kernel
theorem dX9_within_1 : decode cX9_within 1 = .ok (.iload_n 1, 1) := by decide +kernel
theorem dX9_within_2 : decode cX9_within 2 = .ok (.if_icmp .lt 12, 3) := by decide +kernel
theorem dX9_within_5 : decode cX9_within 5 = .ok (.iload_n 0, 1) := by decide +kernel
theorem dX9_within_6 : decode cX9_within 6 = .ok (.iload_n 2, 1) := by decide +kernel
theorem dX9_within_7 : decode cX9_within 7 = .ok (.if_icmp .gt 7, 3) := by decide +kernel
theorem dX9_within_10 : decode cX9_within 10 = .ok (.iconst 1, 1) := by decide +kernel
theorem dX9_within_11 : decode cX9_within 11 = .ok (.goto 4, 3) := by decide +kernel
theorem dX9_within_14 : decode cX9_within 14 = .ok (.iconst 0, 1) := by decide +kernel
theorem dX9_within_15 : decode cX9_within 15 = .ok (.ireturn, 1) := by decide +kernel
theorem dX9_held_0 : decode cX9_held 0 = .ok (.iload_n 0, 1) := by decide +kernel
theorem dX9_held_1 : decode cX9_held 1 = .ok (.ifCond .ge 7, 3) := by decide +kernel
theorem dX9_held_4 : decode cX9_held 4 = .ok (.iconst 0, 1) := by decide +kernel
theorem dX9_held_5 : decode cX9_held 5 = .ok (.goto 13, 3) := by decide +kernel
theorem dX9_held_8 : decode cX9_held 8 = .ok (.iload_n 0, 1) := by decide +kernel
theorem dX9_held_9 : decode cX9_held 9 = .ok (.iload_n 1, 1) := by decide +kernel
theorem dX9_held_10 : decode cX9_held 10 = .ok (.if_icmp .le 7, 3) := by decide +kernel
theorem dX9_held_13 : decode cX9_held 13 = .ok (.iload_n 1, 1) := by decide +kernel
theorem dX9_held_14 : decode cX9_held 14 = .ok (.goto 4, 3) := by decide +kernel
theorem dX9_held_17 : decode cX9_held 17 = .ok (.iload_n 0, 1) := by decide +kernel
theorem dX9_held_18 : decode cX9_held 18 = .ok (.ireturn, 1) := by decide +kernel
theorem dX9_isKindAndNumber_0 : decode cX9_isKindAndNumber 0 = .ok (.iload_n 0, 1) := by decide +kernel
theorem dX9_isKindAndNumber_1 : decode cX9_isKindAndNumber 1 = .ok (.iconst 0, 1) := by decide +kernel
theorem dX9_isKindAndNumber_2 : decode cX9_isKindAndNumber 2 = .ok (.bipush 69, 2) := by decide +kernel
theorem dX9_isKindAndNumber_4 : decode cX9_isKindAndNumber 4 = .ok (.invokestatic 100, 3) := by decide +kernel
theorem dX9_isKindAndNumber_7 : decode cX9_isKindAndNumber 7 = .ok (.ireturn, 1) := by decide +kernel
theorem dX9_isUse_0 : decode cX9_isUse 0 = .ok (.iload_n 0, 1) := by decide +kernel
theorem dX9_isUse_1 : decode cX9_isUse 1 = .ok (.iconst 0, 1) := by decide +kernel
theorem dX9_isUse_2 : decode cX9_isUse 2 = .ok (.iconst 1, 1) := by decide +kernel
theorem dX9_isUse_3 : decode cX9_isUse 3 = .ok (.invokestatic 100, 3) := by decide +kernel
theorem dX9_isUse_6 : decode cX9_isUse 6 = .ok (.ireturn, 1) := by decide +kernel
theorem dX9_isHeat_0 : decode cX9_isHeat 0 = .ok (.iload_n 0, 1) := by decide +kernel
theorem dX9_isHeat_1 : decode cX9_isHeat 1 = .ok (.iconst 0, 1) := by decide +kernel
theorem dX9_isHeat_2 : decode cX9_isHeat 2 = .ok (.bipush 9, 2) := by decide +kernel
theorem dX9_isHeat_4 : decode cX9_isHeat 4 = .ok (.invokestatic 100, 3) := by decide +kernel
theorem dX9_isHeat_7 : decode cX9_isHeat 7 = .ok (.ireturn, 1) := by decide +kernel
theorem dX9_isColour_0 : decode cX9_isColour 0 = .ok (.iload_n 0, 1) := by decide +kernel
theorem dX9_isColour_1 : decode cX9_isColour 1 = .ok (.iconst 0, 1) := by decide +kernel
theorem dX9_isColour_2 : decode cX9_isColour 2 = .ok (.bipush 9, 2) := by decide +kernel
theorem dX9_isColour_4 : decode cX9_isColour 4 = .ok (.invokestatic 100, 3) := by decide +kernel
theorem dX9_isColour_7 : decode cX9_isColour 7 = .ok (.ireturn, 1) := by decide +kernel
theorem dX9_isSheet_0 : decode cX9_isSheet 0 = .ok (.iload_n 0, 1) := by decide +kernel
theorem dX9_isSheet_1 : decode cX9_isSheet 1 = .ok (.iconst 0, 1) := by decide +kernel
theorem dX9_isSheet_2 : decode cX9_isSheet 2 = .ok (.iconst 3, 1) := by decide +kernel
theorem dX9_isSheet_3 : decode cX9_isSheet 3 = .ok (.invokestatic 100, 3) := by decide +kernel
theorem dX9_isSheet_6 : decode cX9_isSheet 6 = .ok (.ireturn, 1) := by decide +kernel
theorem dX9_isMix_0 : decode cX9_isMix 0 = .ok (.iload_n 1, 1) := by decide +kernel
theorem dX9_isMix_1 : decode cX9_isMix 1 = .ok (.iconst 0, 1) := by decide +kernel
theorem dX9_isMix_2 : decode cX9_isMix 2 = .ok (.getstatic 340, 3) := by decide +kernel
theorem dX9_isMix_5 : decode cX9_isMix 5 = .ok (.aload_n 0, 1) := by decide +kernel
theorem dX9_isMix_6 : decode cX9_isMix 6 = .ok (.getfield 10, 3) := by decide +kernel
theorem dX9_isMix_9 : decode cX9_isMix 9 = .ok (.getfield 57, 3) := by decide +kernel
theorem dX9_isMix_12 : decode cX9_isMix 12 = .ok (.getfield 68, 3) := by decide +kernel
theorem dX9_isMix_15 : decode cX9_isMix 15 = .ok (.iconst 5, 1) := by decide +kernel
theorem dX9_isMix_16 : decode cX9_isMix 16 = .ok (.invokestatic 343, 3) := by decide +kernel
theorem dX9_isMix_19 : decode cX9_isMix 19 = .ok (.iaload, 1) := by decide +kernel
theorem dX9_isMix_20 : decode cX9_isMix 20 = .ok (.iconst 1, 1) := by decide +kernel
theorem dX9_isMix_21 : decode cX9_isMix 21 = .ok (.isub, 1) := by decide +kernel
theorem dX9_isMix_22 : decode cX9_isMix 22 = .ok (.invokestatic 100, 3) := by decide +kernel
theorem dX9_isMix_25 : decode cX9_isMix 25 = .ok (.ireturn, 1) := by decide +kernel
theorem dX9_isUnder_0 : decode cX9_isUnder 0 = .ok (.iload_n 0, 1) := by decide +kernel
theorem dX9_isUnder_1 : decode cX9_isUnder 1 = .ok (.istore_n 2, 1) := by decide +kernel
theorem dX9_isUnder_2 : decode cX9_isUnder 2 = .ok (.iconst 0, 1) := by decide +kernel
theorem dX9_isUnder_3 : decode cX9_isUnder 3 = .ok (.istore_n 3, 1) := by decide +kernel
theorem dX9_isUnder_4 : decode cX9_isUnder 4 = .ok (.iload_n 3, 1) := by decide +kernel
theorem dX9_isUnder_5 : decode cX9_isUnder 5 = .ok (.bipush 7, 2) := by decide +kernel
theorem dX9_isUnder_7 : decode cX9_isUnder 7 = .ok (.if_icmp .ge 32, 3) := by decide +kernel
theorem dX9_isUnder_10 : decode cX9_isUnder 10 = .ok (.iload_n 2, 1) := by decide +kernel
theorem dX9_isUnder_11 : decode cX9_isUnder 11 = .ok (.iconst 0, 1) := by decide +kernel
theorem dX9_isUnder_12 : decode cX9_isUnder 12 = .ok (.bipush 6, 2) := by decide +kernel
theorem dX9_isUnder_14 : decode cX9_isUnder 14 = .ok (.invokestatic 100, 3) := by decide +kernel
theorem dX9_isUnder_17 : decode cX9_isUnder 17 = .ok (.ifCond .eq 22, 3) := by decide +kernel
theorem dX9_isUnder_20 : decode cX9_isUnder 20 = .ok (.iload_n 2, 1) := by decide +kernel
theorem dX9_isUnder_21 : decode cX9_isUnder 21 = .ok (.iload_n 1, 1) := by decide +kernel
theorem dX9_isUnder_22 : decode cX9_isUnder 22 = .ok (.if_icmp .ne 5, 3) := by decide +kernel
theorem dX9_isUnder_25 : decode cX9_isUnder 25 = .ok (.iconst 1, 1) := by decide +kernel
theorem dX9_isUnder_26 : decode cX9_isUnder 26 = .ok (.ireturn, 1) := by decide +kernel
theorem dX9_isUnder_27 : decode cX9_isUnder 27 = .ok (.getstatic 346, 3) := by decide +kernel
theorem dX9_isUnder_30 : decode cX9_isUnder 30 = .ok (.iload_n 2, 1) := by decide +kernel
theorem dX9_isUnder_31 : decode cX9_isUnder 31 = .ok (.iaload, 1) := by decide +kernel
theorem dX9_isUnder_32 : decode cX9_isUnder 32 = .ok (.istore_n 2, 1) := by decide +kernel
theorem dX9_isUnder_33 : decode cX9_isUnder 33 = .ok (.iinc 3 1, 3) := by decide +kernel
theorem dX9_isUnder_36 : decode cX9_isUnder 36 = .ok (.goto (-32), 3) := by decide +kernel
theorem dX9_isUnder_39 : decode cX9_isUnder 39 = .ok (.iconst 0, 1) := by decide +kernel
theorem dX9_isUnder_40 : decode cX9_isUnder 40 = .ok (.ireturn, 1) := by decide +kernel
theorem dX9_commonDivisor_0 : decode cX9_commonDivisor 0 = .ok (.iload_n 1, 1) := by decide +kernel
theorem dX9_commonDivisor_1 : decode cX9_commonDivisor 1 = .ok (.istore_n 2, 1) := by decide +kernel
theorem dX9_commonDivisor_2 : decode cX9_commonDivisor 2 = .ok (.iload_n 2, 1) := by decide +kernel
theorem dX9_commonDivisor_3 : decode cX9_commonDivisor 3 = .ok (.iconst 1, 1) := by decide +kernel
theorem dX9_commonDivisor_4 : decode cX9_commonDivisor 4 = .ok (.if_icmp .le 23, 3) := by decide +kernel
theorem dX9_commonDivisor_7 : decode cX9_commonDivisor 7 = .ok (.iload_n 0, 1) := by decide +kernel
theorem dX9_commonDivisor_8 : decode cX9_commonDivisor 8 = .ok (.iload_n 2, 1) := by decide +kernel
theorem dX9_commonDivisor_9 : decode cX9_commonDivisor 9 = .ok (.irem, 1) := by decide +kernel
theorem dX9_commonDivisor_10 : decode cX9_commonDivisor 10 = .ok (.ifCond .ne 11, 3) := by decide +kernel
theorem dX9_commonDivisor_13 : decode cX9_commonDivisor 13 = .ok (.iload_n 1, 1) := by decide +kernel
theorem dX9_commonDivisor_14 : decode cX9_commonDivisor 14 = .ok (.iload_n 2, 1) := by decide +kernel
theorem dX9_commonDivisor_15 : decode cX9_commonDivisor 15 = .ok (.irem, 1) := by decide +kernel
theorem dX9_commonDivisor_16 : decode cX9_commonDivisor 16 = .ok (.ifCond .ne 5, 3) := by decide +kernel
theorem dX9_commonDivisor_19 : decode cX9_commonDivisor 19 = .ok (.iload_n 2, 1) := by decide +kernel
theorem dX9_commonDivisor_20 : decode cX9_commonDivisor 20 = .ok (.ireturn, 1) := by decide +kernel
theorem dX9_commonDivisor_21 : decode cX9_commonDivisor 21 = .ok (.iinc 2 (-1), 3) := by decide +kernel
theorem dX9_commonDivisor_24 : decode cX9_commonDivisor 24 = .ok (.goto (-22), 3) := by decide +kernel
theorem dX9_commonDivisor_27 : decode cX9_commonDivisor 27 = .ok (.iconst 1, 1) := by decide +kernel
theorem dX9_commonDivisor_28 : decode cX9_commonDivisor 28 = .ok (.ireturn, 1) := by decide +kernel
theorem dX9_draw_0 : decode cX9_draw 0 = .ok (.aload_n 0, 1) := by decide +kernel
theorem dX9_draw_1 : decode cX9_draw 1 = .ok (.getfield 10, 3) := by decide +kernel
theorem dX9_draw_4 : decode cX9_draw 4 = .ok (.aload_n 0, 1) := by decide +kernel
theorem dX9_draw_5 : decode cX9_draw 5 = .ok (.getfield 10, 3) := by decide +kernel
theorem dX9_draw_8 : decode cX9_draw 8 = .ok (.getfield 290, 3) := by decide +kernel
theorem dX9_draw_11 : decode cX9_draw 11 = .ok (.ldc_w 349, 3) := by decide +kernel
theorem dX9_draw_14 : decode cX9_draw 14 = .ok (.imul, 1) := by decide +kernel
theorem dX9_draw_15 : decode cX9_draw 15 = .ok (.sipush 12345, 3) := by decide +kernel
theorem dX9_draw_18 : decode cX9_draw 18 = .ok (.iadd, 1) := by decide +kernel
theorem dX9_draw_19 : decode cX9_draw 19 = .ok (.putfield 290, 3) := by decide +kernel
theorem dX9_draw_22 : decode cX9_draw 22 = .ok (.aload_n 0, 1) := by decide +kernel
theorem dX9_draw_23 : decode cX9_draw 23 = .ok (.getfield 10, 3) := by decide +kernel
theorem dX9_draw_26 : decode cX9_draw 26 = .ok (.getfield 290, 3) := by decide +kernel
theorem dX9_draw_29 : decode cX9_draw 29 = .ok (.bipush 8, 2) := by decide +kernel
theorem dX9_draw_31 : decode cX9_draw 31 = .ok (.iushr, 1) := by decide +kernel
theorem dX9_draw_32 : decode cX9_draw 32 = .ok (.ireturn, 1) := by decide +kernel
theorem dX9_drawHedge_0 : decode cX9_drawHedge 0 = .ok (.aload_n 0, 1) := by decide +kernel
theorem dX9_drawHedge_1 : decode cX9_drawHedge 1 = .ok (.getfield 10, 3) := by decide +kernel
theorem dX9_drawHedge_4 : decode cX9_drawHedge 4 = .ok (.getfield 57, 3) := by decide +kernel
theorem dX9_drawHedge_7 : decode cX9_drawHedge 7 = .ok (.getfield 68, 3) := by decide +kernel
theorem dX9_drawHedge_10 : decode cX9_drawHedge 10 = .ok (.istore_n 1, 1) := by decide +kernel
theorem dX9_drawHedge_11 : decode cX9_drawHedge 11 = .ok (.iload_n 1, 1) := by decide +kernel
theorem dX9_drawHedge_12 : decode cX9_drawHedge 12 = .ok (.ifCond .le 32, 3) := by decide +kernel
theorem dX9_drawHedge_15 : decode cX9_drawHedge 15 = .ok (.aload_n 0, 1) := by decide +kernel
theorem dX9_drawHedge_16 : decode cX9_drawHedge 16 = .ok (.invokevirtual 350, 3) := by decide +kernel
theorem dX9_drawHedge_19 : decode cX9_drawHedge 19 = .ok (.iload_n 1, 1) := by decide +kernel
theorem dX9_drawHedge_20 : decode cX9_drawHedge 20 = .ok (.irem, 1) := by decide +kernel
theorem dX9_drawHedge_21 : decode cX9_drawHedge 21 = .ok (.istore_n 2, 1) := by decide +kernel
theorem dX9_drawHedge_22 : decode cX9_drawHedge 22 = .ok (.aload_n 0, 1) := by decide +kernel
theorem dX9_drawHedge_23 : decode cX9_drawHedge 23 = .ok (.getfield 10, 3) := by decide +kernel
theorem dX9_drawHedge_26 : decode cX9_drawHedge 26 = .ok (.getfield 57, 3) := by decide +kernel
theorem dX9_drawHedge_29 : decode cX9_drawHedge 29 = .ok (.getfield 72, 3) := by decide +kernel
theorem dX9_drawHedge_32 : decode cX9_drawHedge 32 = .ok (.iload_n 2, 1) := by decide +kernel
theorem dX9_drawHedge_33 : decode cX9_drawHedge 33 = .ok (.aaload, 1) := by decide +kernel
theorem dX9_drawHedge_34 : decode cX9_drawHedge 34 = .ok (.aload_n 0, 1) := by decide +kernel
theorem dX9_drawHedge_35 : decode cX9_drawHedge 35 = .ok (.invokevirtual 350, 3) := by decide +kernel
theorem dX9_drawHedge_38 : decode cX9_drawHedge 38 = .ok (.bipush 10, 2) := by decide +kernel
theorem dX9_drawHedge_40 : decode cX9_drawHedge 40 = .ok (.irem, 1) := by decide +kernel
theorem dX9_drawHedge_41 : decode cX9_drawHedge 41 = .ok (.putfield 91, 3) := by decide +kernel
theorem dX9_drawHedge_44 : decode cX9_drawHedge 44 = .ok (.return_, 1) := by decide +kernel
theorem dX9_colourOfAsh_0 : decode cX9_colourOfAsh 0 = .ok (.aload_n 0, 1) := by decide +kernel
theorem dX9_colourOfAsh_1 : decode cX9_colourOfAsh 1 = .ok (.getfield 10, 3) := by decide +kernel
theorem dX9_colourOfAsh_4 : decode cX9_colourOfAsh 4 = .ok (.getfield 153, 3) := by decide +kernel
theorem dX9_colourOfAsh_7 : decode cX9_colourOfAsh 7 = .ok (.iconst 0, 1) := by decide +kernel
theorem dX9_colourOfAsh_8 : decode cX9_colourOfAsh 8 = .ok (.aaload, 1) := by decide +kernel
theorem dX9_colourOfAsh_9 : decode cX9_colourOfAsh 9 = .ok (.aload_n 1, 1) := by decide +kernel
theorem dX9_colourOfAsh_10 : decode cX9_colourOfAsh 10 = .ok (.getfield 88, 3) := by decide +kernel
theorem dX9_colourOfAsh_13 : decode cX9_colourOfAsh 13 = .ok (.aload_n 1, 1) := by decide +kernel
theorem dX9_colourOfAsh_14 : decode cX9_colourOfAsh 14 = .ok (.getfield 85, 3) := by decide +kernel
theorem dX9_colourOfAsh_17 : decode cX9_colourOfAsh 17 = .ok (.iload_n 2, 1) := by decide +kernel
theorem dX9_colourOfAsh_18 : decode cX9_colourOfAsh 18 = .ok (.invokevirtual 169, 3) := by decide +kernel
theorem dX9_colourOfAsh_21 : decode cX9_colourOfAsh 21 = .ok (.istore_n 3, 1) := by decide +kernel
theorem dX9_colourOfAsh_22 : decode cX9_colourOfAsh 22 = .ok (.iload_n 2, 1) := by decide +kernel
theorem dX9_colourOfAsh_23 : decode cX9_colourOfAsh 23 = .ok (.iconst 5, 1) := by decide +kernel
theorem dX9_colourOfAsh_24 : decode cX9_colourOfAsh 24 = .ok (.if_icmp .ge 7, 3) := by decide +kernel
theorem dX9_colourOfAsh_27 : decode cX9_colourOfAsh 27 = .ok (.iload_n 3, 1) := by decide +kernel
theorem dX9_colourOfAsh_28 : decode cX9_colourOfAsh 28 = .ok (.goto 7, 3) := by decide +kernel
theorem dX9_colourOfAsh_31 : decode cX9_colourOfAsh 31 = .ok (.aload_n 1, 1) := by decide +kernel
theorem dX9_colourOfAsh_32 : decode cX9_colourOfAsh 32 = .ok (.getfield 88, 3) := by decide +kernel
theorem dX9_colourOfAsh_35 : decode cX9_colourOfAsh 35 = .ok (.istore 4, 2) := by decide +kernel
theorem dX9_colourOfAsh_37 : decode cX9_colourOfAsh 37 = .ok (.aload_n 1, 1) := by decide +kernel
theorem dX9_colourOfAsh_38 : decode cX9_colourOfAsh 38 = .ok (.getfield 85, 3) := by decide +kernel
theorem dX9_colourOfAsh_41 : decode cX9_colourOfAsh 41 = .ok (.tableswitch 71 1 6 #[39, 43, 47, 50, 56, 65], 39) := by decide +kernel
theorem dX9_colourOfAsh_80 : decode cX9_colourOfAsh 80 = .ok (.iload_n 3, 1) := by decide +kernel
theorem dX9_colourOfAsh_81 : decode cX9_colourOfAsh 81 = .ok (.iconst 1, 1) := by decide +kernel
theorem dX9_colourOfAsh_82 : decode cX9_colourOfAsh 82 = .ok (.iadd, 1) := by decide +kernel
theorem dX9_colourOfAsh_83 : decode cX9_colourOfAsh 83 = .ok (.ireturn, 1) := by decide +kernel
theorem dX9_colourOfAsh_84 : decode cX9_colourOfAsh 84 = .ok (.iload_n 3, 1) := by decide +kernel
theorem dX9_colourOfAsh_85 : decode cX9_colourOfAsh 85 = .ok (.iconst 2, 1) := by decide +kernel
theorem dX9_colourOfAsh_86 : decode cX9_colourOfAsh 86 = .ok (.imul, 1) := by decide +kernel
theorem dX9_colourOfAsh_87 : decode cX9_colourOfAsh 87 = .ok (.ireturn, 1) := by decide +kernel
theorem dX9_colourOfAsh_88 : decode cX9_colourOfAsh 88 = .ok (.iload 4, 2) := by decide +kernel
theorem dX9_colourOfAsh_90 : decode cX9_colourOfAsh 90 = .ok (.ireturn, 1) := by decide +kernel
theorem dX9_colourOfAsh_91 : decode cX9_colourOfAsh 91 = .ok (.iload_n 3, 1) := by decide +kernel
theorem dX9_colourOfAsh_92 : decode cX9_colourOfAsh 92 = .ok (.iconst 1, 1) := by decide +kernel
theorem dX9_colourOfAsh_93 : decode cX9_colourOfAsh 93 = .ok (.iadd, 1) := by decide +kernel
theorem dX9_colourOfAsh_94 : decode cX9_colourOfAsh 94 = .ok (.iload_n 2, 1) := by decide +kernel
theorem dX9_colourOfAsh_95 : decode cX9_colourOfAsh 95 = .ok (.iadd, 1) := by decide +kernel
theorem dX9_colourOfAsh_96 : decode cX9_colourOfAsh 96 = .ok (.ireturn, 1) := by decide +kernel
theorem dX9_colourOfAsh_97 : decode cX9_colourOfAsh 97 = .ok (.iload_n 3, 1) := by decide +kernel
theorem dX9_colourOfAsh_98 : decode cX9_colourOfAsh 98 = .ok (.iconst 2, 1) := by decide +kernel
theorem dX9_colourOfAsh_99 : decode cX9_colourOfAsh 99 = .ok (.imul, 1) := by decide +kernel
theorem dX9_colourOfAsh_100 : decode cX9_colourOfAsh 100 = .ok (.aload_n 1, 1) := by decide +kernel
theorem dX9_colourOfAsh_101 : decode cX9_colourOfAsh 101 = .ok (.getfield 88, 3) := by decide +kernel
theorem dX9_colourOfAsh_104 : decode cX9_colourOfAsh 104 = .ok (.isub, 1) := by decide +kernel
theorem dX9_colourOfAsh_105 : decode cX9_colourOfAsh 105 = .ok (.ireturn, 1) := by decide +kernel
theorem dX9_colourOfAsh_106 : decode cX9_colourOfAsh 106 = .ok (.bipush 9, 2) := by decide +kernel
theorem dX9_colourOfAsh_108 : decode cX9_colourOfAsh 108 = .ok (.iload 4, 2) := by decide +kernel
theorem dX9_colourOfAsh_110 : decode cX9_colourOfAsh 110 = .ok (.isub, 1) := by decide +kernel
theorem dX9_colourOfAsh_111 : decode cX9_colourOfAsh 111 = .ok (.ireturn, 1) := by decide +kernel
theorem dX9_colourOfAsh_112 : decode cX9_colourOfAsh 112 = .ok (.iload_n 3, 1) := by decide +kernel
theorem dX9_colourOfAsh_113 : decode cX9_colourOfAsh 113 = .ok (.ireturn, 1) := by decide +kernel
theorem dX9_restByTen_0 : decode cX9_restByTen 0 = .ok (.iload_n 0, 1) := by decide +kernel
theorem dX9_restByTen_1 : decode cX9_restByTen 1 = .ok (.bipush 10, 2) := by decide +kernel
theorem dX9_restByTen_3 : decode cX9_restByTen 3 = .ok (.irem, 1) := by decide +kernel
theorem dX9_restByTen_4 : decode cX9_restByTen 4 = .ok (.istore_n 1, 1) := by decide +kernel
theorem dX9_restByTen_5 : decode cX9_restByTen 5 = .ok (.iload_n 1, 1) := by decide +kernel
theorem dX9_restByTen_6 : decode cX9_restByTen 6 = .ok (.ifCond .ge 10, 3) := by decide +kernel
theorem dX9_restByTen_9 : decode cX9_restByTen 9 = .ok (.iload_n 1, 1) := by decide +kernel
theorem dX9_restByTen_10 : decode cX9_restByTen 10 = .ok (.bipush 10, 2) := by decide +kernel
theorem dX9_restByTen_12 : decode cX9_restByTen 12 = .ok (.iadd, 1) := by decide +kernel
theorem dX9_restByTen_13 : decode cX9_restByTen 13 = .ok (.goto 4, 3) := by decide +kernel
theorem dX9_restByTen_16 : decode cX9_restByTen 16 = .ok (.iload_n 1, 1) := by decide +kernel
theorem dX9_restByTen_17 : decode cX9_restByTen 17 = .ok (.ireturn, 1) := by decide +kernel
theorem dX9_colourOfMix_0 : decode cX9_colourOfMix 0 = .ok (.iconst 0, 1) := by decide +kernel
theorem dX9_colourOfMix_1 : decode cX9_colourOfMix 1 = .ok (.istore_n 3, 1) := by decide +kernel
theorem dX9_colourOfMix_2 : decode cX9_colourOfMix 2 = .ok (.iload_n 1, 1) := by decide +kernel
theorem dX9_colourOfMix_3 : decode cX9_colourOfMix 3 = .ok (.istore 4, 2) := by decide +kernel
theorem dX9_colourOfMix_5 : decode cX9_colourOfMix 5 = .ok (.iconst 0, 1) := by decide +kernel
theorem dX9_colourOfMix_6 : decode cX9_colourOfMix 6 = .ok (.istore 5, 2) := by decide +kernel
theorem dX9_colourOfMix_8 : decode cX9_colourOfMix 8 = .ok (.iload 5, 2) := by decide +kernel
theorem dX9_colourOfMix_10 : decode cX9_colourOfMix 10 = .ok (.aload_n 0, 1) := by decide +kernel
theorem dX9_colourOfMix_11 : decode cX9_colourOfMix 11 = .ok (.getfield 10, 3) := by decide +kernel
theorem dX9_colourOfMix_14 : decode cX9_colourOfMix 14 = .ok (.getfield 57, 3) := by decide +kernel
theorem dX9_colourOfMix_17 : decode cX9_colourOfMix 17 = .ok (.getfield 68, 3) := by decide +kernel
theorem dX9_colourOfMix_20 : decode cX9_colourOfMix 20 = .ok (.if_icmp .ge 67, 3) := by decide +kernel
theorem dX9_colourOfMix_23 : decode cX9_colourOfMix 23 = .ok (.iload 4, 2) := by decide +kernel
theorem dX9_colourOfMix_25 : decode cX9_colourOfMix 25 = .ok (.bipush 10, 2) := by decide +kernel
theorem dX9_colourOfMix_27 : decode cX9_colourOfMix 27 = .ok (.irem, 1) := by decide +kernel
theorem dX9_colourOfMix_28 : decode cX9_colourOfMix 28 = .ok (.istore 6, 2) := by decide +kernel
theorem dX9_colourOfMix_30 : decode cX9_colourOfMix 30 = .ok (.iload 4, 2) := by decide +kernel
theorem dX9_colourOfMix_32 : decode cX9_colourOfMix 32 = .ok (.bipush 10, 2) := by decide +kernel
theorem dX9_colourOfMix_34 : decode cX9_colourOfMix 34 = .ok (.idiv, 1) := by decide +kernel
theorem dX9_colourOfMix_35 : decode cX9_colourOfMix 35 = .ok (.istore 4, 2) := by decide +kernel
theorem dX9_colourOfMix_37 : decode cX9_colourOfMix 37 = .ok (.aload_n 0, 1) := by decide +kernel
theorem dX9_colourOfMix_38 : decode cX9_colourOfMix 38 = .ok (.getfield 10, 3) := by decide +kernel
theorem dX9_colourOfMix_41 : decode cX9_colourOfMix 41 = .ok (.getfield 57, 3) := by decide +kernel
theorem dX9_colourOfMix_44 : decode cX9_colourOfMix 44 = .ok (.getfield 72, 3) := by decide +kernel
theorem dX9_colourOfMix_47 : decode cX9_colourOfMix 47 = .ok (.iload 5, 2) := by decide +kernel
theorem dX9_colourOfMix_49 : decode cX9_colourOfMix 49 = .ok (.aaload, 1) := by decide +kernel
theorem dX9_colourOfMix_50 : decode cX9_colourOfMix 50 = .ok (.astore 7, 2) := by decide +kernel
theorem dX9_colourOfMix_52 : decode cX9_colourOfMix 52 = .ok (.iload 6, 2) := by decide +kernel
theorem dX9_colourOfMix_54 : decode cX9_colourOfMix 54 = .ok (.ifCond .le 14, 3) := by decide +kernel
theorem dX9_colourOfMix_57 : decode cX9_colourOfMix 57 = .ok (.aload 7, 2) := by decide +kernel
theorem dX9_colourOfMix_59 : decode cX9_colourOfMix 59 = .ok (.iload_n 2, 1) := by decide +kernel
theorem dX9_colourOfMix_60 : decode cX9_colourOfMix 60 = .ok (.invokevirtual 353, 3) := by decide +kernel
theorem dX9_colourOfMix_63 : decode cX9_colourOfMix 63 = .ok (.ifCond .eq 5, 3) := by decide +kernel
theorem dX9_colourOfMix_66 : decode cX9_colourOfMix 66 = .ok (.iconst (-1), 1) := by decide +kernel
theorem dX9_colourOfMix_67 : decode cX9_colourOfMix 67 = .ok (.ireturn, 1) := by decide +kernel
theorem dX9_colourOfMix_68 : decode cX9_colourOfMix 68 = .ok (.iload_n 3, 1) := by decide +kernel
theorem dX9_colourOfMix_69 : decode cX9_colourOfMix 69 = .ok (.iload 6, 2) := by decide +kernel
theorem dX9_colourOfMix_71 : decode cX9_colourOfMix 71 = .ok (.aload_n 0, 1) := by decide +kernel
theorem dX9_colourOfMix_72 : decode cX9_colourOfMix 72 = .ok (.aload 7, 2) := by decide +kernel
theorem dX9_colourOfMix_74 : decode cX9_colourOfMix 74 = .ok (.iload_n 2, 1) := by decide +kernel
theorem dX9_colourOfMix_75 : decode cX9_colourOfMix 75 = .ok (.invokevirtual 356, 3) := by decide +kernel
theorem dX9_colourOfMix_78 : decode cX9_colourOfMix 78 = .ok (.imul, 1) := by decide +kernel
theorem dX9_colourOfMix_79 : decode cX9_colourOfMix 79 = .ok (.iadd, 1) := by decide +kernel
theorem dX9_colourOfMix_80 : decode cX9_colourOfMix 80 = .ok (.istore_n 3, 1) := by decide +kernel
theorem dX9_colourOfMix_81 : decode cX9_colourOfMix 81 = .ok (.iinc 5 1, 3) := by decide +kernel
theorem dX9_colourOfMix_84 : decode cX9_colourOfMix 84 = .ok (.goto (-76), 3) := by decide +kernel
theorem dX9_colourOfMix_87 : decode cX9_colourOfMix 87 = .ok (.iload_n 3, 1) := by decide +kernel
theorem dX9_colourOfMix_88 : decode cX9_colourOfMix 88 = .ok (.invokestatic 360, 3) := by decide +kernel
theorem dX9_colourOfMix_91 : decode cX9_colourOfMix 91 = .ok (.ireturn, 1) := by decide +kernel
theorem dX9_heatsGiving_0 : decode cX9_heatsGiving 0 = .ok (.iconst 0, 1) := by decide +kernel
theorem dX9_heatsGiving_1 : decode cX9_heatsGiving 1 = .ok (.istore_n 3, 1) := by decide +kernel
theorem dX9_heatsGiving_2 : decode cX9_heatsGiving 2 = .ok (.iconst 0, 1) := by decide +kernel
theorem dX9_heatsGiving_3 : decode cX9_heatsGiving 3 = .ok (.istore 4, 2) := by decide +kernel
theorem dX9_heatsGiving_5 : decode cX9_heatsGiving 5 = .ok (.iload 4, 2) := by decide +kernel
theorem dX9_heatsGiving_7 : decode cX9_heatsGiving 7 = .ok (.bipush 10, 2) := by decide +kernel
theorem dX9_heatsGiving_9 : decode cX9_heatsGiving 9 = .ok (.if_icmp .ge 27, 3) := by decide +kernel
theorem dX9_heatsGiving_12 : decode cX9_heatsGiving 12 = .ok (.aload_n 0, 1) := by decide +kernel
theorem dX9_heatsGiving_13 : decode cX9_heatsGiving 13 = .ok (.iload_n 1, 1) := by decide +kernel
theorem dX9_heatsGiving_14 : decode cX9_heatsGiving 14 = .ok (.iload 4, 2) := by decide +kernel
theorem dX9_heatsGiving_16 : decode cX9_heatsGiving 16 = .ok (.invokevirtual 224, 3) := by decide +kernel
theorem dX9_heatsGiving_19 : decode cX9_heatsGiving 19 = .ok (.iload_n 2, 1) := by decide +kernel
theorem dX9_heatsGiving_20 : decode cX9_heatsGiving 20 = .ok (.if_icmp .ne 10, 3) := by decide +kernel
theorem dX9_heatsGiving_23 : decode cX9_heatsGiving 23 = .ok (.iload_n 3, 1) := by decide +kernel
theorem dX9_heatsGiving_24 : decode cX9_heatsGiving 24 = .ok (.iconst 1, 1) := by decide +kernel
theorem dX9_heatsGiving_25 : decode cX9_heatsGiving 25 = .ok (.iload 4, 2) := by decide +kernel
theorem dX9_heatsGiving_27 : decode cX9_heatsGiving 27 = .ok (.ishl, 1) := by decide +kernel
theorem dX9_heatsGiving_28 : decode cX9_heatsGiving 28 = .ok (.ior, 1) := by decide +kernel
theorem dX9_heatsGiving_29 : decode cX9_heatsGiving 29 = .ok (.istore_n 3, 1) := by decide +kernel
theorem dX9_heatsGiving_30 : decode cX9_heatsGiving 30 = .ok (.iinc 4 1, 3) := by decide +kernel
theorem dX9_heatsGiving_33 : decode cX9_heatsGiving 33 = .ok (.goto (-28), 3) := by decide +kernel
theorem dX9_heatsGiving_36 : decode cX9_heatsGiving 36 = .ok (.iload_n 3, 1) := by decide +kernel
theorem dX9_heatsGiving_37 : decode cX9_heatsGiving 37 = .ok (.ireturn, 1) := by decide +kernel
theorem dX9_canHaveGiven_0 : decode cX9_canHaveGiven 0 = .ok (.iconst 0, 1) := by decide +kernel
theorem dX9_canHaveGiven_1 : decode cX9_canHaveGiven 1 = .ok (.istore_n 3, 1) := by decide +kernel
theorem dX9_canHaveGiven_2 : decode cX9_canHaveGiven 2 = .ok (.iload_n 3, 1) := by decide +kernel
theorem dX9_canHaveGiven_3 : decode cX9_canHaveGiven 3 = .ok (.aload_n 2, 1) := by decide +kernel
theorem dX9_canHaveGiven_4 : decode cX9_canHaveGiven 4 = .ok (.getfield 265, 3) := by decide +kernel
theorem dX9_canHaveGiven_7 : decode cX9_canHaveGiven 7 = .ok (.if_icmp .ge 38, 3) := by decide +kernel
theorem dX9_canHaveGiven_10 : decode cX9_canHaveGiven 10 = .ok (.aload_n 2, 1) := by decide +kernel
theorem dX9_canHaveGiven_11 : decode cX9_canHaveGiven 11 = .ok (.getfield 315, 3) := by decide +kernel
theorem dX9_canHaveGiven_14 : decode cX9_canHaveGiven 14 = .ok (.iload_n 3, 1) := by decide +kernel
theorem dX9_canHaveGiven_15 : decode cX9_canHaveGiven 15 = .ok (.iaload, 1) := by decide +kernel
theorem dX9_canHaveGiven_16 : decode cX9_canHaveGiven 16 = .ok (.istore 4, 2) := by decide +kernel
theorem dX9_canHaveGiven_18 : decode cX9_canHaveGiven 18 = .ok (.iload 4, 2) := by decide +kernel
theorem dX9_canHaveGiven_20 : decode cX9_canHaveGiven 20 = .ok (.ifCond .lt 19, 3) := by decide +kernel
theorem dX9_canHaveGiven_23 : decode cX9_canHaveGiven 23 = .ok (.iload 4, 2) := by decide +kernel
theorem dX9_canHaveGiven_25 : decode cX9_canHaveGiven 25 = .ok (.aload_n 0, 1) := by decide +kernel
theorem dX9_canHaveGiven_26 : decode cX9_canHaveGiven 26 = .ok (.aload_n 1, 1) := by decide +kernel
theorem dX9_canHaveGiven_27 : decode cX9_canHaveGiven 27 = .ok (.iload_n 3, 1) := by decide +kernel
theorem dX9_canHaveGiven_28 : decode cX9_canHaveGiven 28 = .ok (.invokevirtual 356, 3) := by decide +kernel
theorem dX9_canHaveGiven_31 : decode cX9_canHaveGiven 31 = .ok (.invokestatic 360, 3) := by decide +kernel
theorem dX9_canHaveGiven_34 : decode cX9_canHaveGiven 34 = .ok (.if_icmp .eq 5, 3) := by decide +kernel
theorem dX9_canHaveGiven_37 : decode cX9_canHaveGiven 37 = .ok (.iconst 0, 1) := by decide +kernel
theorem dX9_canHaveGiven_38 : decode cX9_canHaveGiven 38 = .ok (.ireturn, 1) := by decide +kernel
theorem dX9_canHaveGiven_39 : decode cX9_canHaveGiven 39 = .ok (.iinc 3 1, 3) := by decide +kernel
theorem dX9_canHaveGiven_42 : decode cX9_canHaveGiven 42 = .ok (.goto (-40), 3) := by decide +kernel
theorem dX9_canHaveGiven_45 : decode cX9_canHaveGiven 45 = .ok (.iconst 1, 1) := by decide +kernel
theorem dX9_canHaveGiven_46 : decode cX9_canHaveGiven 46 = .ok (.ireturn, 1) := by decide +kernel
theorem dX9_prepareRecipes_0 : decode cX9_prepareRecipes 0 = .ok (.iconst 0, 1) := by decide +kernel
theorem dX9_prepareRecipes_1 : decode cX9_prepareRecipes 1 = .ok (.istore_n 3, 1) := by decide +kernel
theorem dX9_prepareRecipes_2 : decode cX9_prepareRecipes 2 = .ok (.iload_n 3, 1) := by decide +kernel
theorem dX9_prepareRecipes_3 : decode cX9_prepareRecipes 3 = .ok (.aload_n 0, 1) := by decide +kernel
theorem dX9_prepareRecipes_4 : decode cX9_prepareRecipes 4 = .ok (.getfield 10, 3) := by decide +kernel
theorem dX9_prepareRecipes_7 : decode cX9_prepareRecipes 7 = .ok (.getfield 57, 3) := by decide +kernel
theorem dX9_prepareRecipes_10 : decode cX9_prepareRecipes 10 = .ok (.getfield 68, 3) := by decide +kernel
theorem dX9_prepareRecipes_13 : decode cX9_prepareRecipes 13 = .ok (.if_icmp .ge 65, 3) := by decide +kernel
theorem dX9_prepareRecipes_16 : decode cX9_prepareRecipes 16 = .ok (.aload_n 0, 1) := by decide +kernel
theorem dX9_prepareRecipes_17 : decode cX9_prepareRecipes 17 = .ok (.getfield 10, 3) := by decide +kernel
theorem dX9_prepareRecipes_20 : decode cX9_prepareRecipes 20 = .ok (.getfield 57, 3) := by decide +kernel
theorem dX9_prepareRecipes_23 : decode cX9_prepareRecipes 23 = .ok (.getfield 72, 3) := by decide +kernel
theorem dX9_prepareRecipes_26 : decode cX9_prepareRecipes 26 = .ok (.iload_n 3, 1) := by decide +kernel
theorem dX9_prepareRecipes_27 : decode cX9_prepareRecipes 27 = .ok (.aaload, 1) := by decide +kernel
theorem dX9_prepareRecipes_28 : decode cX9_prepareRecipes 28 = .ok (.astore 4, 2) := by decide +kernel
theorem dX9_prepareRecipes_30 : decode cX9_prepareRecipes 30 = .ok (.aload_n 0, 1) := by decide +kernel
theorem dX9_prepareRecipes_31 : decode cX9_prepareRecipes 31 = .ok (.getfield 50, 3) := by decide +kernel
theorem dX9_prepareRecipes_34 : decode cX9_prepareRecipes 34 = .ok (.iload_n 3, 1) := by decide +kernel
theorem dX9_prepareRecipes_35 : decode cX9_prepareRecipes 35 = .ok (.aload_n 0, 1) := by decide +kernel
theorem dX9_prepareRecipes_36 : decode cX9_prepareRecipes 36 = .ok (.aload 4, 2) := by decide +kernel
theorem dX9_prepareRecipes_38 : decode cX9_prepareRecipes 38 = .ok (.iload_n 2, 1) := by decide +kernel
theorem dX9_prepareRecipes_39 : decode cX9_prepareRecipes 39 = .ok (.invokevirtual 356, 3) := by decide +kernel
theorem dX9_prepareRecipes_42 : decode cX9_prepareRecipes 42 = .ok (.iastore, 1) := by decide +kernel
theorem dX9_prepareRecipes_43 : decode cX9_prepareRecipes 43 = .ok (.aload_n 0, 1) := by decide +kernel
theorem dX9_prepareRecipes_44 : decode cX9_prepareRecipes 44 = .ok (.getfield 53, 3) := by decide +kernel
theorem dX9_prepareRecipes_47 : decode cX9_prepareRecipes 47 = .ok (.iload_n 3, 1) := by decide +kernel
theorem dX9_prepareRecipes_48 : decode cX9_prepareRecipes 48 = .ok (.aload 4, 2) := by decide +kernel
theorem dX9_prepareRecipes_50 : decode cX9_prepareRecipes 50 = .ok (.iload_n 2, 1) := by decide +kernel
theorem dX9_prepareRecipes_51 : decode cX9_prepareRecipes 51 = .ok (.invokevirtual 353, 3) := by decide +kernel
theorem dX9_prepareRecipes_54 : decode cX9_prepareRecipes 54 = .ok (.ifCond .eq 7, 3) := by decide +kernel
theorem dX9_prepareRecipes_57 : decode cX9_prepareRecipes 57 = .ok (.iconst 0, 1) := by decide +kernel
theorem dX9_prepareRecipes_58 : decode cX9_prepareRecipes 58 = .ok (.goto 13, 3) := by decide +kernel
theorem dX9_prepareRecipes_61 : decode cX9_prepareRecipes 61 = .ok (.iconst 3, 1) := by decide +kernel
theorem dX9_prepareRecipes_62 : decode cX9_prepareRecipes 62 = .ok (.aload_n 1, 1) := by decide +kernel
theorem dX9_prepareRecipes_63 : decode cX9_prepareRecipes 63 = .ok (.getfield 134, 3) := by decide +kernel
theorem dX9_prepareRecipes_66 : decode cX9_prepareRecipes 66 = .ok (.iload_n 3, 1) := by decide +kernel
theorem dX9_prepareRecipes_67 : decode cX9_prepareRecipes 67 = .ok (.iaload, 1) := by decide +kernel
theorem dX9_prepareRecipes_68 : decode cX9_prepareRecipes 68 = .ok (.invokestatic 273, 3) := by decide +kernel
theorem dX9_prepareRecipes_71 : decode cX9_prepareRecipes 71 = .ok (.iastore, 1) := by decide +kernel
theorem dX9_prepareRecipes_72 : decode cX9_prepareRecipes 72 = .ok (.iinc 3 1, 3) := by decide +kernel
theorem dX9_prepareRecipes_75 : decode cX9_prepareRecipes 75 = .ok (.goto (-73), 3) := by decide +kernel
theorem dX9_prepareRecipes_78 : decode cX9_prepareRecipes 78 = .ok (.return_, 1) := by decide +kernel
theorem dX9_fewestFor_0 : decode cX9_fewestFor 0 = .ok (.aload_n 0, 1) := by decide +kernel
theorem dX9_fewestFor_1 : decode cX9_fewestFor 1 = .ok (.getfield 10, 3) := by decide +kernel
theorem dX9_fewestFor_4 : decode cX9_fewestFor 4 = .ok (.getfield 57, 3) := by decide +kernel
theorem dX9_fewestFor_7 : decode cX9_fewestFor 7 = .ok (.getfield 68, 3) := by decide +kernel
theorem dX9_fewestFor_10 : decode cX9_fewestFor 10 = .ok (.istore_n 2, 1) := by decide +kernel
theorem dX9_fewestFor_11 : decode cX9_fewestFor 11 = .ok (.iconst 1, 1) := by decide +kernel
theorem dX9_fewestFor_12 : decode cX9_fewestFor 12 = .ok (.iconst 2, 1) := by decide +kernel
theorem dX9_fewestFor_13 : decode cX9_fewestFor 13 = .ok (.iload_n 2, 1) := by decide +kernel
theorem dX9_fewestFor_14 : decode cX9_fewestFor 14 = .ok (.imul, 1) := by decide +kernel
theorem dX9_fewestFor_15 : decode cX9_fewestFor 15 = .ok (.ishl, 1) := by decide +kernel
theorem dX9_fewestFor_16 : decode cX9_fewestFor 16 = .ok (.istore_n 3, 1) := by decide +kernel
theorem dX9_fewestFor_17 : decode cX9_fewestFor 17 = .ok (.iconst 0, 1) := by decide +kernel
theorem dX9_fewestFor_18 : decode cX9_fewestFor 18 = .ok (.istore 4, 2) := by decide +kernel
theorem dX9_fewestFor_20 : decode cX9_fewestFor 20 = .ok (.iconst 0, 1) := by decide +kernel
theorem dX9_fewestFor_21 : decode cX9_fewestFor 21 = .ok (.istore 5, 2) := by decide +kernel
theorem dX9_fewestFor_23 : decode cX9_fewestFor 23 = .ok (.iconst 1, 1) := by decide +kernel
theorem dX9_fewestFor_24 : decode cX9_fewestFor 24 = .ok (.istore 6, 2) := by decide +kernel
theorem dX9_fewestFor_26 : decode cX9_fewestFor 26 = .ok (.iload 6, 2) := by decide +kernel
theorem dX9_fewestFor_28 : decode cX9_fewestFor 28 = .ok (.iload_n 3, 1) := by decide +kernel
theorem dX9_fewestFor_29 : decode cX9_fewestFor 29 = .ok (.if_icmp .ge 56, 3) := by decide +kernel
theorem dX9_fewestFor_32 : decode cX9_fewestFor 32 = .ok (.aload_n 0, 1) := by decide +kernel
theorem dX9_fewestFor_33 : decode cX9_fewestFor 33 = .ok (.iload 6, 2) := by decide +kernel
theorem dX9_fewestFor_35 : decode cX9_fewestFor 35 = .ok (.invokevirtual 363, 3) := by decide +kernel
theorem dX9_fewestFor_38 : decode cX9_fewestFor 38 = .ok (.istore 7, 2) := by decide +kernel
theorem dX9_fewestFor_40 : decode cX9_fewestFor 40 = .ok (.iload 7, 2) := by decide +kernel
theorem dX9_fewestFor_42 : decode cX9_fewestFor 42 = .ok (.ifCond .le 37, 3) := by decide +kernel
theorem dX9_fewestFor_45 : decode cX9_fewestFor 45 = .ok (.iload 4, 2) := by decide +kernel
theorem dX9_fewestFor_47 : decode cX9_fewestFor 47 = .ok (.ifCond .eq 10, 3) := by decide +kernel
theorem dX9_fewestFor_50 : decode cX9_fewestFor 50 = .ok (.iload 7, 2) := by decide +kernel
theorem dX9_fewestFor_52 : decode cX9_fewestFor 52 = .ok (.iload 5, 2) := by decide +kernel
theorem dX9_fewestFor_54 : decode cX9_fewestFor 54 = .ok (.if_icmp .ge 25, 3) := by decide +kernel
theorem dX9_fewestFor_57 : decode cX9_fewestFor 57 = .ok (.aload_n 0, 1) := by decide +kernel
theorem dX9_fewestFor_58 : decode cX9_fewestFor 58 = .ok (.iload 6, 2) := by decide +kernel
theorem dX9_fewestFor_60 : decode cX9_fewestFor 60 = .ok (.invokevirtual 366, 3) := by decide +kernel
theorem dX9_fewestFor_63 : decode cX9_fewestFor 63 = .ok (.iload_n 1, 1) := by decide +kernel
theorem dX9_fewestFor_64 : decode cX9_fewestFor 64 = .ok (.if_icmp .ne 15, 3) := by decide +kernel
theorem dX9_fewestFor_67 : decode cX9_fewestFor 67 = .ok (.aload_n 0, 1) := by decide +kernel
theorem dX9_fewestFor_68 : decode cX9_fewestFor 68 = .ok (.iload 6, 2) := by decide +kernel
theorem dX9_fewestFor_70 : decode cX9_fewestFor 70 = .ok (.invokevirtual 369, 3) := by decide +kernel
theorem dX9_fewestFor_73 : decode cX9_fewestFor 73 = .ok (.istore 4, 2) := by decide +kernel
theorem dX9_fewestFor_75 : decode cX9_fewestFor 75 = .ok (.iload 7, 2) := by decide +kernel
theorem dX9_fewestFor_77 : decode cX9_fewestFor 77 = .ok (.istore 5, 2) := by decide +kernel
theorem dX9_fewestFor_79 : decode cX9_fewestFor 79 = .ok (.iinc 6 1, 3) := by decide +kernel
theorem dX9_fewestFor_82 : decode cX9_fewestFor 82 = .ok (.goto (-56), 3) := by decide +kernel
theorem dX9_fewestFor_85 : decode cX9_fewestFor 85 = .ok (.iload 4, 2) := by decide +kernel
theorem dX9_fewestFor_87 : decode cX9_fewestFor 87 = .ok (.ireturn, 1) := by decide +kernel
theorem dX9_bushelsOfChoice_0 : decode cX9_bushelsOfChoice 0 = .ok (.iconst 0, 1) := by decide +kernel
theorem dX9_bushelsOfChoice_1 : decode cX9_bushelsOfChoice 1 = .ok (.istore_n 2, 1) := by decide +kernel
theorem dX9_bushelsOfChoice_2 : decode cX9_bushelsOfChoice 2 = .ok (.iconst 0, 1) := by decide +kernel
theorem dX9_bushelsOfChoice_3 : decode cX9_bushelsOfChoice 3 = .ok (.istore_n 3, 1) := by decide +kernel
theorem dX9_bushelsOfChoice_4 : decode cX9_bushelsOfChoice 4 = .ok (.iload_n 3, 1) := by decide +kernel
theorem dX9_bushelsOfChoice_5 : decode cX9_bushelsOfChoice 5 = .ok (.aload_n 0, 1) := by decide +kernel
theorem dX9_bushelsOfChoice_6 : decode cX9_bushelsOfChoice 6 = .ok (.getfield 10, 3) := by decide +kernel
theorem dX9_bushelsOfChoice_9 : decode cX9_bushelsOfChoice 9 = .ok (.getfield 57, 3) := by decide +kernel
theorem dX9_bushelsOfChoice_12 : decode cX9_bushelsOfChoice 12 = .ok (.getfield 68, 3) := by decide +kernel
theorem dX9_bushelsOfChoice_15 : decode cX9_bushelsOfChoice 15 = .ok (.if_icmp .ge 36, 3) := by decide +kernel
theorem dX9_bushelsOfChoice_18 : decode cX9_bushelsOfChoice 18 = .ok (.iload_n 1, 1) := by decide +kernel
theorem dX9_bushelsOfChoice_19 : decode cX9_bushelsOfChoice 19 = .ok (.iconst 2, 1) := by decide +kernel
theorem dX9_bushelsOfChoice_20 : decode cX9_bushelsOfChoice 20 = .ok (.iload_n 3, 1) := by decide +kernel
theorem dX9_bushelsOfChoice_21 : decode cX9_bushelsOfChoice 21 = .ok (.imul, 1) := by decide +kernel
theorem dX9_bushelsOfChoice_22 : decode cX9_bushelsOfChoice 22 = .ok (.ishr, 1) := by decide +kernel
theorem dX9_bushelsOfChoice_23 : decode cX9_bushelsOfChoice 23 = .ok (.iconst 3, 1) := by decide +kernel
theorem dX9_bushelsOfChoice_24 : decode cX9_bushelsOfChoice 24 = .ok (.iand, 1) := by decide +kernel
theorem dX9_bushelsOfChoice_25 : decode cX9_bushelsOfChoice 25 = .ok (.istore 4, 2) := by decide +kernel
theorem dX9_bushelsOfChoice_27 : decode cX9_bushelsOfChoice 27 = .ok (.iload 4, 2) := by decide +kernel
theorem dX9_bushelsOfChoice_29 : decode cX9_bushelsOfChoice 29 = .ok (.aload_n 0, 1) := by decide +kernel
theorem dX9_bushelsOfChoice_30 : decode cX9_bushelsOfChoice 30 = .ok (.getfield 53, 3) := by decide +kernel
theorem dX9_bushelsOfChoice_33 : decode cX9_bushelsOfChoice 33 = .ok (.iload_n 3, 1) := by decide +kernel
theorem dX9_bushelsOfChoice_34 : decode cX9_bushelsOfChoice 34 = .ok (.iaload, 1) := by decide +kernel
theorem dX9_bushelsOfChoice_35 : decode cX9_bushelsOfChoice 35 = .ok (.if_icmp .le 5, 3) := by decide +kernel
theorem dX9_bushelsOfChoice_38 : decode cX9_bushelsOfChoice 38 = .ok (.iconst 0, 1) := by decide +kernel
theorem dX9_bushelsOfChoice_39 : decode cX9_bushelsOfChoice 39 = .ok (.ireturn, 1) := by decide +kernel
theorem dX9_bushelsOfChoice_40 : decode cX9_bushelsOfChoice 40 = .ok (.iload_n 2, 1) := by decide +kernel
theorem dX9_bushelsOfChoice_41 : decode cX9_bushelsOfChoice 41 = .ok (.iload 4, 2) := by decide +kernel
theorem dX9_bushelsOfChoice_43 : decode cX9_bushelsOfChoice 43 = .ok (.iadd, 1) := by decide +kernel
theorem dX9_bushelsOfChoice_44 : decode cX9_bushelsOfChoice 44 = .ok (.istore_n 2, 1) := by decide +kernel
theorem dX9_bushelsOfChoice_45 : decode cX9_bushelsOfChoice 45 = .ok (.iinc 3 1, 3) := by decide +kernel
theorem dX9_bushelsOfChoice_48 : decode cX9_bushelsOfChoice 48 = .ok (.goto (-44), 3) := by decide +kernel
theorem dX9_bushelsOfChoice_51 : decode cX9_bushelsOfChoice 51 = .ok (.iload_n 2, 1) := by decide +kernel
theorem dX9_bushelsOfChoice_52 : decode cX9_bushelsOfChoice 52 = .ok (.ireturn, 1) := by decide +kernel
theorem dX9_colourOfChoice_0 : decode cX9_colourOfChoice 0 = .ok (.iconst 0, 1) := by decide +kernel
theorem dX9_colourOfChoice_1 : decode cX9_colourOfChoice 1 = .ok (.istore_n 2, 1) := by decide +kernel
theorem dX9_colourOfChoice_2 : decode cX9_colourOfChoice 2 = .ok (.iconst 0, 1) := by decide +kernel
theorem dX9_colourOfChoice_3 : decode cX9_colourOfChoice 3 = .ok (.istore_n 3, 1) := by decide +kernel
theorem dX9_colourOfChoice_4 : decode cX9_colourOfChoice 4 = .ok (.iload_n 3, 1) := by decide +kernel
theorem dX9_colourOfChoice_5 : decode cX9_colourOfChoice 5 = .ok (.aload_n 0, 1) := by decide +kernel
theorem dX9_colourOfChoice_6 : decode cX9_colourOfChoice 6 = .ok (.getfield 10, 3) := by decide +kernel
theorem dX9_colourOfChoice_9 : decode cX9_colourOfChoice 9 = .ok (.getfield 57, 3) := by decide +kernel
theorem dX9_colourOfChoice_12 : decode cX9_colourOfChoice 12 = .ok (.getfield 68, 3) := by decide +kernel
theorem dX9_colourOfChoice_15 : decode cX9_colourOfChoice 15 = .ok (.if_icmp .ge 26, 3) := by decide +kernel
theorem dX9_colourOfChoice_18 : decode cX9_colourOfChoice 18 = .ok (.iload_n 2, 1) := by decide +kernel
theorem dX9_colourOfChoice_19 : decode cX9_colourOfChoice 19 = .ok (.iload_n 1, 1) := by decide +kernel
theorem dX9_colourOfChoice_20 : decode cX9_colourOfChoice 20 = .ok (.iconst 2, 1) := by decide +kernel
theorem dX9_colourOfChoice_21 : decode cX9_colourOfChoice 21 = .ok (.iload_n 3, 1) := by decide +kernel
theorem dX9_colourOfChoice_22 : decode cX9_colourOfChoice 22 = .ok (.imul, 1) := by decide +kernel
theorem dX9_colourOfChoice_23 : decode cX9_colourOfChoice 23 = .ok (.ishr, 1) := by decide +kernel
theorem dX9_colourOfChoice_24 : decode cX9_colourOfChoice 24 = .ok (.iconst 3, 1) := by decide +kernel
theorem dX9_colourOfChoice_25 : decode cX9_colourOfChoice 25 = .ok (.iand, 1) := by decide +kernel
theorem dX9_colourOfChoice_26 : decode cX9_colourOfChoice 26 = .ok (.aload_n 0, 1) := by decide +kernel
theorem dX9_colourOfChoice_27 : decode cX9_colourOfChoice 27 = .ok (.getfield 50, 3) := by decide +kernel
theorem dX9_colourOfChoice_30 : decode cX9_colourOfChoice 30 = .ok (.iload_n 3, 1) := by decide +kernel
theorem dX9_colourOfChoice_31 : decode cX9_colourOfChoice 31 = .ok (.iaload, 1) := by decide +kernel
theorem dX9_colourOfChoice_32 : decode cX9_colourOfChoice 32 = .ok (.imul, 1) := by decide +kernel
theorem dX9_colourOfChoice_33 : decode cX9_colourOfChoice 33 = .ok (.iadd, 1) := by decide +kernel
theorem dX9_colourOfChoice_34 : decode cX9_colourOfChoice 34 = .ok (.istore_n 2, 1) := by decide +kernel
theorem dX9_colourOfChoice_35 : decode cX9_colourOfChoice 35 = .ok (.iinc 3 1, 3) := by decide +kernel
theorem dX9_colourOfChoice_38 : decode cX9_colourOfChoice 38 = .ok (.goto (-34), 3) := by decide +kernel
theorem dX9_colourOfChoice_41 : decode cX9_colourOfChoice 41 = .ok (.iload_n 2, 1) := by decide +kernel
theorem dX9_colourOfChoice_42 : decode cX9_colourOfChoice 42 = .ok (.invokestatic 360, 3) := by decide +kernel
theorem dX9_colourOfChoice_45 : decode cX9_colourOfChoice 45 = .ok (.ireturn, 1) := by decide +kernel
theorem dX9_mixOfChoice_0 : decode cX9_mixOfChoice 0 = .ok (.iconst 0, 1) := by decide +kernel
theorem dX9_mixOfChoice_1 : decode cX9_mixOfChoice 1 = .ok (.istore_n 2, 1) := by decide +kernel
theorem dX9_mixOfChoice_2 : decode cX9_mixOfChoice 2 = .ok (.iconst 0, 1) := by decide +kernel
theorem dX9_mixOfChoice_3 : decode cX9_mixOfChoice 3 = .ok (.istore_n 3, 1) := by decide +kernel
theorem dX9_mixOfChoice_4 : decode cX9_mixOfChoice 4 = .ok (.iload_n 3, 1) := by decide +kernel
theorem dX9_mixOfChoice_5 : decode cX9_mixOfChoice 5 = .ok (.aload_n 0, 1) := by decide +kernel
theorem dX9_mixOfChoice_6 : decode cX9_mixOfChoice 6 = .ok (.getfield 10, 3) := by decide +kernel
theorem dX9_mixOfChoice_9 : decode cX9_mixOfChoice 9 = .ok (.getfield 57, 3) := by decide +kernel
theorem dX9_mixOfChoice_12 : decode cX9_mixOfChoice 12 = .ok (.getfield 68, 3) := by decide +kernel
theorem dX9_mixOfChoice_15 : decode cX9_mixOfChoice 15 = .ok (.if_icmp .ge 25, 3) := by decide +kernel
theorem dX9_mixOfChoice_18 : decode cX9_mixOfChoice 18 = .ok (.iload_n 2, 1) := by decide +kernel
theorem dX9_mixOfChoice_19 : decode cX9_mixOfChoice 19 = .ok (.iload_n 1, 1) := by decide +kernel
theorem dX9_mixOfChoice_20 : decode cX9_mixOfChoice 20 = .ok (.iconst 2, 1) := by decide +kernel
theorem dX9_mixOfChoice_21 : decode cX9_mixOfChoice 21 = .ok (.iload_n 3, 1) := by decide +kernel
theorem dX9_mixOfChoice_22 : decode cX9_mixOfChoice 22 = .ok (.imul, 1) := by decide +kernel
theorem dX9_mixOfChoice_23 : decode cX9_mixOfChoice 23 = .ok (.ishr, 1) := by decide +kernel
theorem dX9_mixOfChoice_24 : decode cX9_mixOfChoice 24 = .ok (.iconst 3, 1) := by decide +kernel
theorem dX9_mixOfChoice_25 : decode cX9_mixOfChoice 25 = .ok (.iand, 1) := by decide +kernel
theorem dX9_mixOfChoice_26 : decode cX9_mixOfChoice 26 = .ok (.getstatic 340, 3) := by decide +kernel
theorem dX9_mixOfChoice_29 : decode cX9_mixOfChoice 29 = .ok (.iload_n 3, 1) := by decide +kernel
theorem dX9_mixOfChoice_30 : decode cX9_mixOfChoice 30 = .ok (.iaload, 1) := by decide +kernel
theorem dX9_mixOfChoice_31 : decode cX9_mixOfChoice 31 = .ok (.imul, 1) := by decide +kernel
theorem dX9_mixOfChoice_32 : decode cX9_mixOfChoice 32 = .ok (.iadd, 1) := by decide +kernel
theorem dX9_mixOfChoice_33 : decode cX9_mixOfChoice 33 = .ok (.istore_n 2, 1) := by decide +kernel
theorem dX9_mixOfChoice_34 : decode cX9_mixOfChoice 34 = .ok (.iinc 3 1, 3) := by decide +kernel
theorem dX9_mixOfChoice_37 : decode cX9_mixOfChoice 37 = .ok (.goto (-33), 3) := by decide +kernel
theorem dX9_mixOfChoice_40 : decode cX9_mixOfChoice 40 = .ok (.iload_n 2, 1) := by decide +kernel
theorem dX9_mixOfChoice_41 : decode cX9_mixOfChoice 41 = .ok (.ireturn, 1) := by decide +kernel
theorem dX10_init_0 : decode cX10_init 0 = .ok (.aload_n 0, 1) := by decide +kernel
theorem dX10_init_1 : decode cX10_init 1 = .ok (.invokespecial 3, 3) := by decide +kernel
theorem dX10_init_4 : decode cX10_init 4 = .ok (.aload_n 0, 1) := by decide +kernel
theorem dX10_init_5 : decode cX10_init 5 = .ok (.sipush 279, 3) := by decide +kernel
theorem dX10_init_8 : decode cX10_init 8 = .ok (.newarray .int, 2) := by decide +kernel
theorem dX10_init_10 : decode cX10_init 10 = .ok (.putfield 9, 3) := by decide +kernel
theorem dX10_init_13 : decode cX10_init 13 = .ok (.aload_n 0, 1) := by decide +kernel
theorem dX10_init_14 : decode cX10_init 14 = .ok (.sipush 279, 3) := by decide +kernel
theorem dX10_init_17 : decode cX10_init 17 = .ok (.newarray .int, 2) := by decide +kernel
theorem dX10_init_19 : decode cX10_init 19 = .ok (.putfield 13, 3) := by decide +kernel
theorem dX10_init_22 : decode cX10_init 22 = .ok (.aload_n 0, 1) := by decide +kernel
theorem dX10_init_23 : decode cX10_init 23 = .ok (.sipush 279, 3) := by decide +kernel
theorem dX10_init_26 : decode cX10_init 26 = .ok (.newarray .int, 2) := by decide +kernel
theorem dX10_init_28 : decode cX10_init 28 = .ok (.putfield 16, 3) := by decide +kernel
theorem dX10_init_31 : decode cX10_init 31 = .ok (.aload_n 0, 1) := by decide +kernel
theorem dX10_init_32 : decode cX10_init 32 = .ok (.bipush 6, 2) := by decide +kernel
theorem dX10_init_34 : decode cX10_init 34 = .ok (.newarray .int, 2) := by decide +kernel
theorem dX10_init_36 : decode cX10_init 36 = .ok (.putfield 19, 3) := by decide +kernel
theorem dX10_init_39 : decode cX10_init 39 = .ok (.aload_n 0, 1) := by decide +kernel
theorem dX10_init_40 : decode cX10_init 40 = .ok (.iconst 2, 1) := by decide +kernel
theorem dX10_init_41 : decode cX10_init 41 = .ok (.anewarray 22, 3) := by decide +kernel
theorem dX10_init_44 : decode cX10_init 44 = .ok (.dup, 1) := by decide +kernel
theorem dX10_init_45 : decode cX10_init 45 = .ok (.iconst 0, 1) := by decide +kernel
theorem dX10_init_46 : decode cX10_init 46 = .ok (.ldc 24, 2) := by decide +kernel
theorem dX10_init_48 : decode cX10_init 48 = .ok (.aastore, 1) := by decide +kernel
theorem dX10_init_49 : decode cX10_init 49 = .ok (.dup, 1) := by decide +kernel
theorem dX10_init_50 : decode cX10_init 50 = .ok (.iconst 1, 1) := by decide +kernel
theorem dX10_init_51 : decode cX10_init 51 = .ok (.ldc 26, 2) := by decide +kernel
theorem dX10_init_53 : decode cX10_init 53 = .ok (.aastore, 1) := by decide +kernel
theorem dX10_init_54 : decode cX10_init 54 = .ok (.putfield 28, 3) := by decide +kernel
theorem dX10_init_57 : decode cX10_init 57 = .ok (.aload_n 0, 1) := by decide +kernel
theorem dX10_init_58 : decode cX10_init 58 = .ok (.bipush 60, 2) := by decide +kernel
theorem dX10_init_60 : decode cX10_init 60 = .ok (.newarray .int, 2) := by decide +kernel
theorem dX10_init_62 : decode cX10_init 62 = .ok (.putfield 32, 3) := by decide +kernel
theorem dX10_init_65 : decode cX10_init 65 = .ok (.aload_n 0, 1) := by decide +kernel
theorem dX10_init_66 : decode cX10_init 66 = .ok (.iconst 4, 1) := by decide +kernel
theorem dX10_init_67 : decode cX10_init 67 = .ok (.newarray .int, 2) := by decide +kernel
theorem dX10_init_69 : decode cX10_init 69 = .ok (.putfield 35, 3) := by decide +kernel
theorem dX10_init_72 : decode cX10_init 72 = .ok (.aload_n 0, 1) := by decide +kernel
theorem dX10_init_73 : decode cX10_init 73 = .ok (.bipush 60, 2) := by decide +kernel
theorem dX10_init_75 : decode cX10_init 75 = .ok (.newarray .int, 2) := by decide +kernel
theorem dX10_init_77 : decode cX10_init 77 = .ok (.putfield 38, 3) := by decide +kernel
theorem dX10_init_80 : decode cX10_init 80 = .ok (.aload_n 0, 1) := by decide +kernel
theorem dX10_init_81 : decode cX10_init 81 = .ok (.bipush 40, 2) := by decide +kernel
theorem dX10_init_83 : decode cX10_init 83 = .ok (.newarray .int, 2) := by decide +kernel
theorem dX10_init_85 : decode cX10_init 85 = .ok (.putfield 41, 3) := by decide +kernel
theorem dX10_init_88 : decode cX10_init 88 = .ok (.aload_n 0, 1) := by decide +kernel
theorem dX10_init_89 : decode cX10_init 89 = .ok (.iconst 4, 1) := by decide +kernel
theorem dX10_init_90 : decode cX10_init 90 = .ok (.newarray .int, 2) := by decide +kernel
theorem dX10_init_92 : decode cX10_init 92 = .ok (.putfield 44, 3) := by decide +kernel
theorem dX10_init_95 : decode cX10_init 95 = .ok (.aload_n 0, 1) := by decide +kernel
theorem dX10_init_96 : decode cX10_init 96 = .ok (.iconst 4, 1) := by decide +kernel
theorem dX10_init_97 : decode cX10_init 97 = .ok (.newarray .int, 2) := by decide +kernel
theorem dX10_init_99 : decode cX10_init 99 = .ok (.putfield 47, 3) := by decide +kernel
theorem dX10_init_102 : decode cX10_init 102 = .ok (.aload_n 0, 1) := by decide +kernel
theorem dX10_init_103 : decode cX10_init 103 = .ok (.sipush 160, 3) := by decide +kernel
theorem dX10_init_106 : decode cX10_init 106 = .ok (.newarray .int, 2) := by decide +kernel
theorem dX10_init_108 : decode cX10_init 108 = .ok (.putfield 50, 3) := by decide +kernel
theorem dX10_init_111 : decode cX10_init 111 = .ok (.aload_n 0, 1) := by decide +kernel
theorem dX10_init_112 : decode cX10_init 112 = .ok (.bipush 40, 2) := by decide +kernel
theorem dX10_init_114 : decode cX10_init 114 = .ok (.newarray .int, 2) := by decide +kernel
theorem dX10_init_116 : decode cX10_init 116 = .ok (.putfield 53, 3) := by decide +kernel
theorem dX10_init_119 : decode cX10_init 119 = .ok (.aload_n 0, 1) := by decide +kernel
theorem dX10_init_120 : decode cX10_init 120 = .ok (.getfield 9, 3) := by decide +kernel
theorem dX10_init_123 : decode cX10_init 123 = .ok (.iconst 4, 1) := by decide +kernel
theorem dX10_init_124 : decode cX10_init 124 = .ok (.iconst 1, 1) := by decide +kernel
theorem dX10_init_125 : decode cX10_init 125 = .ok (.iastore, 1) := by decide +kernel
theorem dX10_init_126 : decode cX10_init 126 = .ok (.return_, 1) := by decide +kernel
theorem dX10_finding_0 : decode cX10_finding 0 = .ok (.aload_n 0, 1) := by decide +kernel
theorem dX10_finding_1 : decode cX10_finding 1 = .ok (.getfield 19, 3) := by decide +kernel
theorem dX10_finding_4 : decode cX10_finding 4 = .ok (.ldc 56, 2) := by decide +kernel
theorem dX10_finding_6 : decode cX10_finding 6 = .ok (.iload_n 1, 1) := by decide +kernel
theorem dX10_finding_7 : decode cX10_finding 7 = .ok (.isub, 1) := by decide +kernel
theorem dX10_finding_8 : decode cX10_finding 8 = .ok (.dup2, 1) := by decide +kernel
theorem dX10_finding_9 : decode cX10_finding 9 = .ok (.iaload, 1) := by decide +kernel
theorem dX10_finding_10 : decode cX10_finding 10 = .ok (.iconst 1, 1) := by decide +kernel
theorem dX10_finding_11 : decode cX10_finding 11 = .ok (.iadd, 1) := by decide +kernel
theorem dX10_finding_12 : decode cX10_finding 12 = .ok (.iastore, 1) := by decide +kernel
theorem dX10_finding_13 : decode cX10_finding 13 = .ok (.iload_n 1, 1) := by decide +kernel
theorem dX10_finding_14 : decode cX10_finding 14 = .ok (.ireturn, 1) := by decide +kernel
theorem dX10_within_0 : decode cX10_within 0 = .ok (.iload_n 0, 1) := by decide +kernel
theorem dX10_within_1 : decode cX10_within 1 = .ok (.iload_n 1, 1) := by decide +kernel
theorem dX10_within_2 : decode cX10_within 2 = .ok (.if_icmp .lt 12, 3) := by decide +kernel
theorem dX10_within_5 : decode cX10_within 5 = .ok (.iload_n 0, 1) := by decide +kernel
theorem dX10_within_6 : decode cX10_within 6 = .ok (.iload_n 2, 1) := by decide +kernel
theorem dX10_within_7 : decode cX10_within 7 = .ok (.if_icmp .gt 7, 3) := by decide +kernel
theorem dX10_within_10 : decode cX10_within 10 = .ok (.iconst 1, 1) := by decide +kernel
theorem dX10_within_11 : decode cX10_within 11 = .ok (.goto 4, 3) := by decide +kernel
theorem dX10_within_14 : decode cX10_within 14 = .ok (.iconst 0, 1) := by decide +kernel
theorem dX10_within_15 : decode cX10_within 15 = .ok (.ireturn, 1) := by decide +kernel
theorem dX10_held_0 : decode cX10_held 0 = .ok (.iload_n 1, 1) := by decide +kernel
theorem dX10_held_1 : decode cX10_held 1 = .ok (.iload_n 2, 1) := by decide +kernel
theorem dX10_held_2 : decode cX10_held 2 = .ok (.iload_n 0, 1) := by decide +kernel
theorem dX10_held_3 : decode cX10_held 3 = .ok (.invokestatic 57, 3) := by decide +kernel
theorem dX10_held_6 : decode cX10_held 6 = .ok (.invokestatic 63, 3) := by decide +kernel
theorem dX10_held_9 : decode cX10_held 9 = .ok (.ireturn, 1) := by decide +kernel
theorem dX10_copy_0 : decode cX10_copy 0 = .ok (.iconst 0, 1) := by decide +kernel
theorem dX10_copy_1 : decode cX10_copy 1 = .ok (.istore_n 2, 1) := by decide +kernel
theorem dX10_copy_2 : decode cX10_copy 2 = .ok (.iload_n 2, 1) := by decide +kernel
theorem dX10_copy_3 : decode cX10_copy 3 = .ok (.sipush 279, 3) := by decide +kernel
theorem dX10_copy_6 : decode cX10_copy 6 = .ok (.if_icmp .ge 15, 3) := by decide +kernel
theorem dX10_copy_9 : decode cX10_copy 9 = .ok (.aload_n 1, 1) := by decide +kernel
theorem dX10_copy_10 : decode cX10_copy 10 = .ok (.iload_n 2, 1) := by decide +kernel
theorem dX10_copy_11 : decode cX10_copy 11 = .ok (.aload_n 0, 1) := by decide +kernel
theorem dX10_copy_12 : decode cX10_copy 12 = .ok (.iload_n 2, 1) := by decide +kernel
theorem dX10_copy_13 : decode cX10_copy 13 = .ok (.iaload, 1) := by decide +kernel
theorem dX10_copy_14 : decode cX10_copy 14 = .ok (.iastore, 1) := by decide +kernel
theorem dX10_copy_15 : decode cX10_copy 15 = .ok (.iinc 2 1, 3) := by decide +kernel
theorem dX10_copy_18 : decode cX10_copy 18 = .ok (.goto (-16), 3) := by decide +kernel
theorem dX10_copy_21 : decode cX10_copy 21 = .ok (.return_, 1) := by decide +kernel
theorem dX10_turn_0 : decode cX10_turn 0 = .ok (.aload_n 0, 1) := by decide +kernel
theorem dX10_turn_1 : decode cX10_turn 1 = .ok (.getfield 9, 3) := by decide +kernel
theorem dX10_turn_4 : decode cX10_turn 4 = .ok (.iload_n 1, 1) := by decide +kernel
theorem dX10_turn_5 : decode cX10_turn 5 = .ok (.iaload, 1) := by decide +kernel
theorem dX10_turn_6 : decode cX10_turn 6 = .ok (.istore_n 3, 1) := by decide +kernel
theorem dX10_turn_7 : decode cX10_turn 7 = .ok (.aload_n 0, 1) := by decide +kernel
theorem dX10_turn_8 : decode cX10_turn 8 = .ok (.getfield 9, 3) := by decide +kernel
theorem dX10_turn_11 : decode cX10_turn 11 = .ok (.iload_n 1, 1) := by decide +kernel
theorem dX10_turn_12 : decode cX10_turn 12 = .ok (.iload_n 2, 1) := by decide +kernel
theorem dX10_turn_13 : decode cX10_turn 13 = .ok (.iastore, 1) := by decide +kernel
theorem dX10_turn_14 : decode cX10_turn 14 = .ok (.iload_n 3, 1) := by decide +kernel
theorem dX10_turn_15 : decode cX10_turn 15 = .ok (.ireturn, 1) := by decide +kernel
theorem dX10_putBack_0 : decode cX10_putBack 0 = .ok (.aload_n 0, 1) := by decide +kernel
theorem dX10_putBack_1 : decode cX10_putBack 1 = .ok (.getfield 16, 3) := by decide +kernel
theorem dX10_putBack_4 : decode cX10_putBack 4 = .ok (.aload_n 0, 1) := by decide +kernel
theorem dX10_putBack_5 : decode cX10_putBack 5 = .ok (.getfield 9, 3) := by decide +kernel
theorem dX10_putBack_8 : decode cX10_putBack 8 = .ok (.invokestatic 66, 3) := by decide +kernel
theorem dX10_putBack_11 : decode cX10_putBack 11 = .ok (.iload_n 1, 1) := by decide +kernel
theorem dX10_putBack_12 : decode cX10_putBack 12 = .ok (.ireturn, 1) := by decide +kernel
theorem dX10_feed_0 : decode cX10_feed 0 = .ok (.iload_n 3, 1) := by decide +kernel
theorem dX10_feed_1 : decode cX10_feed 1 = .ok (.iconst 1, 1) := by decide +kernel
theorem dX10_feed_2 : decode cX10_feed 2 = .ok (.bipush 8, 2) := by decide +kernel
theorem dX10_feed_4 : decode cX10_feed 4 = .ok (.invokestatic 70, 3) := by decide +kernel
theorem dX10_feed_7 : decode cX10_feed 7 = .ok (.ifCond .ne 10, 3) := by decide +kernel
theorem dX10_feed_10 : decode cX10_feed 10 = .ok (.aload_n 0, 1) := by decide +kernel
theorem dX10_feed_11 : decode cX10_feed 11 = .ok (.ldc 74, 2) := by decide +kernel
theorem dX10_feed_13 : decode cX10_feed 13 = .ok (.invokevirtual 75, 3) := by decide +kernel
theorem dX10_feed_16 : decode cX10_feed 16 = .ok (.ireturn, 1) := by decide +kernel
theorem dX10_feed_17 : decode cX10_feed 17 = .ok (.aload_n 0, 1) := by decide +kernel
theorem dX10_feed_18 : decode cX10_feed 18 = .ok (.getfield 9, 3) := by decide +kernel
theorem dX10_feed_21 : decode cX10_feed 21 = .ok (.iconst 5, 1) := by decide +kernel
theorem dX10_feed_22 : decode cX10_feed 22 = .ok (.iaload, 1) := by decide +kernel
theorem dX10_feed_23 : decode cX10_feed 23 = .ok (.iload_n 3, 1) := by decide +kernel
theorem dX10_feed_24 : decode cX10_feed 24 = .ok (.iadd, 1) := by decide +kernel
theorem dX10_feed_25 : decode cX10_feed 25 = .ok (.bipush 50, 2) := by decide +kernel
theorem dX10_feed_27 : decode cX10_feed 27 = .ok (.if_icmp .le 10, 3) := by decide +kernel
theorem dX10_feed_30 : decode cX10_feed 30 = .ok (.aload_n 0, 1) := by decide +kernel
theorem dX10_feed_31 : decode cX10_feed 31 = .ok (.ldc 79, 2) := by decide +kernel
theorem dX10_feed_33 : decode cX10_feed 33 = .ok (.invokevirtual 75, 3) := by decide +kernel
theorem dX10_feed_36 : decode cX10_feed 36 = .ok (.ireturn, 1) := by decide +kernel
theorem dX10_feed_37 : decode cX10_feed 37 = .ok (.iconst 0, 1) := by decide +kernel
theorem dX10_feed_38 : decode cX10_feed 38 = .ok (.istore 4, 2) := by decide +kernel
theorem dX10_feed_40 : decode cX10_feed 40 = .ok (.iload 4, 2) := by decide +kernel
theorem dX10_feed_42 : decode cX10_feed 42 = .ok (.iload_n 3, 1) := by decide +kernel
theorem dX10_feed_43 : decode cX10_feed 43 = .ok (.if_icmp .ge 45, 3) := by decide +kernel
theorem dX10_feed_46 : decode cX10_feed 46 = .ok (.aload_n 0, 1) := by decide +kernel
theorem dX10_feed_47 : decode cX10_feed 47 = .ok (.getfield 9, 3) := by decide +kernel
theorem dX10_feed_50 : decode cX10_feed 50 = .ok (.bipush 105, 2) := by decide +kernel
theorem dX10_feed_52 : decode cX10_feed 52 = .ok (.aload_n 0, 1) := by decide +kernel
theorem dX10_feed_53 : decode cX10_feed 53 = .ok (.getfield 9, 3) := by decide +kernel
theorem dX10_feed_56 : decode cX10_feed 56 = .ok (.iconst 5, 1) := by decide +kernel
theorem dX10_feed_57 : decode cX10_feed 57 = .ok (.iaload, 1) := by decide +kernel
theorem dX10_feed_58 : decode cX10_feed 58 = .ok (.iadd, 1) := by decide +kernel
theorem dX10_feed_59 : decode cX10_feed 59 = .ok (.lload_n 1, 1) := by decide +kernel
theorem dX10_feed_60 : decode cX10_feed 60 = .ok (.bipush 8, 2) := by decide +kernel
theorem dX10_feed_62 : decode cX10_feed 62 = .ok (.iload 4, 2) := by decide +kernel
theorem dX10_feed_64 : decode cX10_feed 64 = .ok (.imul, 1) := by decide +kernel
theorem dX10_feed_65 : decode cX10_feed 65 = .ok (.lshr, 1) := by decide +kernel
theorem dX10_feed_66 : decode cX10_feed 66 = .ok (.ldc2_w 80, 3) := by decide +kernel
theorem dX10_feed_69 : decode cX10_feed 69 = .ok (.land, 1) := by decide +kernel
theorem dX10_feed_70 : decode cX10_feed 70 = .ok (.l2i, 1) := by decide +kernel
theorem dX10_feed_71 : decode cX10_feed 71 = .ok (.iastore, 1) := by decide +kernel
theorem dX10_feed_72 : decode cX10_feed 72 = .ok (.aload_n 0, 1) := by decide +kernel
theorem dX10_feed_73 : decode cX10_feed 73 = .ok (.getfield 9, 3) := by decide +kernel
theorem dX10_feed_76 : decode cX10_feed 76 = .ok (.iconst 5, 1) := by decide +kernel
theorem dX10_feed_77 : decode cX10_feed 77 = .ok (.dup2, 1) := by decide +kernel
theorem dX10_feed_78 : decode cX10_feed 78 = .ok (.iaload, 1) := by decide +kernel
theorem dX10_feed_79 : decode cX10_feed 79 = .ok (.iconst 1, 1) := by decide +kernel
theorem dX10_feed_80 : decode cX10_feed 80 = .ok (.iadd, 1) := by decide +kernel
theorem dX10_feed_81 : decode cX10_feed 81 = .ok (.iastore, 1) := by decide +kernel
theorem dX10_feed_82 : decode cX10_feed 82 = .ok (.iinc 4 1, 3) := by decide +kernel
theorem dX10_feed_85 : decode cX10_feed 85 = .ok (.goto (-45), 3) := by decide +kernel
theorem dX10_feed_88 : decode cX10_feed 88 = .ok (.aload_n 0, 1) := by decide +kernel
theorem dX10_feed_89 : decode cX10_feed 89 = .ok (.getfield 9, 3) := by decide +kernel
theorem dX10_feed_92 : decode cX10_feed 92 = .ok (.iconst 5, 1) := by decide +kernel
theorem dX10_feed_93 : decode cX10_feed 93 = .ok (.iaload, 1) := by decide +kernel
theorem dX10_feed_94 : decode cX10_feed 94 = .ok (.ireturn, 1) := by decide +kernel
theorem dX10_here_0 : decode cX10_here 0 = .ok (.aload_n 0, 1) := by decide +kernel
theorem dX10_here_1 : decode cX10_here 1 = .ok (.getfield 82, 3) := by decide +kernel
theorem dX10_here_4 : decode cX10_here 4 = .ok (.ifCond .ne 31, 3) := by decide +kernel
theorem dX10_here_7 : decode cX10_here 7 = .ok (.aload_n 0, 1) := by decide +kernel
theorem dX10_here_8 : decode cX10_here 8 = .ok (.getfield 86, 3) := by decide +kernel
theorem dX10_here_11 : decode cX10_here 11 = .ok (.aload_n 0, 1) := by decide +kernel
theorem dX10_here_12 : decode cX10_here 12 = .ok (.getfield 9, 3) := by decide +kernel
theorem dX10_here_15 : decode cX10_here 15 = .ok (.iconst 5, 1) := by decide +kernel
theorem dX10_here_16 : decode cX10_here 16 = .ok (.iaload, 1) := by decide +kernel
theorem dX10_here_17 : decode cX10_here 17 = .ok (.if_icmp .ge 18, 3) := by decide +kernel
theorem dX10_here_20 : decode cX10_here 20 = .ok (.aload_n 0, 1) := by decide +kernel
theorem dX10_here_21 : decode cX10_here 21 = .ok (.getfield 9, 3) := by decide +kernel
theorem dX10_here_24 : decode cX10_here 24 = .ok (.bipush 105, 2) := by decide +kernel
theorem dX10_here_26 : decode cX10_here 26 = .ok (.aload_n 0, 1) := by decide +kernel
theorem dX10_here_27 : decode cX10_here 27 = .ok (.getfield 86, 3) := by decide +kernel
theorem dX10_here_30 : decode cX10_here 30 = .ok (.iadd, 1) := by decide +kernel
theorem dX10_here_31 : decode cX10_here 31 = .ok (.iaload, 1) := by decide +kernel
theorem dX10_here_32 : decode cX10_here 32 = .ok (.goto 4, 3) := by decide +kernel
theorem dX10_here_35 : decode cX10_here 35 = .ok (.iconst (-1), 1) := by decide +kernel
theorem dX10_here_36 : decode cX10_here 36 = .ok (.ireturn, 1) := by decide +kernel
theorem dX10_takes_0 : decode cX10_takes 0 = .ok (.aload_n 0, 1) := by decide +kernel
theorem dX10_takes_1 : decode cX10_takes 1 = .ok (.invokevirtual 90, 3) := by decide +kernel
theorem dX10_takes_4 : decode cX10_takes 4 = .ok (.iload_n 1, 1) := by decide +kernel
theorem dX10_takes_5 : decode cX10_takes 5 = .ok (.if_icmp .ne 7, 3) := by decide +kernel
theorem dX10_takes_8 : decode cX10_takes 8 = .ok (.iconst 1, 1) := by decide +kernel
theorem dX10_takes_9 : decode cX10_takes 9 = .ok (.goto 4, 3) := by decide +kernel
theorem dX10_takes_12 : decode cX10_takes 12 = .ok (.iconst 0, 1) := by decide +kernel
theorem dX10_takes_13 : decode cX10_takes 13 = .ok (.istore_n 2, 1) := by decide +kernel
theorem dX10_takes_14 : decode cX10_takes 14 = .ok (.aload_n 0, 1) := by decide +kernel
theorem dX10_takes_15 : decode cX10_takes 15 = .ok (.dup, 1) := by decide +kernel
theorem dX10_takes_16 : decode cX10_takes 16 = .ok (.getfield 86, 3) := by decide +kernel
theorem dX10_takes_19 : decode cX10_takes 19 = .ok (.iload_n 2, 1) := by decide +kernel
theorem dX10_takes_20 : decode cX10_takes 20 = .ok (.ifCond .eq 7, 3) := by decide +kernel
theorem dX10_takes_23 : decode cX10_takes 23 = .ok (.iconst 1, 1) := by decide +kernel
theorem dX10_takes_24 : decode cX10_takes 24 = .ok (.goto 4, 3) := by decide +kernel
theorem dX10_takes_27 : decode cX10_takes 27 = .ok (.iconst 0, 1) := by decide +kernel
theorem dX10_takes_28 : decode cX10_takes 28 = .ok (.iadd, 1) := by decide +kernel
theorem dX10_takes_29 : decode cX10_takes 29 = .ok (.putfield 86, 3) := by decide +kernel
theorem dX10_takes_32 : decode cX10_takes 32 = .ok (.iload_n 2, 1) := by decide +kernel
theorem dX10_takes_33 : decode cX10_takes 33 = .ok (.ireturn, 1) := by decide +kernel
theorem dX10_codes_0 : decode cX10_codes 0 = .ok (.aload_n 0, 1) := by decide +kernel
theorem dX10_codes_1 : decode cX10_codes 1 = .ok (.getfield 82, 3) := by decide +kernel
theorem dX10_codes_4 : decode cX10_codes 4 = .ok (.ifCond .ne 23, 3) := by decide +kernel
theorem dX10_codes_7 : decode cX10_codes 7 = .ok (.aload_n 0, 1) := by decide +kernel
theorem dX10_codes_8 : decode cX10_codes 8 = .ok (.getfield 32, 3) := by decide +kernel
theorem dX10_codes_11 : decode cX10_codes 11 = .ok (.aload_n 0, 1) := by decide +kernel
theorem dX10_codes_12 : decode cX10_codes 12 = .ok (.getfield 94, 3) := by decide +kernel
theorem dX10_codes_15 : decode cX10_codes 15 = .ok (.iload_n 1, 1) := by decide +kernel
theorem dX10_codes_16 : decode cX10_codes 16 = .ok (.iastore, 1) := by decide +kernel
theorem dX10_codes_17 : decode cX10_codes 17 = .ok (.aload_n 0, 1) := by decide +kernel
theorem dX10_codes_18 : decode cX10_codes 18 = .ok (.dup, 1) := by decide +kernel
theorem dX10_codes_19 : decode cX10_codes 19 = .ok (.getfield 94, 3) := by decide +kernel
theorem dX10_codes_22 : decode cX10_codes 22 = .ok (.iconst 1, 1) := by decide +kernel
theorem dX10_codes_23 : decode cX10_codes 23 = .ok (.iadd, 1) := by decide +kernel
theorem dX10_codes_24 : decode cX10_codes 24 = .ok (.putfield 94, 3) := by decide +kernel
theorem dX10_codes_27 : decode cX10_codes 27 = .ok (.return_, 1) := by decide +kernel
theorem dX10_either_0 : decode cX10_either 0 = .ok (.aload_n 0, 1) := by decide +kernel
theorem dX10_either_1 : decode cX10_either 1 = .ok (.invokevirtual 97, 3) := by decide +kernel
theorem dX10_either_4 : decode cX10_either 4 = .ok (.aload_n 0, 1) := by decide +kernel
theorem dX10_either_5 : decode cX10_either 5 = .ok (.bipush 124, 2) := by decide +kernel
theorem dX10_either_7 : decode cX10_either 7 = .ok (.invokevirtual 100, 3) := by decide +kernel
theorem dX10_either_10 : decode cX10_either 10 = .ok (.ifCond .eq 17, 3) := by decide +kernel
theorem dX10_either_13 : decode cX10_either 13 = .ok (.aload_n 0, 1) := by decide +kernel
theorem dX10_either_14 : decode cX10_either 14 = .ok (.invokevirtual 97, 3) := by decide +kernel
theorem dX10_either_17 : decode cX10_either 17 = .ok (.aload_n 0, 1) := by decide +kernel
theorem dX10_either_18 : decode cX10_either 18 = .ok (.sipush 20000, 3) := by decide +kernel
theorem dX10_either_21 : decode cX10_either 21 = .ok (.invokevirtual 104, 3) := by decide +kernel
theorem dX10_either_24 : decode cX10_either 24 = .ok (.goto (-20), 3) := by decide +kernel
theorem dX10_either_27 : decode cX10_either 27 = .ok (.return_, 1) := by decide +kernel
theorem dX10_both_0 : decode cX10_both 0 = .ok (.aload_n 0, 1) := by decide +kernel
theorem dX10_both_1 : decode cX10_both 1 = .ok (.invokevirtual 108, 3) := by decide +kernel
theorem dX10_both_4 : decode cX10_both 4 = .ok (.aload_n 0, 1) := by decide +kernel
theorem dX10_both_5 : decode cX10_both 5 = .ok (.bipush 38, 2) := by decide +kernel
theorem dX10_both_7 : decode cX10_both 7 = .ok (.invokevirtual 100, 3) := by decide +kernel
theorem dX10_both_10 : decode cX10_both 10 = .ok (.ifCond .eq 17, 3) := by decide +kernel
theorem dX10_both_13 : decode cX10_both 13 = .ok (.aload_n 0, 1) := by decide +kernel
theorem dX10_both_14 : decode cX10_both 14 = .ok (.invokevirtual 108, 3) := by decide +kernel
theorem dX10_both_17 : decode cX10_both 17 = .ok (.aload_n 0, 1) := by decide +kernel
theorem dX10_both_18 : decode cX10_both 18 = .ok (.sipush 20001, 3) := by decide +kernel
theorem dX10_both_21 : decode cX10_both 21 = .ok (.invokevirtual 104, 3) := by decide +kernel
theorem dX10_both_24 : decode cX10_both 24 = .ok (.goto (-20), 3) := by decide +kernel
theorem dX10_both_27 : decode cX10_both 27 = .ok (.return_, 1) := by decide +kernel
theorem dX10_compared_0 : decode cX10_compared 0 = .ok (.aload_n 0, 1) := by decide +kernel
theorem dX10_compared_1 : decode cX10_compared 1 = .ok (.invokevirtual 111, 3) := by decide +kernel
theorem dX10_compared_4 : decode cX10_compared 4 = .ok (.aload_n 0, 1) := by decide +kernel
theorem dX10_compared_5 : decode cX10_compared 5 = .ok (.bipush 60, 2) := by decide +kernel
theorem dX10_compared_7 : decode cX10_compared 7 = .ok (.invokevirtual 100, 3) := by decide +kernel
theorem dX10_compared_10 : decode cX10_compared 10 = .ok (.ifCond .eq 9, 3) := by decide +kernel
theorem dX10_compared_13 : decode cX10_compared 13 = .ok (.sipush 20002, 3) := by decide +kernel
theorem dX10_compared_16 : decode cX10_compared 16 = .ok (.goto 34, 3) := by decide +kernel
theorem dX10_compared_19 : decode cX10_compared 19 = .ok (.aload_n 0, 1) := by decide +kernel
theorem dX10_compared_20 : decode cX10_compared 20 = .ok (.bipush 61, 2) := by decide +kernel
theorem dX10_compared_22 : decode cX10_compared 22 = .ok (.invokevirtual 100, 3) := by decide +kernel
theorem dX10_compared_25 : decode cX10_compared 25 = .ok (.ifCond .eq 9, 3) := by decide +kernel
theorem dX10_compared_28 : decode cX10_compared 28 = .ok (.sipush 20003, 3) := by decide +kernel
theorem dX10_compared_31 : decode cX10_compared 31 = .ok (.goto 19, 3) := by decide +kernel
theorem dX10_compared_34 : decode cX10_compared 34 = .ok (.aload_n 0, 1) := by decide +kernel
theorem dX10_compared_35 : decode cX10_compared 35 = .ok (.bipush 62, 2) := by decide +kernel
theorem dX10_compared_37 : decode cX10_compared 37 = .ok (.invokevirtual 100, 3) := by decide +kernel
theorem dX10_compared_40 : decode cX10_compared 40 = .ok (.ifCond .eq 9, 3) := by decide +kernel
theorem dX10_compared_43 : decode cX10_compared 43 = .ok (.sipush 20004, 3) := by decide +kernel
theorem dX10_compared_46 : decode cX10_compared 46 = .ok (.goto 4, 3) := by decide +kernel
theorem dX10_compared_49 : decode cX10_compared 49 = .ok (.iconst 0, 1) := by decide +kernel
theorem dX10_compared_50 : decode cX10_compared 50 = .ok (.istore_n 1, 1) := by decide +kernel
theorem dX10_compared_51 : decode cX10_compared 51 = .ok (.iload_n 1, 1) := by decide +kernel
theorem dX10_compared_52 : decode cX10_compared 52 = .ok (.ifCond .le 12, 3) := by decide +kernel
theorem dX10_compared_55 : decode cX10_compared 55 = .ok (.aload_n 0, 1) := by decide +kernel
theorem dX10_compared_56 : decode cX10_compared 56 = .ok (.invokevirtual 111, 3) := by decide +kernel
theorem dX10_compared_59 : decode cX10_compared 59 = .ok (.aload_n 0, 1) := by decide +kernel
theorem dX10_compared_60 : decode cX10_compared 60 = .ok (.iload_n 1, 1) := by decide +kernel
theorem dX10_compared_61 : decode cX10_compared 61 = .ok (.invokevirtual 104, 3) := by decide +kernel
theorem dX10_compared_64 : decode cX10_compared 64 = .ok (.return_, 1) := by decide +kernel
theorem dX10_sum_0 : decode cX10_sum 0 = .ok (.aload_n 0, 1) := by decide +kernel
theorem dX10_sum_1 : decode cX10_sum 1 = .ok (.invokevirtual 114, 3) := by decide +kernel
theorem dX10_sum_4 : decode cX10_sum 4 = .ok (.aload_n 0, 1) := by decide +kernel
theorem dX10_sum_5 : decode cX10_sum 5 = .ok (.bipush 43, 2) := by decide +kernel
theorem dX10_sum_7 : decode cX10_sum 7 = .ok (.invokevirtual 100, 3) := by decide +kernel
theorem dX10_sum_10 : decode cX10_sum 10 = .ok (.ifCond .eq 9, 3) := by decide +kernel
theorem dX10_sum_13 : decode cX10_sum 13 = .ok (.sipush 20005, 3) := by decide +kernel
theorem dX10_sum_16 : decode cX10_sum 16 = .ok (.goto 19, 3) := by decide +kernel
theorem dX10_sum_19 : decode cX10_sum 19 = .ok (.aload_n 0, 1) := by decide +kernel
theorem dX10_sum_20 : decode cX10_sum 20 = .ok (.bipush 45, 2) := by decide +kernel
theorem dX10_sum_22 : decode cX10_sum 22 = .ok (.invokevirtual 100, 3) := by decide +kernel
theorem dX10_sum_25 : decode cX10_sum 25 = .ok (.ifCond .eq 9, 3) := by decide +kernel
theorem dX10_sum_28 : decode cX10_sum 28 = .ok (.sipush 20006, 3) := by decide +kernel
theorem dX10_sum_31 : decode cX10_sum 31 = .ok (.goto 4, 3) := by decide +kernel
theorem dX10_sum_34 : decode cX10_sum 34 = .ok (.iconst 0, 1) := by decide +kernel
theorem dX10_sum_35 : decode cX10_sum 35 = .ok (.istore_n 1, 1) := by decide +kernel
theorem dX10_sum_36 : decode cX10_sum 36 = .ok (.iload_n 1, 1) := by decide +kernel
theorem dX10_sum_37 : decode cX10_sum 37 = .ok (.ifCond .le 47, 3) := by decide +kernel
theorem dX10_sum_40 : decode cX10_sum 40 = .ok (.aload_n 0, 1) := by decide +kernel
theorem dX10_sum_41 : decode cX10_sum 41 = .ok (.invokevirtual 114, 3) := by decide +kernel
theorem dX10_sum_44 : decode cX10_sum 44 = .ok (.aload_n 0, 1) := by decide +kernel
theorem dX10_sum_45 : decode cX10_sum 45 = .ok (.iload_n 1, 1) := by decide +kernel
theorem dX10_sum_46 : decode cX10_sum 46 = .ok (.invokevirtual 104, 3) := by decide +kernel
theorem dX10_sum_49 : decode cX10_sum 49 = .ok (.aload_n 0, 1) := by decide +kernel
theorem dX10_sum_50 : decode cX10_sum 50 = .ok (.bipush 43, 2) := by decide +kernel
theorem dX10_sum_52 : decode cX10_sum 52 = .ok (.invokevirtual 100, 3) := by decide +kernel
theorem dX10_sum_55 : decode cX10_sum 55 = .ok (.ifCond .eq 9, 3) := by decide +kernel
theorem dX10_sum_58 : decode cX10_sum 58 = .ok (.sipush 20005, 3) := by decide +kernel
theorem dX10_sum_61 : decode cX10_sum 61 = .ok (.goto 19, 3) := by decide +kernel
theorem dX10_sum_64 : decode cX10_sum 64 = .ok (.aload_n 0, 1) := by decide +kernel
theorem dX10_sum_65 : decode cX10_sum 65 = .ok (.bipush 45, 2) := by decide +kernel
theorem dX10_sum_67 : decode cX10_sum 67 = .ok (.invokevirtual 100, 3) := by decide +kernel
theorem dX10_sum_70 : decode cX10_sum 70 = .ok (.ifCond .eq 9, 3) := by decide +kernel
theorem dX10_sum_73 : decode cX10_sum 73 = .ok (.sipush 20006, 3) := by decide +kernel
theorem dX10_sum_76 : decode cX10_sum 76 = .ok (.goto 4, 3) := by decide +kernel
theorem dX10_sum_79 : decode cX10_sum 79 = .ok (.iconst 0, 1) := by decide +kernel
theorem dX10_sum_80 : decode cX10_sum 80 = .ok (.istore_n 1, 1) := by decide +kernel
theorem dX10_sum_81 : decode cX10_sum 81 = .ok (.goto (-45), 3) := by decide +kernel
theorem dX10_sum_84 : decode cX10_sum 84 = .ok (.return_, 1) := by decide +kernel
theorem dX10_product_0 : decode cX10_product 0 = .ok (.aload_n 0, 1) := by decide +kernel
theorem dX10_product_1 : decode cX10_product 1 = .ok (.invokevirtual 117, 3) := by decide +kernel
theorem dX10_product_4 : decode cX10_product 4 = .ok (.aload_n 0, 1) := by decide +kernel
theorem dX10_product_5 : decode cX10_product 5 = .ok (.bipush 42, 2) := by decide +kernel
theorem dX10_product_7 : decode cX10_product 7 = .ok (.invokevirtual 100, 3) := by decide +kernel
theorem dX10_product_10 : decode cX10_product 10 = .ok (.ifCond .eq 9, 3) := by decide +kernel
theorem dX10_product_13 : decode cX10_product 13 = .ok (.sipush 20007, 3) := by decide +kernel
theorem dX10_product_16 : decode cX10_product 16 = .ok (.goto 34, 3) := by decide +kernel
theorem dX10_product_19 : decode cX10_product 19 = .ok (.aload_n 0, 1) := by decide +kernel
theorem dX10_product_20 : decode cX10_product 20 = .ok (.bipush 47, 2) := by decide +kernel
theorem dX10_product_22 : decode cX10_product 22 = .ok (.invokevirtual 100, 3) := by decide +kernel
theorem dX10_product_25 : decode cX10_product 25 = .ok (.ifCond .eq 9, 3) := by decide +kernel
theorem dX10_product_28 : decode cX10_product 28 = .ok (.sipush 20008, 3) := by decide +kernel
theorem dX10_product_31 : decode cX10_product 31 = .ok (.goto 19, 3) := by decide +kernel
theorem dX10_product_34 : decode cX10_product 34 = .ok (.aload_n 0, 1) := by decide +kernel
theorem dX10_product_35 : decode cX10_product 35 = .ok (.bipush 37, 2) := by decide +kernel
theorem dX10_product_37 : decode cX10_product 37 = .ok (.invokevirtual 100, 3) := by decide +kernel
theorem dX10_product_40 : decode cX10_product 40 = .ok (.ifCond .eq 9, 3) := by decide +kernel
theorem dX10_product_43 : decode cX10_product 43 = .ok (.sipush 20009, 3) := by decide +kernel
theorem dX10_product_46 : decode cX10_product 46 = .ok (.goto 4, 3) := by decide +kernel
theorem dX10_product_49 : decode cX10_product 49 = .ok (.iconst 0, 1) := by decide +kernel
theorem dX10_product_50 : decode cX10_product 50 = .ok (.istore_n 1, 1) := by decide +kernel
theorem dX10_product_51 : decode cX10_product 51 = .ok (.iload_n 1, 1) := by decide +kernel
theorem dX10_product_52 : decode cX10_product 52 = .ok (.ifCond .le 62, 3) := by decide +kernel
theorem dX10_product_55 : decode cX10_product 55 = .ok (.aload_n 0, 1) := by decide +kernel
theorem dX10_product_56 : decode cX10_product 56 = .ok (.invokevirtual 117, 3) := by decide +kernel
theorem dX10_product_59 : decode cX10_product 59 = .ok (.aload_n 0, 1) := by decide +kernel
theorem dX10_product_60 : decode cX10_product 60 = .ok (.iload_n 1, 1) := by decide +kernel
theorem dX10_product_61 : decode cX10_product 61 = .ok (.invokevirtual 104, 3) := by decide +kernel
theorem dX10_product_64 : decode cX10_product 64 = .ok (.aload_n 0, 1) := by decide +kernel
theorem dX10_product_65 : decode cX10_product 65 = .ok (.bipush 42, 2) := by decide +kernel
theorem dX10_product_67 : decode cX10_product 67 = .ok (.invokevirtual 100, 3) := by decide +kernel
theorem dX10_product_70 : decode cX10_product 70 = .ok (.ifCond .eq 9, 3) := by decide +kernel
theorem dX10_product_73 : decode cX10_product 73 = .ok (.sipush 20007, 3) := by decide +kernel
theorem dX10_product_76 : decode cX10_product 76 = .ok (.goto 34, 3) := by decide +kernel
theorem dX10_product_79 : decode cX10_product 79 = .ok (.aload_n 0, 1) := by decide +kernel
theorem dX10_product_80 : decode cX10_product 80 = .ok (.bipush 47, 2) := by decide +kernel
theorem dX10_product_82 : decode cX10_product 82 = .ok (.invokevirtual 100, 3) := by decide +kernel
theorem dX10_product_85 : decode cX10_product 85 = .ok (.ifCond .eq 9, 3) := by decide +kernel
theorem dX10_product_88 : decode cX10_product 88 = .ok (.sipush 20008, 3) := by decide +kernel
theorem dX10_product_91 : decode cX10_product 91 = .ok (.goto 19, 3) := by decide +kernel
theorem dX10_product_94 : decode cX10_product 94 = .ok (.aload_n 0, 1) := by decide +kernel
theorem dX10_product_95 : decode cX10_product 95 = .ok (.bipush 37, 2) := by decide +kernel
theorem dX10_product_97 : decode cX10_product 97 = .ok (.invokevirtual 100, 3) := by decide +kernel
theorem dX10_product_100 : decode cX10_product 100 = .ok (.ifCond .eq 9, 3) := by decide +kernel
theorem dX10_product_103 : decode cX10_product 103 = .ok (.sipush 20009, 3) := by decide +kernel
theorem dX10_product_106 : decode cX10_product 106 = .ok (.goto 4, 3) := by decide +kernel
theorem dX10_product_109 : decode cX10_product 109 = .ok (.iconst 0, 1) := by decide +kernel
theorem dX10_product_110 : decode cX10_product 110 = .ok (.istore_n 1, 1) := by decide +kernel
theorem dX10_product_111 : decode cX10_product 111 = .ok (.goto (-60), 3) := by decide +kernel
theorem dX10_product_114 : decode cX10_product 114 = .ok (.return_, 1) := by decide +kernel
theorem dX10_nameOf_0 : decode cX10_nameOf 0 = .ok (.iconst (-1), 1) := by decide +kernel
theorem dX10_nameOf_1 : decode cX10_nameOf 1 = .ok (.istore_n 2, 1) := by decide +kernel
theorem dX10_nameOf_2 : decode cX10_nameOf 2 = .ok (.iconst 0, 1) := by decide +kernel
theorem dX10_nameOf_3 : decode cX10_nameOf 3 = .ok (.istore_n 3, 1) := by decide +kernel
theorem dX10_nameOf_4 : decode cX10_nameOf 4 = .ok (.iload_n 3, 1) := by decide +kernel
theorem dX10_nameOf_5 : decode cX10_nameOf 5 = .ok (.aload_n 0, 1) := by decide +kernel
theorem dX10_nameOf_6 : decode cX10_nameOf 6 = .ok (.getfield 28, 3) := by decide +kernel
theorem dX10_nameOf_9 : decode cX10_nameOf 9 = .ok (.aload_n 0, 1) := by decide +kernel
theorem dX10_nameOf_10 : decode cX10_nameOf 10 = .ok (.getfield 120, 3) := by decide +kernel
theorem dX10_nameOf_13 : decode cX10_nameOf 13 = .ok (.aaload, 1) := by decide +kernel
theorem dX10_nameOf_14 : decode cX10_nameOf 14 = .ok (.invokevirtual 123, 3) := by decide +kernel
theorem dX10_nameOf_17 : decode cX10_nameOf 17 = .ok (.if_icmp .ge 32, 3) := by decide +kernel
theorem dX10_nameOf_20 : decode cX10_nameOf 20 = .ok (.aload_n 0, 1) := by decide +kernel
theorem dX10_nameOf_21 : decode cX10_nameOf 21 = .ok (.getfield 28, 3) := by decide +kernel
theorem dX10_nameOf_24 : decode cX10_nameOf 24 = .ok (.aload_n 0, 1) := by decide +kernel
theorem dX10_nameOf_25 : decode cX10_nameOf 25 = .ok (.getfield 120, 3) := by decide +kernel
theorem dX10_nameOf_28 : decode cX10_nameOf 28 = .ok (.aaload, 1) := by decide +kernel
theorem dX10_nameOf_29 : decode cX10_nameOf 29 = .ok (.iload_n 3, 1) := by decide +kernel
theorem dX10_nameOf_30 : decode cX10_nameOf 30 = .ok (.invokevirtual 126, 3) := by decide +kernel
theorem dX10_nameOf_33 : decode cX10_nameOf 33 = .ok (.iload_n 1, 1) := by decide +kernel
theorem dX10_nameOf_34 : decode cX10_nameOf 34 = .ok (.if_icmp .ne 7, 3) := by decide +kernel
theorem dX10_nameOf_37 : decode cX10_nameOf 37 = .ok (.iload_n 3, 1) := by decide +kernel
theorem dX10_nameOf_38 : decode cX10_nameOf 38 = .ok (.goto 4, 3) := by decide +kernel
theorem dX10_nameOf_41 : decode cX10_nameOf 41 = .ok (.iload_n 2, 1) := by decide +kernel
theorem dX10_nameOf_42 : decode cX10_nameOf 42 = .ok (.istore_n 2, 1) := by decide +kernel
theorem dX10_nameOf_43 : decode cX10_nameOf 43 = .ok (.iinc 3 1, 3) := by decide +kernel
theorem dX10_nameOf_46 : decode cX10_nameOf 46 = .ok (.goto (-42), 3) := by decide +kernel
theorem dX10_nameOf_49 : decode cX10_nameOf 49 = .ok (.iload_n 2, 1) := by decide +kernel
theorem dX10_nameOf_50 : decode cX10_nameOf 50 = .ok (.ireturn, 1) := by decide +kernel
theorem dX10_one_0 : decode cX10_one 0 = .ok (.aload_n 0, 1) := by decide +kernel
theorem dX10_one_1 : decode cX10_one 1 = .ok (.invokevirtual 90, 3) := by decide +kernel
theorem dX10_one_4 : decode cX10_one 4 = .ok (.istore_n 1, 1) := by decide +kernel
theorem dX10_one_5 : decode cX10_one 5 = .ok (.iload_n 1, 1) := by decide +kernel
theorem dX10_one_6 : decode cX10_one 6 = .ok (.bipush 33, 2) := by decide +kernel
theorem dX10_one_8 : decode cX10_one 8 = .ok (.if_icmp .eq 9, 3) := by decide +kernel
theorem dX10_one_11 : decode cX10_one 11 = .ok (.iload_n 1, 1) := by decide +kernel
theorem dX10_one_12 : decode cX10_one 12 = .ok (.bipush 40, 2) := by decide +kernel
theorem dX10_one_14 : decode cX10_one 14 = .ok (.if_icmp .ne 102, 3) := by decide +kernel
theorem dX10_one_17 : decode cX10_one 17 = .ok (.aload_n 0, 1) := by decide +kernel
theorem dX10_one_18 : decode cX10_one 18 = .ok (.aload_n 0, 1) := by decide +kernel
theorem dX10_one_19 : decode cX10_one 19 = .ok (.getfield 130, 3) := by decide +kernel
theorem dX10_one_22 : decode cX10_one 22 = .ok (.iconst 5, 1) := by decide +kernel
theorem dX10_one_23 : decode cX10_one 23 = .ok (.if_icmp .ne 7, 3) := by decide +kernel
theorem dX10_one_26 : decode cX10_one 26 = .ok (.iconst 1, 1) := by decide +kernel
theorem dX10_one_27 : decode cX10_one 27 = .ok (.goto 4, 3) := by decide +kernel
theorem dX10_one_30 : decode cX10_one 30 = .ok (.iconst 0, 1) := by decide +kernel
theorem dX10_one_31 : decode cX10_one 31 = .ok (.putfield 82, 3) := by decide +kernel
theorem dX10_one_34 : decode cX10_one 34 = .ok (.aload_n 0, 1) := by decide +kernel
theorem dX10_one_35 : decode cX10_one 35 = .ok (.getfield 82, 3) := by decide +kernel
theorem dX10_one_38 : decode cX10_one 38 = .ok (.ifCond .ne 209, 3) := by decide +kernel
theorem dX10_one_41 : decode cX10_one 41 = .ok (.aload_n 0, 1) := by decide +kernel
theorem dX10_one_42 : decode cX10_one 42 = .ok (.dup, 1) := by decide +kernel
theorem dX10_one_43 : decode cX10_one 43 = .ok (.getfield 130, 3) := by decide +kernel
theorem dX10_one_46 : decode cX10_one 46 = .ok (.iconst 1, 1) := by decide +kernel
theorem dX10_one_47 : decode cX10_one 47 = .ok (.iadd, 1) := by decide +kernel
theorem dX10_one_48 : decode cX10_one 48 = .ok (.putfield 130, 3) := by decide +kernel
theorem dX10_one_51 : decode cX10_one 51 = .ok (.aload_n 0, 1) := by decide +kernel
theorem dX10_one_52 : decode cX10_one 52 = .ok (.dup, 1) := by decide +kernel
theorem dX10_one_53 : decode cX10_one 53 = .ok (.getfield 86, 3) := by decide +kernel
theorem dX10_one_56 : decode cX10_one 56 = .ok (.iconst 1, 1) := by decide +kernel
theorem dX10_one_57 : decode cX10_one 57 = .ok (.iadd, 1) := by decide +kernel
theorem dX10_one_58 : decode cX10_one 58 = .ok (.putfield 86, 3) := by decide +kernel
theorem dX10_one_61 : decode cX10_one 61 = .ok (.iload_n 1, 1) := by decide +kernel
theorem dX10_one_62 : decode cX10_one 62 = .ok (.bipush 33, 2) := by decide +kernel
theorem dX10_one_64 : decode cX10_one 64 = .ok (.if_icmp .ne 17, 3) := by decide +kernel
theorem dX10_one_67 : decode cX10_one 67 = .ok (.aload_n 0, 1) := by decide +kernel
theorem dX10_one_68 : decode cX10_one 68 = .ok (.invokevirtual 117, 3) := by decide +kernel
theorem dX10_one_71 : decode cX10_one 71 = .ok (.aload_n 0, 1) := by decide +kernel
theorem dX10_one_72 : decode cX10_one 72 = .ok (.sipush 20010, 3) := by decide +kernel
theorem dX10_one_75 : decode cX10_one 75 = .ok (.invokevirtual 104, 3) := by decide +kernel
theorem dX10_one_78 : decode cX10_one 78 = .ok (.goto 25, 3) := by decide +kernel
theorem dX10_one_81 : decode cX10_one 81 = .ok (.aload_n 0, 1) := by decide +kernel
theorem dX10_one_82 : decode cX10_one 82 = .ok (.invokevirtual 133, 3) := by decide +kernel
theorem dX10_one_85 : decode cX10_one 85 = .ok (.aload_n 0, 1) := by decide +kernel
theorem dX10_one_86 : decode cX10_one 86 = .ok (.aload_n 0, 1) := by decide +kernel
theorem dX10_one_87 : decode cX10_one 87 = .ok (.bipush 41, 2) := by decide +kernel
theorem dX10_one_89 : decode cX10_one 89 = .ok (.invokevirtual 100, 3) := by decide +kernel
theorem dX10_one_92 : decode cX10_one 92 = .ok (.ifCond .ne 7, 3) := by decide +kernel
theorem dX10_one_95 : decode cX10_one 95 = .ok (.iconst 1, 1) := by decide +kernel
theorem dX10_one_96 : decode cX10_one 96 = .ok (.goto 4, 3) := by decide +kernel
theorem dX10_one_99 : decode cX10_one 99 = .ok (.iconst 0, 1) := by decide +kernel
theorem dX10_one_100 : decode cX10_one 100 = .ok (.putfield 82, 3) := by decide +kernel
theorem dX10_one_103 : decode cX10_one 103 = .ok (.aload_n 0, 1) := by decide +kernel
theorem dX10_one_104 : decode cX10_one 104 = .ok (.dup, 1) := by decide +kernel
theorem dX10_one_105 : decode cX10_one 105 = .ok (.getfield 130, 3) := by decide +kernel
theorem dX10_one_108 : decode cX10_one 108 = .ok (.iconst 1, 1) := by decide +kernel
theorem dX10_one_109 : decode cX10_one 109 = .ok (.isub, 1) := by decide +kernel
theorem dX10_one_110 : decode cX10_one 110 = .ok (.putfield 130, 3) := by decide +kernel
theorem dX10_one_113 : decode cX10_one 113 = .ok (.goto 134, 3) := by decide +kernel
theorem dX10_one_116 : decode cX10_one 116 = .ok (.iload_n 1, 1) := by decide +kernel
theorem dX10_one_117 : decode cX10_one 117 = .ok (.bipush 48, 2) := by decide +kernel
theorem dX10_one_119 : decode cX10_one 119 = .ok (.bipush 57, 2) := by decide +kernel
theorem dX10_one_121 : decode cX10_one 121 = .ok (.invokestatic 70, 3) := by decide +kernel
theorem dX10_one_124 : decode cX10_one 124 = .ok (.ifCond .eq 63, 3) := by decide +kernel
theorem dX10_one_127 : decode cX10_one 127 = .ok (.iconst 0, 1) := by decide +kernel
theorem dX10_one_128 : decode cX10_one 128 = .ok (.istore_n 2, 1) := by decide +kernel
theorem dX10_one_129 : decode cX10_one 129 = .ok (.iconst 0, 1) := by decide +kernel
theorem dX10_one_130 : decode cX10_one 130 = .ok (.istore_n 3, 1) := by decide +kernel
theorem dX10_one_131 : decode cX10_one 131 = .ok (.iload_n 3, 1) := by decide +kernel
theorem dX10_one_132 : decode cX10_one 132 = .ok (.iconst 4, 1) := by decide +kernel
theorem dX10_one_133 : decode cX10_one 133 = .ok (.if_icmp .ge 46, 3) := by decide +kernel
theorem dX10_one_136 : decode cX10_one 136 = .ok (.aload_n 0, 1) := by decide +kernel
theorem dX10_one_137 : decode cX10_one 137 = .ok (.invokevirtual 90, 3) := by decide +kernel
theorem dX10_one_140 : decode cX10_one 140 = .ok (.bipush 48, 2) := by decide +kernel
theorem dX10_one_142 : decode cX10_one 142 = .ok (.bipush 57, 2) := by decide +kernel
theorem dX10_one_144 : decode cX10_one 144 = .ok (.invokestatic 70, 3) := by decide +kernel
theorem dX10_one_147 : decode cX10_one 147 = .ok (.ifCond .eq 32, 3) := by decide +kernel
theorem dX10_one_150 : decode cX10_one 150 = .ok (.bipush 10, 2) := by decide +kernel
theorem dX10_one_152 : decode cX10_one 152 = .ok (.iload_n 2, 1) := by decide +kernel
theorem dX10_one_153 : decode cX10_one 153 = .ok (.imul, 1) := by decide +kernel
theorem dX10_one_154 : decode cX10_one 154 = .ok (.aload_n 0, 1) := by decide +kernel
theorem dX10_one_155 : decode cX10_one 155 = .ok (.invokevirtual 90, 3) := by decide +kernel
theorem dX10_one_158 : decode cX10_one 158 = .ok (.iadd, 1) := by decide +kernel
theorem dX10_one_159 : decode cX10_one 159 = .ok (.bipush 48, 2) := by decide +kernel
theorem dX10_one_161 : decode cX10_one 161 = .ok (.isub, 1) := by decide +kernel
theorem dX10_one_162 : decode cX10_one 162 = .ok (.istore_n 2, 1) := by decide +kernel
theorem dX10_one_163 : decode cX10_one 163 = .ok (.aload_n 0, 1) := by decide +kernel
theorem dX10_one_164 : decode cX10_one 164 = .ok (.dup, 1) := by decide +kernel
theorem dX10_one_165 : decode cX10_one 165 = .ok (.getfield 86, 3) := by decide +kernel
theorem dX10_one_168 : decode cX10_one 168 = .ok (.iconst 1, 1) := by decide +kernel
theorem dX10_one_169 : decode cX10_one 169 = .ok (.iadd, 1) := by decide +kernel
theorem dX10_one_170 : decode cX10_one 170 = .ok (.putfield 86, 3) := by decide +kernel
theorem dX10_one_173 : decode cX10_one 173 = .ok (.iinc 3 1, 3) := by decide +kernel
theorem dX10_one_176 : decode cX10_one 176 = .ok (.goto (-45), 3) := by decide +kernel
theorem dX10_one_179 : decode cX10_one 179 = .ok (.aload_n 0, 1) := by decide +kernel
theorem dX10_one_180 : decode cX10_one 180 = .ok (.iload_n 2, 1) := by decide +kernel
theorem dX10_one_181 : decode cX10_one 181 = .ok (.invokevirtual 104, 3) := by decide +kernel
theorem dX10_one_184 : decode cX10_one 184 = .ok (.goto 63, 3) := by decide +kernel
theorem dX10_one_187 : decode cX10_one 187 = .ok (.iload_n 1, 1) := by decide +kernel
theorem dX10_one_188 : decode cX10_one 188 = .ok (.ifCond .ge 7, 3) := by decide +kernel
theorem dX10_one_191 : decode cX10_one 191 = .ok (.iconst (-1), 1) := by decide +kernel
theorem dX10_one_192 : decode cX10_one 192 = .ok (.goto 8, 3) := by decide +kernel
theorem dX10_one_195 : decode cX10_one 195 = .ok (.aload_n 0, 1) := by decide +kernel
theorem dX10_one_196 : decode cX10_one 196 = .ok (.iload_n 1, 1) := by decide +kernel
theorem dX10_one_197 : decode cX10_one 197 = .ok (.invokevirtual 136, 3) := by decide +kernel
theorem dX10_one_200 : decode cX10_one 200 = .ok (.istore_n 2, 1) := by decide +kernel
theorem dX10_one_201 : decode cX10_one 201 = .ok (.aload_n 0, 1) := by decide +kernel
theorem dX10_one_202 : decode cX10_one 202 = .ok (.aload_n 0, 1) := by decide +kernel
theorem dX10_one_203 : decode cX10_one 203 = .ok (.getfield 82, 3) := by decide +kernel
theorem dX10_one_206 : decode cX10_one 206 = .ok (.ifCond .ne 7, 3) := by decide +kernel
theorem dX10_one_209 : decode cX10_one 209 = .ok (.iload_n 2, 1) := by decide +kernel
theorem dX10_one_210 : decode cX10_one 210 = .ok (.ifCond .ge 7, 3) := by decide +kernel
theorem dX10_one_213 : decode cX10_one 213 = .ok (.iconst 1, 1) := by decide +kernel
theorem dX10_one_214 : decode cX10_one 214 = .ok (.goto 4, 3) := by decide +kernel
theorem dX10_one_217 : decode cX10_one 217 = .ok (.iconst 0, 1) := by decide +kernel
theorem dX10_one_218 : decode cX10_one 218 = .ok (.putfield 82, 3) := by decide +kernel
theorem dX10_one_221 : decode cX10_one 221 = .ok (.aload_n 0, 1) := by decide +kernel
theorem dX10_one_222 : decode cX10_one 222 = .ok (.getfield 82, 3) := by decide +kernel
theorem dX10_one_225 : decode cX10_one 225 = .ok (.ifCond .ne 22, 3) := by decide +kernel
theorem dX10_one_228 : decode cX10_one 228 = .ok (.aload_n 0, 1) := by decide +kernel
theorem dX10_one_229 : decode cX10_one 229 = .ok (.sipush 10000, 3) := by decide +kernel
theorem dX10_one_232 : decode cX10_one 232 = .ok (.iload_n 2, 1) := by decide +kernel
theorem dX10_one_233 : decode cX10_one 233 = .ok (.iadd, 1) := by decide +kernel
theorem dX10_one_234 : decode cX10_one 234 = .ok (.invokevirtual 104, 3) := by decide +kernel
theorem dX10_one_237 : decode cX10_one 237 = .ok (.aload_n 0, 1) := by decide +kernel
theorem dX10_one_238 : decode cX10_one 238 = .ok (.dup, 1) := by decide +kernel
theorem dX10_one_239 : decode cX10_one 239 = .ok (.getfield 86, 3) := by decide +kernel
theorem dX10_one_242 : decode cX10_one 242 = .ok (.iconst 1, 1) := by decide +kernel
theorem dX10_one_243 : decode cX10_one 243 = .ok (.iadd, 1) := by decide +kernel
theorem dX10_one_244 : decode cX10_one 244 = .ok (.putfield 86, 3) := by decide +kernel
theorem dX10_one_247 : decode cX10_one 247 = .ok (.return_, 1) := by decide +kernel
theorem dX10_text_0 : decode cX10_text 0 = .ok (.iload_n 1, 1) := by decide +kernel
theorem dX10_text_1 : decode cX10_text 1 = .ok (.iconst 0, 1) := by decide +kernel
theorem dX10_text_2 : decode cX10_text 2 = .ok (.iconst 1, 1) := by decide +kernel
theorem dX10_text_3 : decode cX10_text 3 = .ok (.invokestatic 70, 3) := by decide +kernel
theorem dX10_text_6 : decode cX10_text 6 = .ok (.ifCond .ne 10, 3) := by decide +kernel
theorem dX10_text_9 : decode cX10_text 9 = .ok (.aload_n 0, 1) := by decide +kernel
theorem dX10_text_10 : decode cX10_text 10 = .ok (.ldc 74, 2) := by decide +kernel
theorem dX10_text_12 : decode cX10_text 12 = .ok (.invokevirtual 75, 3) := by decide +kernel
theorem dX10_text_15 : decode cX10_text 15 = .ok (.ireturn, 1) := by decide +kernel
theorem dX10_text_16 : decode cX10_text 16 = .ok (.aload_n 0, 1) := by decide +kernel
theorem dX10_text_17 : decode cX10_text 17 = .ok (.iload_n 1, 1) := by decide +kernel
theorem dX10_text_18 : decode cX10_text 18 = .ok (.putfield 120, 3) := by decide +kernel
theorem dX10_text_21 : decode cX10_text 21 = .ok (.aload_n 0, 1) := by decide +kernel
theorem dX10_text_22 : decode cX10_text 22 = .ok (.iconst 0, 1) := by decide +kernel
theorem dX10_text_23 : decode cX10_text 23 = .ok (.putfield 86, 3) := by decide +kernel
theorem dX10_text_26 : decode cX10_text 26 = .ok (.aload_n 0, 1) := by decide +kernel
theorem dX10_text_27 : decode cX10_text 27 = .ok (.iconst 0, 1) := by decide +kernel
theorem dX10_text_28 : decode cX10_text 28 = .ok (.putfield 130, 3) := by decide +kernel
theorem dX10_text_31 : decode cX10_text 31 = .ok (.aload_n 0, 1) := by decide +kernel
theorem dX10_text_32 : decode cX10_text 32 = .ok (.iconst 0, 1) := by decide +kernel
theorem dX10_text_33 : decode cX10_text 33 = .ok (.putfield 82, 3) := by decide +kernel
theorem dX10_text_36 : decode cX10_text 36 = .ok (.aload_n 0, 1) := by decide +kernel
theorem dX10_text_37 : decode cX10_text 37 = .ok (.iconst 0, 1) := by decide +kernel
theorem dX10_text_38 : decode cX10_text 38 = .ok (.putfield 94, 3) := by decide +kernel
theorem dX10_text_41 : decode cX10_text 41 = .ok (.aload_n 0, 1) := by decide +kernel
theorem dX10_text_42 : decode cX10_text 42 = .ok (.invokevirtual 133, 3) := by decide +kernel
theorem dX10_text_45 : decode cX10_text 45 = .ok (.aload_n 0, 1) := by decide +kernel
theorem dX10_text_46 : decode cX10_text 46 = .ok (.aload_n 0, 1) := by decide +kernel
theorem dX10_text_47 : decode cX10_text 47 = .ok (.getfield 82, 3) := by decide +kernel
theorem dX10_text_50 : decode cX10_text 50 = .ok (.ifCond .ne 16, 3) := by decide +kernel
theorem dX10_text_53 : decode cX10_text 53 = .ok (.aload_n 0, 1) := by decide +kernel
theorem dX10_text_54 : decode cX10_text 54 = .ok (.getfield 86, 3) := by decide +kernel
theorem dX10_text_57 : decode cX10_text 57 = .ok (.aload_n 0, 1) := by decide +kernel
theorem dX10_text_58 : decode cX10_text 58 = .ok (.getfield 9, 3) := by decide +kernel
theorem dX10_text_61 : decode cX10_text 61 = .ok (.iconst 5, 1) := by decide +kernel
theorem dX10_text_62 : decode cX10_text 62 = .ok (.iaload, 1) := by decide +kernel
theorem dX10_text_63 : decode cX10_text 63 = .ok (.if_icmp .ge 7, 3) := by decide +kernel
theorem dX10_text_66 : decode cX10_text 66 = .ok (.iconst 1, 1) := by decide +kernel
theorem dX10_text_67 : decode cX10_text 67 = .ok (.goto 4, 3) := by decide +kernel
theorem dX10_text_70 : decode cX10_text 70 = .ok (.iconst 0, 1) := by decide +kernel
theorem dX10_text_71 : decode cX10_text 71 = .ok (.putfield 82, 3) := by decide +kernel
theorem dX10_text_74 : decode cX10_text 74 = .ok (.aload_n 0, 1) := by decide +kernel
theorem dX10_text_75 : decode cX10_text 75 = .ok (.getfield 9, 3) := by decide +kernel
theorem dX10_text_78 : decode cX10_text 78 = .ok (.iconst 5, 1) := by decide +kernel
theorem dX10_text_79 : decode cX10_text 79 = .ok (.iconst 0, 1) := by decide +kernel
theorem dX10_text_80 : decode cX10_text 80 = .ok (.iastore, 1) := by decide +kernel
theorem dX10_text_81 : decode cX10_text 81 = .ok (.aload_n 0, 1) := by decide +kernel
theorem dX10_text_82 : decode cX10_text 82 = .ok (.getfield 82, 3) := by decide +kernel
theorem dX10_text_85 : decode cX10_text 85 = .ok (.ifCond .eq 11, 3) := by decide +kernel
theorem dX10_text_88 : decode cX10_text 88 = .ok (.bipush (-10), 2) := by decide +kernel
theorem dX10_text_90 : decode cX10_text 90 = .ok (.aload_n 0, 1) := by decide +kernel
theorem dX10_text_91 : decode cX10_text 91 = .ok (.getfield 86, 3) := by decide +kernel
theorem dX10_text_94 : decode cX10_text 94 = .ok (.isub, 1) := by decide +kernel
theorem dX10_text_95 : decode cX10_text 95 = .ok (.ireturn, 1) := by decide +kernel
theorem dX10_text_96 : decode cX10_text 96 = .ok (.aload_n 0, 1) := by decide +kernel
theorem dX10_text_97 : decode cX10_text 97 = .ok (.getfield 9, 3) := by decide +kernel
theorem dX10_text_100 : decode cX10_text 100 = .ok (.sipush 175, 3) := by decide +kernel
theorem dX10_text_103 : decode cX10_text 103 = .ok (.bipush 52, 2) := by decide +kernel
theorem dX10_text_105 : decode cX10_text 105 = .ok (.aload_n 0, 1) := by decide +kernel
theorem dX10_text_106 : decode cX10_text 106 = .ok (.getfield 120, 3) := by decide +kernel
theorem dX10_text_109 : decode cX10_text 109 = .ok (.imul, 1) := by decide +kernel
theorem dX10_text_110 : decode cX10_text 110 = .ok (.iadd, 1) := by decide +kernel
theorem dX10_text_111 : decode cX10_text 111 = .ok (.aload_n 0, 1) := by decide +kernel
theorem dX10_text_112 : decode cX10_text 112 = .ok (.getfield 94, 3) := by decide +kernel
theorem dX10_text_115 : decode cX10_text 115 = .ok (.iastore, 1) := by decide +kernel
theorem dX10_text_116 : decode cX10_text 116 = .ok (.iconst 0, 1) := by decide +kernel
theorem dX10_text_117 : decode cX10_text 117 = .ok (.istore_n 2, 1) := by decide +kernel
theorem dX10_text_118 : decode cX10_text 118 = .ok (.iload_n 2, 1) := by decide +kernel
theorem dX10_text_119 : decode cX10_text 119 = .ok (.aload_n 0, 1) := by decide +kernel
theorem dX10_text_120 : decode cX10_text 120 = .ok (.getfield 94, 3) := by decide +kernel
theorem dX10_text_123 : decode cX10_text 123 = .ok (.if_icmp .ge 35, 3) := by decide +kernel
theorem dX10_text_126 : decode cX10_text 126 = .ok (.aload_n 0, 1) := by decide +kernel
theorem dX10_text_127 : decode cX10_text 127 = .ok (.getfield 9, 3) := by decide +kernel
theorem dX10_text_130 : decode cX10_text 130 = .ok (.sipush 175, 3) := by decide +kernel
theorem dX10_text_133 : decode cX10_text 133 = .ok (.bipush 52, 2) := by decide +kernel
theorem dX10_text_135 : decode cX10_text 135 = .ok (.aload_n 0, 1) := by decide +kernel
theorem dX10_text_136 : decode cX10_text 136 = .ok (.getfield 120, 3) := by decide +kernel
theorem dX10_text_139 : decode cX10_text 139 = .ok (.imul, 1) := by decide +kernel
theorem dX10_text_140 : decode cX10_text 140 = .ok (.iadd, 1) := by decide +kernel
theorem dX10_text_141 : decode cX10_text 141 = .ok (.iconst 1, 1) := by decide +kernel
theorem dX10_text_142 : decode cX10_text 142 = .ok (.iadd, 1) := by decide +kernel
theorem dX10_text_143 : decode cX10_text 143 = .ok (.iload_n 2, 1) := by decide +kernel
theorem dX10_text_144 : decode cX10_text 144 = .ok (.iadd, 1) := by decide +kernel
theorem dX10_text_145 : decode cX10_text 145 = .ok (.aload_n 0, 1) := by decide +kernel
theorem dX10_text_146 : decode cX10_text 146 = .ok (.getfield 32, 3) := by decide +kernel
theorem dX10_text_149 : decode cX10_text 149 = .ok (.iload_n 2, 1) := by decide +kernel
theorem dX10_text_150 : decode cX10_text 150 = .ok (.iaload, 1) := by decide +kernel
theorem dX10_text_151 : decode cX10_text 151 = .ok (.iastore, 1) := by decide +kernel
theorem dX10_text_152 : decode cX10_text 152 = .ok (.iinc 2 1, 3) := by decide +kernel
theorem dX10_text_155 : decode cX10_text 155 = .ok (.goto (-37), 3) := by decide +kernel
theorem dX10_text_158 : decode cX10_text 158 = .ok (.iconst 1, 1) := by decide +kernel
theorem dX10_text_159 : decode cX10_text 159 = .ok (.ireturn, 1) := by decide +kernel
theorem dX10_done_0 : decode cX10_done 0 = .ok (.iload_n 0, 1) := by decide +kernel
theorem dX10_done_1 : decode cX10_done 1 = .ok (.tableswitch 136 20000 20008 #[51, 65, 79, 90, 101, 112, 116, 120, 124], 51) := by decide +kernel
theorem dX10_done_52 : decode cX10_done 52 = .ok (.iload_n 1, 1) := by decide +kernel
theorem dX10_done_53 : decode cX10_done 53 = .ok (.ifCond .ne 7, 3) := by decide +kernel
theorem dX10_done_56 : decode cX10_done 56 = .ok (.iload_n 2, 1) := by decide +kernel
theorem dX10_done_57 : decode cX10_done 57 = .ok (.ifCond .eq 7, 3) := by decide +kernel
theorem dX10_done_60 : decode cX10_done 60 = .ok (.iconst 1, 1) := by decide +kernel
theorem dX10_done_61 : decode cX10_done 61 = .ok (.goto 4, 3) := by decide +kernel
theorem dX10_done_64 : decode cX10_done 64 = .ok (.iconst 0, 1) := by decide +kernel
theorem dX10_done_65 : decode cX10_done 65 = .ok (.ireturn, 1) := by decide +kernel
theorem dX10_done_66 : decode cX10_done 66 = .ok (.iload_n 1, 1) := by decide +kernel
theorem dX10_done_67 : decode cX10_done 67 = .ok (.ifCond .eq 11, 3) := by decide +kernel
theorem dX10_done_70 : decode cX10_done 70 = .ok (.iload_n 2, 1) := by decide +kernel
theorem dX10_done_71 : decode cX10_done 71 = .ok (.ifCond .eq 7, 3) := by decide +kernel
theorem dX10_done_74 : decode cX10_done 74 = .ok (.iconst 1, 1) := by decide +kernel
theorem dX10_done_75 : decode cX10_done 75 = .ok (.goto 4, 3) := by decide +kernel
theorem dX10_done_78 : decode cX10_done 78 = .ok (.iconst 0, 1) := by decide +kernel
theorem dX10_done_79 : decode cX10_done 79 = .ok (.ireturn, 1) := by decide +kernel
theorem dX10_done_80 : decode cX10_done 80 = .ok (.iload_n 1, 1) := by decide +kernel
theorem dX10_done_81 : decode cX10_done 81 = .ok (.iload_n 2, 1) := by decide +kernel
theorem dX10_done_82 : decode cX10_done 82 = .ok (.if_icmp .ge 7, 3) := by decide +kernel
theorem dX10_done_85 : decode cX10_done 85 = .ok (.iconst 1, 1) := by decide +kernel
theorem dX10_done_86 : decode cX10_done 86 = .ok (.goto 4, 3) := by decide +kernel
theorem dX10_done_89 : decode cX10_done 89 = .ok (.iconst 0, 1) := by decide +kernel
theorem dX10_done_90 : decode cX10_done 90 = .ok (.ireturn, 1) := by decide +kernel
theorem dX10_done_91 : decode cX10_done 91 = .ok (.iload_n 1, 1) := by decide +kernel
theorem dX10_done_92 : decode cX10_done 92 = .ok (.iload_n 2, 1) := by decide +kernel
theorem dX10_done_93 : decode cX10_done 93 = .ok (.if_icmp .ne 7, 3) := by decide +kernel
theorem dX10_done_96 : decode cX10_done 96 = .ok (.iconst 1, 1) := by decide +kernel
theorem dX10_done_97 : decode cX10_done 97 = .ok (.goto 4, 3) := by decide +kernel
theorem dX10_done_100 : decode cX10_done 100 = .ok (.iconst 0, 1) := by decide +kernel
theorem dX10_done_101 : decode cX10_done 101 = .ok (.ireturn, 1) := by decide +kernel
theorem dX10_done_102 : decode cX10_done 102 = .ok (.iload_n 1, 1) := by decide +kernel
theorem dX10_done_103 : decode cX10_done 103 = .ok (.iload_n 2, 1) := by decide +kernel
theorem dX10_done_104 : decode cX10_done 104 = .ok (.if_icmp .le 7, 3) := by decide +kernel
theorem dX10_done_107 : decode cX10_done 107 = .ok (.iconst 1, 1) := by decide +kernel
theorem dX10_done_108 : decode cX10_done 108 = .ok (.goto 4, 3) := by decide +kernel
theorem dX10_done_111 : decode cX10_done 111 = .ok (.iconst 0, 1) := by decide +kernel
theorem dX10_done_112 : decode cX10_done 112 = .ok (.ireturn, 1) := by decide +kernel
theorem dX10_done_113 : decode cX10_done 113 = .ok (.iload_n 1, 1) := by decide +kernel
theorem dX10_done_114 : decode cX10_done 114 = .ok (.iload_n 2, 1) := by decide +kernel
theorem dX10_done_115 : decode cX10_done 115 = .ok (.iadd, 1) := by decide +kernel
theorem dX10_done_116 : decode cX10_done 116 = .ok (.ireturn, 1) := by decide +kernel
theorem dX10_done_117 : decode cX10_done 117 = .ok (.iload_n 1, 1) := by decide +kernel
theorem dX10_done_118 : decode cX10_done 118 = .ok (.iload_n 2, 1) := by decide +kernel
theorem dX10_done_119 : decode cX10_done 119 = .ok (.isub, 1) := by decide +kernel
theorem dX10_done_120 : decode cX10_done 120 = .ok (.ireturn, 1) := by decide +kernel
theorem dX10_done_121 : decode cX10_done 121 = .ok (.iload_n 1, 1) := by decide +kernel
theorem dX10_done_122 : decode cX10_done 122 = .ok (.iload_n 2, 1) := by decide +kernel
theorem dX10_done_123 : decode cX10_done 123 = .ok (.imul, 1) := by decide +kernel
theorem dX10_done_124 : decode cX10_done 124 = .ok (.ireturn, 1) := by decide +kernel
theorem dX10_done_125 : decode cX10_done 125 = .ok (.iload_n 2, 1) := by decide +kernel
theorem dX10_done_126 : decode cX10_done 126 = .ok (.ifCond .ne 7, 3) := by decide +kernel
theorem dX10_done_129 : decode cX10_done 129 = .ok (.iconst 0, 1) := by decide +kernel
theorem dX10_done_130 : decode cX10_done 130 = .ok (.goto 6, 3) := by decide +kernel
theorem dX10_done_133 : decode cX10_done 133 = .ok (.iload_n 1, 1) := by decide +kernel
theorem dX10_done_134 : decode cX10_done 134 = .ok (.iload_n 2, 1) := by decide +kernel
theorem dX10_done_135 : decode cX10_done 135 = .ok (.idiv, 1) := by decide +kernel
theorem dX10_done_136 : decode cX10_done 136 = .ok (.ireturn, 1) := by decide +kernel
theorem dX10_done_137 : decode cX10_done 137 = .ok (.iload_n 2, 1) := by decide +kernel
theorem dX10_done_138 : decode cX10_done 138 = .ok (.ifCond .ne 7, 3) := by decide +kernel
theorem dX10_done_141 : decode cX10_done 141 = .ok (.iconst 0, 1) := by decide +kernel
theorem dX10_done_142 : decode cX10_done 142 = .ok (.goto 6, 3) := by decide +kernel
theorem dX10_done_145 : decode cX10_done 145 = .ok (.iload_n 1, 1) := by decide +kernel
theorem dX10_done_146 : decode cX10_done 146 = .ok (.iload_n 2, 1) := by decide +kernel
theorem dX10_done_147 : decode cX10_done 147 = .ok (.irem, 1) := by decide +kernel
theorem dX10_done_148 : decode cX10_done 148 = .ok (.ireturn, 1) := by decide +kernel
theorem dX10_worked_0 : decode cX10_worked 0 = .ok (.iconst 0, 1) := by decide +kernel
theorem dX10_worked_1 : decode cX10_worked 1 = .ok (.istore_n 2, 1) := by decide +kernel
theorem dX10_worked_2 : decode cX10_worked 2 = .ok (.iload_n 1, 1) := by decide +kernel
theorem dX10_worked_3 : decode cX10_worked 3 = .ok (.istore_n 3, 1) := by decide +kernel
theorem dX10_worked_4 : decode cX10_worked 4 = .ok (.iload_n 3, 1) := by decide +kernel
theorem dX10_worked_5 : decode cX10_worked 5 = .ok (.iload_n 1, 1) := by decide +kernel
theorem dX10_worked_6 : decode cX10_worked 6 = .ok (.aload_n 0, 1) := by decide +kernel
theorem dX10_worked_7 : decode cX10_worked 7 = .ok (.getfield 9, 3) := by decide +kernel
theorem dX10_worked_10 : decode cX10_worked 10 = .ok (.iload_n 1, 1) := by decide +kernel
theorem dX10_worked_11 : decode cX10_worked 11 = .ok (.iconst 1, 1) := by decide +kernel
theorem dX10_worked_12 : decode cX10_worked 12 = .ok (.isub, 1) := by decide +kernel
theorem dX10_worked_13 : decode cX10_worked 13 = .ok (.iaload, 1) := by decide +kernel
theorem dX10_worked_14 : decode cX10_worked 14 = .ok (.iadd, 1) := by decide +kernel
theorem dX10_worked_15 : decode cX10_worked 15 = .ok (.if_icmp .ge 126, 3) := by decide +kernel
theorem dX10_worked_18 : decode cX10_worked 18 = .ok (.aload_n 0, 1) := by decide +kernel
theorem dX10_worked_19 : decode cX10_worked 19 = .ok (.getfield 9, 3) := by decide +kernel
theorem dX10_worked_22 : decode cX10_worked 22 = .ok (.iload_n 3, 1) := by decide +kernel
theorem dX10_worked_23 : decode cX10_worked 23 = .ok (.iaload, 1) := by decide +kernel
theorem dX10_worked_24 : decode cX10_worked 24 = .ok (.istore 4, 2) := by decide +kernel
theorem dX10_worked_26 : decode cX10_worked 26 = .ok (.iload 4, 2) := by decide +kernel
theorem dX10_worked_28 : decode cX10_worked 28 = .ok (.sipush 20000, 3) := by decide +kernel
theorem dX10_worked_31 : decode cX10_worked 31 = .ok (.if_icmp .ge 39, 3) := by decide +kernel
theorem dX10_worked_34 : decode cX10_worked 34 = .ok (.aload_n 0, 1) := by decide +kernel
theorem dX10_worked_35 : decode cX10_worked 35 = .ok (.getfield 38, 3) := by decide +kernel
theorem dX10_worked_38 : decode cX10_worked 38 = .ok (.iload_n 2, 1) := by decide +kernel
theorem dX10_worked_39 : decode cX10_worked 39 = .ok (.iload 4, 2) := by decide +kernel
theorem dX10_worked_41 : decode cX10_worked 41 = .ok (.sipush 10000, 3) := by decide +kernel
theorem dX10_worked_44 : decode cX10_worked 44 = .ok (.if_icmp .ge 8, 3) := by decide +kernel
theorem dX10_worked_47 : decode cX10_worked 47 = .ok (.iload 4, 2) := by decide +kernel
theorem dX10_worked_49 : decode cX10_worked 49 = .ok (.goto 14, 3) := by decide +kernel
theorem dX10_worked_52 : decode cX10_worked 52 = .ok (.aload_n 0, 1) := by decide +kernel
theorem dX10_worked_53 : decode cX10_worked 53 = .ok (.getfield 35, 3) := by decide +kernel
theorem dX10_worked_56 : decode cX10_worked 56 = .ok (.iload 4, 2) := by decide +kernel
theorem dX10_worked_58 : decode cX10_worked 58 = .ok (.sipush 10000, 3) := by decide +kernel
theorem dX10_worked_61 : decode cX10_worked 61 = .ok (.isub, 1) := by decide +kernel
theorem dX10_worked_62 : decode cX10_worked 62 = .ok (.iaload, 1) := by decide +kernel
theorem dX10_worked_63 : decode cX10_worked 63 = .ok (.iastore, 1) := by decide +kernel
theorem dX10_worked_64 : decode cX10_worked 64 = .ok (.iinc 2 1, 3) := by decide +kernel
theorem dX10_worked_67 : decode cX10_worked 67 = .ok (.goto 68, 3) := by decide +kernel
theorem dX10_worked_70 : decode cX10_worked 70 = .ok (.iload 4, 2) := by decide +kernel
theorem dX10_worked_72 : decode cX10_worked 72 = .ok (.sipush 20010, 3) := by decide +kernel
theorem dX10_worked_75 : decode cX10_worked 75 = .ok (.if_icmp .ne 30, 3) := by decide +kernel
theorem dX10_worked_78 : decode cX10_worked 78 = .ok (.aload_n 0, 1) := by decide +kernel
theorem dX10_worked_79 : decode cX10_worked 79 = .ok (.getfield 38, 3) := by decide +kernel
theorem dX10_worked_82 : decode cX10_worked 82 = .ok (.iload_n 2, 1) := by decide +kernel
theorem dX10_worked_83 : decode cX10_worked 83 = .ok (.iconst 1, 1) := by decide +kernel
theorem dX10_worked_84 : decode cX10_worked 84 = .ok (.isub, 1) := by decide +kernel
theorem dX10_worked_85 : decode cX10_worked 85 = .ok (.aload_n 0, 1) := by decide +kernel
theorem dX10_worked_86 : decode cX10_worked 86 = .ok (.getfield 38, 3) := by decide +kernel
theorem dX10_worked_89 : decode cX10_worked 89 = .ok (.iload_n 2, 1) := by decide +kernel
theorem dX10_worked_90 : decode cX10_worked 90 = .ok (.iconst 1, 1) := by decide +kernel
theorem dX10_worked_91 : decode cX10_worked 91 = .ok (.isub, 1) := by decide +kernel
theorem dX10_worked_92 : decode cX10_worked 92 = .ok (.iaload, 1) := by decide +kernel
theorem dX10_worked_93 : decode cX10_worked 93 = .ok (.ifCond .ne 7, 3) := by decide +kernel
theorem dX10_worked_96 : decode cX10_worked 96 = .ok (.iconst 1, 1) := by decide +kernel
theorem dX10_worked_97 : decode cX10_worked 97 = .ok (.goto 4, 3) := by decide +kernel
theorem dX10_worked_100 : decode cX10_worked 100 = .ok (.iconst 0, 1) := by decide +kernel
theorem dX10_worked_101 : decode cX10_worked 101 = .ok (.iastore, 1) := by decide +kernel
theorem dX10_worked_102 : decode cX10_worked 102 = .ok (.goto 33, 3) := by decide +kernel
theorem dX10_worked_105 : decode cX10_worked 105 = .ok (.iinc 2 (-1), 3) := by decide +kernel
theorem dX10_worked_108 : decode cX10_worked 108 = .ok (.aload_n 0, 1) := by decide +kernel
theorem dX10_worked_109 : decode cX10_worked 109 = .ok (.getfield 38, 3) := by decide +kernel
theorem dX10_worked_112 : decode cX10_worked 112 = .ok (.iload_n 2, 1) := by decide +kernel
theorem dX10_worked_113 : decode cX10_worked 113 = .ok (.iconst 1, 1) := by decide +kernel
theorem dX10_worked_114 : decode cX10_worked 114 = .ok (.isub, 1) := by decide +kernel
theorem dX10_worked_115 : decode cX10_worked 115 = .ok (.iload 4, 2) := by decide +kernel
theorem dX10_worked_117 : decode cX10_worked 117 = .ok (.aload_n 0, 1) := by decide +kernel
theorem dX10_worked_118 : decode cX10_worked 118 = .ok (.getfield 38, 3) := by decide +kernel
theorem dX10_worked_121 : decode cX10_worked 121 = .ok (.iload_n 2, 1) := by decide +kernel
theorem dX10_worked_122 : decode cX10_worked 122 = .ok (.iconst 1, 1) := by decide +kernel
theorem dX10_worked_123 : decode cX10_worked 123 = .ok (.isub, 1) := by decide +kernel
theorem dX10_worked_124 : decode cX10_worked 124 = .ok (.iaload, 1) := by decide +kernel
theorem dX10_worked_125 : decode cX10_worked 125 = .ok (.aload_n 0, 1) := by decide +kernel
theorem dX10_worked_126 : decode cX10_worked 126 = .ok (.getfield 38, 3) := by decide +kernel
theorem dX10_worked_129 : decode cX10_worked 129 = .ok (.iload_n 2, 1) := by decide +kernel
theorem dX10_worked_130 : decode cX10_worked 130 = .ok (.iaload, 1) := by decide +kernel
theorem dX10_worked_131 : decode cX10_worked 131 = .ok (.invokestatic 139, 3) := by decide +kernel
theorem dX10_worked_134 : decode cX10_worked 134 = .ok (.iastore, 1) := by decide +kernel
theorem dX10_worked_135 : decode cX10_worked 135 = .ok (.iinc 3 1, 3) := by decide +kernel
theorem dX10_worked_138 : decode cX10_worked 138 = .ok (.goto (-134), 3) := by decide +kernel
theorem dX10_worked_141 : decode cX10_worked 141 = .ok (.aload_n 0, 1) := by decide +kernel
theorem dX10_worked_142 : decode cX10_worked 142 = .ok (.getfield 38, 3) := by decide +kernel
theorem dX10_worked_145 : decode cX10_worked 145 = .ok (.iconst 0, 1) := by decide +kernel
theorem dX10_worked_146 : decode cX10_worked 146 = .ok (.iaload, 1) := by decide +kernel
theorem dX10_worked_147 : decode cX10_worked 147 = .ok (.ireturn, 1) := by decide +kernel
theorem dX10_hasText_0 : decode cX10_hasText 0 = .ok (.aload_n 0, 1) := by decide +kernel
theorem dX10_hasText_1 : decode cX10_hasText 1 = .ok (.getfield 9, 3) := by decide +kernel
theorem dX10_hasText_4 : decode cX10_hasText 4 = .ok (.sipush 175, 3) := by decide +kernel
theorem dX10_hasText_7 : decode cX10_hasText 7 = .ok (.bipush 52, 2) := by decide +kernel
theorem dX10_hasText_9 : decode cX10_hasText 9 = .ok (.iload_n 1, 1) := by decide +kernel
theorem dX10_hasText_10 : decode cX10_hasText 10 = .ok (.imul, 1) := by decide +kernel
theorem dX10_hasText_11 : decode cX10_hasText 11 = .ok (.iadd, 1) := by decide +kernel
theorem dX10_hasText_12 : decode cX10_hasText 12 = .ok (.iaload, 1) := by decide +kernel
theorem dX10_hasText_13 : decode cX10_hasText 13 = .ok (.ifCond .le 7, 3) := by decide +kernel
theorem dX10_hasText_16 : decode cX10_hasText 16 = .ok (.iconst 1, 1) := by decide +kernel
theorem dX10_hasText_17 : decode cX10_hasText 17 = .ok (.goto 4, 3) := by decide +kernel
theorem dX10_hasText_20 : decode cX10_hasText 20 = .ok (.iconst 0, 1) := by decide +kernel
theorem dX10_hasText_21 : decode cX10_hasText 21 = .ok (.ireturn, 1) := by decide +kernel
theorem dX10_given_0 : decode cX10_given 0 = .ok (.aload_n 0, 1) := by decide +kernel
theorem dX10_given_1 : decode cX10_given 1 = .ok (.getfield 35, 3) := by decide +kernel
theorem dX10_given_4 : decode cX10_given 4 = .ok (.iconst 0, 1) := by decide +kernel
theorem dX10_given_5 : decode cX10_given 5 = .ok (.iload_n 2, 1) := by decide +kernel
theorem dX10_given_6 : decode cX10_given 6 = .ok (.iastore, 1) := by decide +kernel
theorem dX10_given_7 : decode cX10_given 7 = .ok (.aload_n 0, 1) := by decide +kernel
theorem dX10_given_8 : decode cX10_given 8 = .ok (.getfield 35, 3) := by decide +kernel
theorem dX10_given_11 : decode cX10_given 11 = .ok (.iconst 1, 1) := by decide +kernel
theorem dX10_given_12 : decode cX10_given 12 = .ok (.iload_n 3, 1) := by decide +kernel
theorem dX10_given_13 : decode cX10_given 13 = .ok (.iastore, 1) := by decide +kernel
theorem dX10_given_14 : decode cX10_given 14 = .ok (.aload_n 0, 1) := by decide +kernel
theorem dX10_given_15 : decode cX10_given 15 = .ok (.getfield 35, 3) := by decide +kernel
theorem dX10_given_18 : decode cX10_given 18 = .ok (.iconst 2, 1) := by decide +kernel
theorem dX10_given_19 : decode cX10_given 19 = .ok (.iload 4, 2) := by decide +kernel
theorem dX10_given_21 : decode cX10_given 21 = .ok (.iastore, 1) := by decide +kernel
theorem dX10_given_22 : decode cX10_given 22 = .ok (.iload_n 1, 1) := by decide +kernel
theorem dX10_given_23 : decode cX10_given 23 = .ok (.ifCond .ne 10, 3) := by decide +kernel
theorem dX10_given_26 : decode cX10_given 26 = .ok (.iload_n 2, 1) := by decide +kernel
theorem dX10_given_27 : decode cX10_given 27 = .ok (.iload 4, 2) := by decide +kernel
theorem dX10_given_29 : decode cX10_given 29 = .ok (.iadd, 1) := by decide +kernel
theorem dX10_given_30 : decode cX10_given 30 = .ok (.goto 8, 3) := by decide +kernel
theorem dX10_given_33 : decode cX10_given 33 = .ok (.iload_n 2, 1) := by decide +kernel
theorem dX10_given_34 : decode cX10_given 34 = .ok (.iload_n 2, 1) := by decide +kernel
theorem dX10_given_35 : decode cX10_given 35 = .ok (.iconst 4, 1) := by decide +kernel
theorem dX10_given_36 : decode cX10_given 36 = .ok (.idiv, 1) := by decide +kernel
theorem dX10_given_37 : decode cX10_given 37 = .ok (.isub, 1) := by decide +kernel
theorem dX10_given_38 : decode cX10_given 38 = .ok (.istore 5, 2) := by decide +kernel
theorem dX10_given_40 : decode cX10_given 40 = .ok (.aload_n 0, 1) := by decide +kernel
theorem dX10_given_41 : decode cX10_given 41 = .ok (.iload_n 1, 1) := by decide +kernel
theorem dX10_given_42 : decode cX10_given 42 = .ok (.invokevirtual 143, 3) := by decide +kernel
theorem dX10_given_45 : decode cX10_given 45 = .ok (.ifCond .eq 20, 3) := by decide +kernel
theorem dX10_given_48 : decode cX10_given 48 = .ok (.aload_n 0, 1) := by decide +kernel
theorem dX10_given_49 : decode cX10_given 49 = .ok (.sipush 175, 3) := by decide +kernel
theorem dX10_given_52 : decode cX10_given 52 = .ok (.bipush 52, 2) := by decide +kernel
theorem dX10_given_54 : decode cX10_given 54 = .ok (.iload_n 1, 1) := by decide +kernel
theorem dX10_given_55 : decode cX10_given 55 = .ok (.imul, 1) := by decide +kernel
theorem dX10_given_56 : decode cX10_given 56 = .ok (.iadd, 1) := by decide +kernel
theorem dX10_given_57 : decode cX10_given 57 = .ok (.iconst 1, 1) := by decide +kernel
theorem dX10_given_58 : decode cX10_given 58 = .ok (.iadd, 1) := by decide +kernel
theorem dX10_given_59 : decode cX10_given 59 = .ok (.invokevirtual 146, 3) := by decide +kernel
theorem dX10_given_62 : decode cX10_given 62 = .ok (.goto 5, 3) := by decide +kernel
theorem dX10_given_65 : decode cX10_given 65 = .ok (.iload 5, 2) := by decide +kernel
theorem dX10_given_67 : decode cX10_given 67 = .ok (.iconst 0, 1) := by decide +kernel
theorem dX10_given_68 : decode cX10_given 68 = .ok (.bipush 99, 2) := by decide +kernel
theorem dX10_given_70 : decode cX10_given 70 = .ok (.invokestatic 149, 3) := by decide +kernel
theorem dX10_given_73 : decode cX10_given 73 = .ok (.ireturn, 1) := by decide +kernel
theorem dX10_law_0 : decode cX10_law 0 = .ok (.iload_n 1, 1) := by decide +kernel
theorem dX10_law_1 : decode cX10_law 1 = .ok (.iconst 0, 1) := by decide +kernel
theorem dX10_law_2 : decode cX10_law 2 = .ok (.iconst 1, 1) := by decide +kernel
theorem dX10_law_3 : decode cX10_law 3 = .ok (.invokestatic 70, 3) := by decide +kernel
theorem dX10_law_6 : decode cX10_law 6 = .ok (.ifCond .eq 15, 3) := by decide +kernel
theorem dX10_law_9 : decode cX10_law 9 = .ok (.aload_n 0, 1) := by decide +kernel
theorem dX10_law_10 : decode cX10_law 10 = .ok (.iload_n 1, 1) := by decide +kernel
theorem dX10_law_11 : decode cX10_law 11 = .ok (.iload_n 2, 1) := by decide +kernel
theorem dX10_law_12 : decode cX10_law 12 = .ok (.iload_n 3, 1) := by decide +kernel
theorem dX10_law_13 : decode cX10_law 13 = .ok (.iload 4, 2) := by decide +kernel
theorem dX10_law_15 : decode cX10_law 15 = .ok (.invokevirtual 152, 3) := by decide +kernel
theorem dX10_law_18 : decode cX10_law 18 = .ok (.goto 9, 3) := by decide +kernel
theorem dX10_law_21 : decode cX10_law 21 = .ok (.aload_n 0, 1) := by decide +kernel
theorem dX10_law_22 : decode cX10_law 22 = .ok (.ldc 74, 2) := by decide +kernel
theorem dX10_law_24 : decode cX10_law 24 = .ok (.invokevirtual 75, 3) := by decide +kernel
theorem dX10_law_27 : decode cX10_law 27 = .ok (.ireturn, 1) := by decide +kernel
theorem dX10_isAsh_0 : decode cX10_isAsh 0 = .ok (.iload_n 1, 1) := by decide +kernel
theorem dX10_isAsh_1 : decode cX10_isAsh 1 = .ok (.iconst 0, 1) := by decide +kernel
theorem dX10_isAsh_2 : decode cX10_isAsh 2 = .ok (.aload_n 0, 1) := by decide +kernel
theorem dX10_isAsh_3 : decode cX10_isAsh 3 = .ok (.getfield 9, 3) := by decide +kernel
theorem dX10_isAsh_6 : decode cX10_isAsh 6 = .ok (.iconst 1, 1) := by decide +kernel
theorem dX10_isAsh_7 : decode cX10_isAsh 7 = .ok (.iaload, 1) := by decide +kernel
theorem dX10_isAsh_8 : decode cX10_isAsh 8 = .ok (.iconst 1, 1) := by decide +kernel
theorem dX10_isAsh_9 : decode cX10_isAsh 9 = .ok (.isub, 1) := by decide +kernel
theorem dX10_isAsh_10 : decode cX10_isAsh 10 = .ok (.invokestatic 70, 3) := by decide +kernel
theorem dX10_isAsh_13 : decode cX10_isAsh 13 = .ok (.ireturn, 1) := by decide +kernel
theorem dX10_isPotter_0 : decode cX10_isPotter 0 = .ok (.iload_n 1, 1) := by decide +kernel
theorem dX10_isPotter_1 : decode cX10_isPotter 1 = .ok (.iconst 0, 1) := by decide +kernel
theorem dX10_isPotter_2 : decode cX10_isPotter 2 = .ok (.aload_n 0, 1) := by decide +kernel
theorem dX10_isPotter_3 : decode cX10_isPotter 3 = .ok (.getfield 9, 3) := by decide +kernel
theorem dX10_isPotter_6 : decode cX10_isPotter 6 = .ok (.iconst 2, 1) := by decide +kernel
theorem dX10_isPotter_7 : decode cX10_isPotter 7 = .ok (.iaload, 1) := by decide +kernel
theorem dX10_isPotter_8 : decode cX10_isPotter 8 = .ok (.iconst 1, 1) := by decide +kernel
theorem dX10_isPotter_9 : decode cX10_isPotter 9 = .ok (.isub, 1) := by decide +kernel
theorem dX10_isPotter_10 : decode cX10_isPotter 10 = .ok (.invokestatic 70, 3) := by decide +kernel
theorem dX10_isPotter_13 : decode cX10_isPotter 13 = .ok (.ireturn, 1) := by decide +kernel
theorem dX10_isLoan_0 : decode cX10_isLoan 0 = .ok (.iload_n 1, 1) := by decide +kernel
theorem dX10_isLoan_1 : decode cX10_isLoan 1 = .ok (.iconst 0, 1) := by decide +kernel
theorem dX10_isLoan_2 : decode cX10_isLoan 2 = .ok (.aload_n 0, 1) := by decide +kernel
theorem dX10_isLoan_3 : decode cX10_isLoan 3 = .ok (.getfield 9, 3) := by decide +kernel
theorem dX10_isLoan_6 : decode cX10_isLoan 6 = .ok (.iconst 3, 1) := by decide +kernel
theorem dX10_isLoan_7 : decode cX10_isLoan 7 = .ok (.iaload, 1) := by decide +kernel
theorem dX10_isLoan_8 : decode cX10_isLoan 8 = .ok (.iconst 1, 1) := by decide +kernel
theorem dX10_isLoan_9 : decode cX10_isLoan 9 = .ok (.isub, 1) := by decide +kernel
theorem dX10_isLoan_10 : decode cX10_isLoan 10 = .ok (.invokestatic 70, 3) := by decide +kernel
theorem dX10_isLoan_13 : decode cX10_isLoan 13 = .ok (.ireturn, 1) := by decide +kernel
theorem dX10_isKindM_0 : decode cX10_isKindM 0 = .ok (.iload_n 0, 1) := by decide +kernel
theorem dX10_isKindM_1 : decode cX10_isKindM 1 = .ok (.iconst 0, 1) := by decide +kernel
theorem dX10_isKindM_2 : decode cX10_isKindM 2 = .ok (.bipush 69, 2) := by decide +kernel
theorem dX10_isKindM_4 : decode cX10_isKindM 4 = .ok (.invokestatic 70, 3) := by decide +kernel
theorem dX10_isKindM_7 : decode cX10_isKindM 7 = .ok (.ireturn, 1) := by decide +kernel
theorem dX10_isDigit_0 : decode cX10_isDigit 0 = .ok (.iload_n 0, 1) := by decide +kernel
theorem dX10_isDigit_1 : decode cX10_isDigit 1 = .ok (.iconst 0, 1) := by decide +kernel
theorem dX10_isDigit_2 : decode cX10_isDigit 2 = .ok (.bipush 9, 2) := by decide +kernel
theorem dX10_isDigit_4 : decode cX10_isDigit 4 = .ok (.invokestatic 70, 3) := by decide +kernel
theorem dX10_isDigit_7 : decode cX10_isDigit 7 = .ok (.ireturn, 1) := by decide +kernel
theorem dX10_ashAt_0 : decode cX10_ashAt 0 = .ok (.bipush 7, 2) := by decide +kernel
theorem dX10_ashAt_2 : decode cX10_ashAt 2 = .ok (.iconst 4, 1) := by decide +kernel
theorem dX10_ashAt_3 : decode cX10_ashAt 3 = .ok (.iload_n 0, 1) := by decide +kernel
theorem dX10_ashAt_4 : decode cX10_ashAt 4 = .ok (.imul, 1) := by decide +kernel
theorem dX10_ashAt_5 : decode cX10_ashAt 5 = .ok (.iadd, 1) := by decide +kernel
theorem dX10_ashAt_6 : decode cX10_ashAt 6 = .ok (.iload_n 1, 1) := by decide +kernel
theorem dX10_ashAt_7 : decode cX10_ashAt 7 = .ok (.iadd, 1) := by decide +kernel
theorem dX10_ashAt_8 : decode cX10_ashAt 8 = .ok (.ireturn, 1) := by decide +kernel
theorem dX10_ashIs_0 : decode cX10_ashIs 0 = .ok (.aload_n 0, 1) := by decide +kernel
theorem dX10_ashIs_1 : decode cX10_ashIs 1 = .ok (.getfield 9, 3) := by decide +kernel
theorem dX10_ashIs_4 : decode cX10_ashIs 4 = .ok (.iload_n 1, 1) := by decide +kernel
theorem dX10_ashIs_5 : decode cX10_ashIs 5 = .ok (.iload_n 2, 1) := by decide +kernel
theorem dX10_ashIs_6 : decode cX10_ashIs 6 = .ok (.invokestatic 156, 3) := by decide +kernel
theorem dX10_ashIs_9 : decode cX10_ashIs 9 = .ok (.iaload, 1) := by decide +kernel
theorem dX10_ashIs_10 : decode cX10_ashIs 10 = .ok (.ireturn, 1) := by decide +kernel
theorem dX10_potterAt_0 : decode cX10_potterAt 0 = .ok (.bipush 27, 2) := by decide +kernel
theorem dX10_potterAt_2 : decode cX10_potterAt 2 = .ok (.bipush 7, 2) := by decide +kernel
theorem dX10_potterAt_4 : decode cX10_potterAt 4 = .ok (.iload_n 0, 1) := by decide +kernel
theorem dX10_potterAt_5 : decode cX10_potterAt 5 = .ok (.imul, 1) := by decide +kernel
theorem dX10_potterAt_6 : decode cX10_potterAt 6 = .ok (.iadd, 1) := by decide +kernel
theorem dX10_potterAt_7 : decode cX10_potterAt 7 = .ok (.iload_n 1, 1) := by decide +kernel
theorem dX10_potterAt_8 : decode cX10_potterAt 8 = .ok (.iadd, 1) := by decide +kernel
theorem dX10_potterAt_9 : decode cX10_potterAt 9 = .ok (.ireturn, 1) := by decide +kernel
theorem dX10_storeAt_0 : decode cX10_storeAt 0 = .ok (.bipush 27, 2) := by decide +kernel
theorem dX10_storeAt_2 : decode cX10_storeAt 2 = .ok (.bipush 7, 2) := by decide +kernel
theorem dX10_storeAt_4 : decode cX10_storeAt 4 = .ok (.iload_n 0, 1) := by decide +kernel
theorem dX10_storeAt_5 : decode cX10_storeAt 5 = .ok (.imul, 1) := by decide +kernel
theorem dX10_storeAt_6 : decode cX10_storeAt 6 = .ok (.iadd, 1) := by decide +kernel
theorem dX10_storeAt_7 : decode cX10_storeAt 7 = .ok (.iconst 2, 1) := by decide +kernel
theorem dX10_storeAt_8 : decode cX10_storeAt 8 = .ok (.iadd, 1) := by decide +kernel
theorem dX10_storeAt_9 : decode cX10_storeAt 9 = .ok (.iload_n 1, 1) := by decide +kernel
theorem dX10_storeAt_10 : decode cX10_storeAt 10 = .ok (.iadd, 1) := by decide +kernel
theorem dX10_storeAt_11 : decode cX10_storeAt 11 = .ok (.ireturn, 1) := by decide +kernel
theorem dX10_loanAt_0 : decode cX10_loanAt 0 = .ok (.bipush 55, 2) := by decide +kernel
theorem dX10_loanAt_2 : decode cX10_loanAt 2 = .ok (.iconst 5, 1) := by decide +kernel
theorem dX10_loanAt_3 : decode cX10_loanAt 3 = .ok (.iload_n 0, 1) := by decide +kernel
theorem dX10_loanAt_4 : decode cX10_loanAt 4 = .ok (.imul, 1) := by decide +kernel
theorem dX10_loanAt_5 : decode cX10_loanAt 5 = .ok (.iadd, 1) := by decide +kernel
theorem dX10_loanAt_6 : decode cX10_loanAt 6 = .ok (.iload_n 1, 1) := by decide +kernel
theorem dX10_loanAt_7 : decode cX10_loanAt 7 = .ok (.iadd, 1) := by decide +kernel
theorem dX10_loanAt_8 : decode cX10_loanAt 8 = .ok (.ireturn, 1) := by decide +kernel
theorem dX10_loanIs_0 : decode cX10_loanIs 0 = .ok (.aload_n 0, 1) := by decide +kernel
theorem dX10_loanIs_1 : decode cX10_loanIs 1 = .ok (.getfield 9, 3) := by decide +kernel
theorem dX10_loanIs_4 : decode cX10_loanIs 4 = .ok (.iload_n 1, 1) := by decide +kernel
theorem dX10_loanIs_5 : decode cX10_loanIs 5 = .ok (.iload_n 2, 1) := by decide +kernel
theorem dX10_loanIs_6 : decode cX10_loanIs 6 = .ok (.invokestatic 159, 3) := by decide +kernel
theorem dX10_loanIs_9 : decode cX10_loanIs 9 = .ok (.iaload, 1) := by decide +kernel
theorem dX10_loanIs_10 : decode cX10_loanIs 10 = .ok (.ireturn, 1) := by decide +kernel
theorem dX10_ashComes_0 : decode cX10_ashComes 0 = .ok (.aload_n 0, 1) := by decide +kernel
theorem dX10_ashComes_1 : decode cX10_ashComes 1 = .ok (.getfield 9, 3) := by decide +kernel
theorem dX10_ashComes_4 : decode cX10_ashComes 4 = .ok (.iconst 1, 1) := by decide +kernel
theorem dX10_ashComes_5 : decode cX10_ashComes 5 = .ok (.iaload, 1) := by decide +kernel
theorem dX10_ashComes_6 : decode cX10_ashComes 6 = .ok (.istore_n 2, 1) := by decide +kernel
theorem dX10_ashComes_7 : decode cX10_ashComes 7 = .ok (.aload_n 0, 1) := by decide +kernel
theorem dX10_ashComes_8 : decode cX10_ashComes 8 = .ok (.getfield 9, 3) := by decide +kernel
theorem dX10_ashComes_11 : decode cX10_ashComes 11 = .ok (.iload_n 2, 1) := by decide +kernel
theorem dX10_ashComes_12 : decode cX10_ashComes 12 = .ok (.iconst 0, 1) := by decide +kernel
theorem dX10_ashComes_13 : decode cX10_ashComes 13 = .ok (.invokestatic 156, 3) := by decide +kernel
theorem dX10_ashComes_16 : decode cX10_ashComes 16 = .ok (.iload_n 1, 1) := by decide +kernel
theorem dX10_ashComes_17 : decode cX10_ashComes 17 = .ok (.bipush 10, 2) := by decide +kernel
theorem dX10_ashComes_19 : decode cX10_ashComes 19 = .ok (.idiv, 1) := by decide +kernel
theorem dX10_ashComes_20 : decode cX10_ashComes 20 = .ok (.iastore, 1) := by decide +kernel
theorem dX10_ashComes_21 : decode cX10_ashComes 21 = .ok (.aload_n 0, 1) := by decide +kernel
theorem dX10_ashComes_22 : decode cX10_ashComes 22 = .ok (.getfield 9, 3) := by decide +kernel
theorem dX10_ashComes_25 : decode cX10_ashComes 25 = .ok (.iload_n 2, 1) := by decide +kernel
theorem dX10_ashComes_26 : decode cX10_ashComes 26 = .ok (.iconst 1, 1) := by decide +kernel
theorem dX10_ashComes_27 : decode cX10_ashComes 27 = .ok (.invokestatic 156, 3) := by decide +kernel
theorem dX10_ashComes_30 : decode cX10_ashComes 30 = .ok (.iload_n 1, 1) := by decide +kernel
theorem dX10_ashComes_31 : decode cX10_ashComes 31 = .ok (.bipush 10, 2) := by decide +kernel
theorem dX10_ashComes_33 : decode cX10_ashComes 33 = .ok (.irem, 1) := by decide +kernel
theorem dX10_ashComes_34 : decode cX10_ashComes 34 = .ok (.iastore, 1) := by decide +kernel
theorem dX10_ashComes_35 : decode cX10_ashComes 35 = .ok (.aload_n 0, 1) := by decide +kernel
theorem dX10_ashComes_36 : decode cX10_ashComes 36 = .ok (.getfield 9, 3) := by decide +kernel
theorem dX10_ashComes_39 : decode cX10_ashComes 39 = .ok (.iload_n 2, 1) := by decide +kernel
theorem dX10_ashComes_40 : decode cX10_ashComes 40 = .ok (.iconst 2, 1) := by decide +kernel
theorem dX10_ashComes_41 : decode cX10_ashComes 41 = .ok (.invokestatic 156, 3) := by decide +kernel
theorem dX10_ashComes_44 : decode cX10_ashComes 44 = .ok (.iconst 0, 1) := by decide +kernel
theorem dX10_ashComes_45 : decode cX10_ashComes 45 = .ok (.iastore, 1) := by decide +kernel
theorem dX10_ashComes_46 : decode cX10_ashComes 46 = .ok (.aload_n 0, 1) := by decide +kernel
theorem dX10_ashComes_47 : decode cX10_ashComes 47 = .ok (.getfield 9, 3) := by decide +kernel
theorem dX10_ashComes_50 : decode cX10_ashComes 50 = .ok (.iload_n 2, 1) := by decide +kernel
theorem dX10_ashComes_51 : decode cX10_ashComes 51 = .ok (.iconst 3, 1) := by decide +kernel
theorem dX10_ashComes_52 : decode cX10_ashComes 52 = .ok (.invokestatic 156, 3) := by decide +kernel
theorem dX10_ashComes_55 : decode cX10_ashComes 55 = .ok (.iconst 0, 1) := by decide +kernel
theorem dX10_ashComes_56 : decode cX10_ashComes 56 = .ok (.iastore, 1) := by decide +kernel
theorem dX10_ashComes_57 : decode cX10_ashComes 57 = .ok (.iconst 0, 1) := by decide +kernel
theorem dX10_ashComes_58 : decode cX10_ashComes 58 = .ok (.istore_n 3, 1) := by decide +kernel
theorem dX10_ashComes_59 : decode cX10_ashComes 59 = .ok (.iload_n 3, 1) := by decide +kernel
theorem dX10_ashComes_60 : decode cX10_ashComes 60 = .ok (.iconst 4, 1) := by decide +kernel
theorem dX10_ashComes_61 : decode cX10_ashComes 61 = .ok (.if_icmp .ge 20, 3) := by decide +kernel
theorem dX10_ashComes_64 : decode cX10_ashComes 64 = .ok (.aload_n 0, 1) := by decide +kernel
theorem dX10_ashComes_65 : decode cX10_ashComes 65 = .ok (.getfield 9, 3) := by decide +kernel
theorem dX10_ashComes_68 : decode cX10_ashComes 68 = .ok (.iload_n 3, 1) := by decide +kernel
theorem dX10_ashComes_69 : decode cX10_ashComes 69 = .ok (.iload_n 2, 1) := by decide +kernel
theorem dX10_ashComes_70 : decode cX10_ashComes 70 = .ok (.invokestatic 162, 3) := by decide +kernel
theorem dX10_ashComes_73 : decode cX10_ashComes 73 = .ok (.iconst 0, 1) := by decide +kernel
theorem dX10_ashComes_74 : decode cX10_ashComes 74 = .ok (.iastore, 1) := by decide +kernel
theorem dX10_ashComes_75 : decode cX10_ashComes 75 = .ok (.iinc 3 1, 3) := by decide +kernel
theorem dX10_ashComes_78 : decode cX10_ashComes 78 = .ok (.goto (-19), 3) := by decide +kernel
theorem dX10_ashComes_81 : decode cX10_ashComes 81 = .ok (.aload_n 0, 1) := by decide +kernel
theorem dX10_ashComes_82 : decode cX10_ashComes 82 = .ok (.getfield 9, 3) := by decide +kernel
theorem dX10_ashComes_85 : decode cX10_ashComes 85 = .ok (.iconst 1, 1) := by decide +kernel
theorem dX10_ashComes_86 : decode cX10_ashComes 86 = .ok (.dup2, 1) := by decide +kernel
theorem dX10_ashComes_87 : decode cX10_ashComes 87 = .ok (.iaload, 1) := by decide +kernel
theorem dX10_ashComes_88 : decode cX10_ashComes 88 = .ok (.iconst 1, 1) := by decide +kernel
theorem dX10_ashComes_89 : decode cX10_ashComes 89 = .ok (.iadd, 1) := by decide +kernel
theorem dX10_ashComes_90 : decode cX10_ashComes 90 = .ok (.iastore, 1) := by decide +kernel
theorem dX10_ashComes_91 : decode cX10_ashComes 91 = .ok (.iload_n 2, 1) := by decide +kernel
theorem dX10_ashComes_92 : decode cX10_ashComes 92 = .ok (.ireturn, 1) := by decide +kernel
theorem dX10_ash_0 : decode cX10_ash 0 = .ok (.iload_n 1, 1) := by decide +kernel
theorem dX10_ash_1 : decode cX10_ash 1 = .ok (.invokestatic 165, 3) := by decide +kernel
theorem dX10_ash_4 : decode cX10_ash 4 = .ok (.ifCond .ne 10, 3) := by decide +kernel
theorem dX10_ash_7 : decode cX10_ash 7 = .ok (.aload_n 0, 1) := by decide +kernel
theorem dX10_ash_8 : decode cX10_ash 8 = .ok (.ldc 74, 2) := by decide +kernel
theorem dX10_ash_10 : decode cX10_ash 10 = .ok (.invokevirtual 75, 3) := by decide +kernel
theorem dX10_ash_13 : decode cX10_ash 13 = .ok (.ireturn, 1) := by decide +kernel
theorem dX10_ash_14 : decode cX10_ash 14 = .ok (.aload_n 0, 1) := by decide +kernel
theorem dX10_ash_15 : decode cX10_ash 15 = .ok (.getfield 9, 3) := by decide +kernel
theorem dX10_ash_18 : decode cX10_ash 18 = .ok (.iconst 1, 1) := by decide +kernel
theorem dX10_ash_19 : decode cX10_ash 19 = .ok (.iaload, 1) := by decide +kernel
theorem dX10_ash_20 : decode cX10_ash 20 = .ok (.iconst 5, 1) := by decide +kernel
theorem dX10_ash_21 : decode cX10_ash 21 = .ok (.if_icmp .ne 12, 3) := by decide +kernel
theorem dX10_ash_24 : decode cX10_ash 24 = .ok (.aload_n 0, 1) := by decide +kernel
theorem dX10_ash_25 : decode cX10_ash 25 = .ok (.ldc 79, 2) := by decide +kernel
theorem dX10_ash_27 : decode cX10_ash 27 = .ok (.invokevirtual 75, 3) := by decide +kernel
theorem dX10_ash_30 : decode cX10_ash 30 = .ok (.goto 8, 3) := by decide +kernel
theorem dX10_ash_33 : decode cX10_ash 33 = .ok (.aload_n 0, 1) := by decide +kernel
theorem dX10_ash_34 : decode cX10_ash 34 = .ok (.iload_n 1, 1) := by decide +kernel
theorem dX10_ash_35 : decode cX10_ash 35 = .ok (.invokevirtual 168, 3) := by decide +kernel
theorem dX10_ash_38 : decode cX10_ash 38 = .ok (.ireturn, 1) := by decide +kernel
theorem dX10_allOf_0 : decode cX10_allOf 0 = .ok (.iconst 0, 1) := by decide +kernel
theorem dX10_allOf_1 : decode cX10_allOf 1 = .ok (.istore_n 2, 1) := by decide +kernel
theorem dX10_allOf_2 : decode cX10_allOf 2 = .ok (.iconst 0, 1) := by decide +kernel
theorem dX10_allOf_3 : decode cX10_allOf 3 = .ok (.istore_n 3, 1) := by decide +kernel
theorem dX10_allOf_4 : decode cX10_allOf 4 = .ok (.iload_n 3, 1) := by decide +kernel
theorem dX10_allOf_5 : decode cX10_allOf 5 = .ok (.aload_n 0, 1) := by decide +kernel
theorem dX10_allOf_6 : decode cX10_allOf 6 = .ok (.getfield 9, 3) := by decide +kernel
theorem dX10_allOf_9 : decode cX10_allOf 9 = .ok (.iconst 2, 1) := by decide +kernel
theorem dX10_allOf_10 : decode cX10_allOf 10 = .ok (.iaload, 1) := by decide +kernel
theorem dX10_allOf_11 : decode cX10_allOf 11 = .ok (.if_icmp .ge 22, 3) := by decide +kernel
theorem dX10_allOf_14 : decode cX10_allOf 14 = .ok (.iload_n 2, 1) := by decide +kernel
theorem dX10_allOf_15 : decode cX10_allOf 15 = .ok (.aload_n 0, 1) := by decide +kernel
theorem dX10_allOf_16 : decode cX10_allOf 16 = .ok (.getfield 9, 3) := by decide +kernel
theorem dX10_allOf_19 : decode cX10_allOf 19 = .ok (.iload_n 3, 1) := by decide +kernel
theorem dX10_allOf_20 : decode cX10_allOf 20 = .ok (.iload_n 1, 1) := by decide +kernel
theorem dX10_allOf_21 : decode cX10_allOf 21 = .ok (.invokestatic 162, 3) := by decide +kernel
theorem dX10_allOf_24 : decode cX10_allOf 24 = .ok (.iaload, 1) := by decide +kernel
theorem dX10_allOf_25 : decode cX10_allOf 25 = .ok (.iadd, 1) := by decide +kernel
theorem dX10_allOf_26 : decode cX10_allOf 26 = .ok (.istore_n 2, 1) := by decide +kernel
theorem dX10_allOf_27 : decode cX10_allOf 27 = .ok (.iinc 3 1, 3) := by decide +kernel
theorem dX10_allOf_30 : decode cX10_allOf 30 = .ok (.goto (-26), 3) := by decide +kernel
theorem dX10_allOf_33 : decode cX10_allOf 33 = .ok (.iload_n 2, 1) := by decide +kernel
theorem dX10_allOf_34 : decode cX10_allOf 34 = .ok (.ireturn, 1) := by decide +kernel
theorem dX10_ofAsh_0 : decode cX10_ofAsh 0 = .ok (.aload_n 0, 1) := by decide +kernel
theorem dX10_ofAsh_1 : decode cX10_ofAsh 1 = .ok (.iload_n 1, 1) := by decide +kernel
theorem dX10_ofAsh_2 : decode cX10_ofAsh 2 = .ok (.invokevirtual 171, 3) := by decide +kernel
theorem dX10_ofAsh_5 : decode cX10_ofAsh 5 = .ok (.ifCond .eq 12, 3) := by decide +kernel
theorem dX10_ofAsh_8 : decode cX10_ofAsh 8 = .ok (.iload_n 2, 1) := by decide +kernel
theorem dX10_ofAsh_9 : decode cX10_ofAsh 9 = .ok (.iconst 0, 1) := by decide +kernel
theorem dX10_ofAsh_10 : decode cX10_ofAsh 10 = .ok (.iconst 4, 1) := by decide +kernel
theorem dX10_ofAsh_11 : decode cX10_ofAsh 11 = .ok (.invokestatic 70, 3) := by decide +kernel
theorem dX10_ofAsh_14 : decode cX10_ofAsh 14 = .ok (.ifCond .ne 10, 3) := by decide +kernel
theorem dX10_ofAsh_17 : decode cX10_ofAsh 17 = .ok (.aload_n 0, 1) := by decide +kernel
theorem dX10_ofAsh_18 : decode cX10_ofAsh 18 = .ok (.ldc 74, 2) := by decide +kernel
theorem dX10_ofAsh_20 : decode cX10_ofAsh 20 = .ok (.invokevirtual 75, 3) := by decide +kernel
theorem dX10_ofAsh_23 : decode cX10_ofAsh 23 = .ok (.ireturn, 1) := by decide +kernel
theorem dX10_ofAsh_24 : decode cX10_ofAsh 24 = .ok (.iload_n 2, 1) := by decide +kernel
theorem dX10_ofAsh_25 : decode cX10_ofAsh 25 = .ok (.iconst 4, 1) := by decide +kernel
theorem dX10_ofAsh_26 : decode cX10_ofAsh 26 = .ok (.if_icmp .ne 11, 3) := by decide +kernel
theorem dX10_ofAsh_29 : decode cX10_ofAsh 29 = .ok (.aload_n 0, 1) := by decide +kernel
theorem dX10_ofAsh_30 : decode cX10_ofAsh 30 = .ok (.iload_n 1, 1) := by decide +kernel
theorem dX10_ofAsh_31 : decode cX10_ofAsh 31 = .ok (.invokevirtual 174, 3) := by decide +kernel
theorem dX10_ofAsh_34 : decode cX10_ofAsh 34 = .ok (.goto 9, 3) := by decide +kernel
theorem dX10_ofAsh_37 : decode cX10_ofAsh 37 = .ok (.aload_n 0, 1) := by decide +kernel
theorem dX10_ofAsh_38 : decode cX10_ofAsh 38 = .ok (.iload_n 1, 1) := by decide +kernel
theorem dX10_ofAsh_39 : decode cX10_ofAsh 39 = .ok (.iload_n 2, 1) := by decide +kernel
theorem dX10_ofAsh_40 : decode cX10_ofAsh 40 = .ok (.invokevirtual 177, 3) := by decide +kernel
theorem dX10_ofAsh_43 : decode cX10_ofAsh 43 = .ok (.ireturn, 1) := by decide +kernel
theorem dX10_hedge_0 : decode cX10_hedge 0 = .ok (.aload_n 0, 1) := by decide +kernel
theorem dX10_hedge_1 : decode cX10_hedge 1 = .ok (.iload_n 1, 1) := by decide +kernel
theorem dX10_hedge_2 : decode cX10_hedge 2 = .ok (.invokevirtual 171, 3) := by decide +kernel
theorem dX10_hedge_5 : decode cX10_hedge 5 = .ok (.ifCond .eq 30, 3) := by decide +kernel
theorem dX10_hedge_8 : decode cX10_hedge 8 = .ok (.iload_n 2, 1) := by decide +kernel
theorem dX10_hedge_9 : decode cX10_hedge 9 = .ok (.iconst 0, 1) := by decide +kernel
theorem dX10_hedge_10 : decode cX10_hedge 10 = .ok (.iconst 1, 1) := by decide +kernel
theorem dX10_hedge_11 : decode cX10_hedge 11 = .ok (.invokestatic 70, 3) := by decide +kernel
theorem dX10_hedge_14 : decode cX10_hedge 14 = .ok (.ifCond .eq 21, 3) := by decide +kernel
theorem dX10_hedge_17 : decode cX10_hedge 17 = .ok (.iload_n 3, 1) := by decide +kernel
theorem dX10_hedge_18 : decode cX10_hedge 18 = .ok (.iconst 0, 1) := by decide +kernel
theorem dX10_hedge_19 : decode cX10_hedge 19 = .ok (.iload_n 2, 1) := by decide +kernel
theorem dX10_hedge_20 : decode cX10_hedge 20 = .ok (.ifCond .ne 8, 3) := by decide +kernel
theorem dX10_hedge_23 : decode cX10_hedge 23 = .ok (.bipush 9, 2) := by decide +kernel
theorem dX10_hedge_25 : decode cX10_hedge 25 = .ok (.goto 4, 3) := by decide +kernel
theorem dX10_hedge_28 : decode cX10_hedge 28 = .ok (.iconst 3, 1) := by decide +kernel
theorem dX10_hedge_29 : decode cX10_hedge 29 = .ok (.invokestatic 70, 3) := by decide +kernel
theorem dX10_hedge_32 : decode cX10_hedge 32 = .ok (.ifCond .ne 10, 3) := by decide +kernel
theorem dX10_hedge_35 : decode cX10_hedge 35 = .ok (.aload_n 0, 1) := by decide +kernel
theorem dX10_hedge_36 : decode cX10_hedge 36 = .ok (.ldc 74, 2) := by decide +kernel
theorem dX10_hedge_38 : decode cX10_hedge 38 = .ok (.invokevirtual 75, 3) := by decide +kernel
theorem dX10_hedge_41 : decode cX10_hedge 41 = .ok (.ireturn, 1) := by decide +kernel
theorem dX10_hedge_42 : decode cX10_hedge 42 = .ok (.aload_n 0, 1) := by decide +kernel
theorem dX10_hedge_43 : decode cX10_hedge 43 = .ok (.iload_n 1, 1) := by decide +kernel
theorem dX10_hedge_44 : decode cX10_hedge 44 = .ok (.iload_n 2, 1) := by decide +kernel
theorem dX10_hedge_45 : decode cX10_hedge 45 = .ok (.ifCond .ne 7, 3) := by decide +kernel
theorem dX10_hedge_48 : decode cX10_hedge 48 = .ok (.iconst 2, 1) := by decide +kernel
theorem dX10_hedge_49 : decode cX10_hedge 49 = .ok (.goto 4, 3) := by decide +kernel
theorem dX10_hedge_52 : decode cX10_hedge 52 = .ok (.iconst 3, 1) := by decide +kernel
theorem dX10_hedge_53 : decode cX10_hedge 53 = .ok (.invokestatic 156, 3) := by decide +kernel
theorem dX10_hedge_56 : decode cX10_hedge 56 = .ok (.iload_n 3, 1) := by decide +kernel
theorem dX10_hedge_57 : decode cX10_hedge 57 = .ok (.invokevirtual 180, 3) := by decide +kernel
theorem dX10_hedge_60 : decode cX10_hedge 60 = .ok (.ireturn, 1) := by decide +kernel
theorem dX10_become_0 : decode cX10_become 0 = .ok (.aload_n 0, 1) := by decide +kernel
theorem dX10_become_1 : decode cX10_become 1 = .ok (.iload_n 1, 1) := by decide +kernel
theorem dX10_become_2 : decode cX10_become 2 = .ok (.invokevirtual 171, 3) := by decide +kernel
theorem dX10_become_5 : decode cX10_become 5 = .ok (.ifCond .eq 10, 3) := by decide +kernel
theorem dX10_become_8 : decode cX10_become 8 = .ok (.iload_n 2, 1) := by decide +kernel
theorem dX10_become_9 : decode cX10_become 9 = .ok (.invokestatic 165, 3) := by decide +kernel
theorem dX10_become_12 : decode cX10_become 12 = .ok (.ifCond .ne 10, 3) := by decide +kernel
theorem dX10_become_15 : decode cX10_become 15 = .ok (.aload_n 0, 1) := by decide +kernel
theorem dX10_become_16 : decode cX10_become 16 = .ok (.ldc 74, 2) := by decide +kernel
theorem dX10_become_18 : decode cX10_become 18 = .ok (.invokevirtual 75, 3) := by decide +kernel
theorem dX10_become_21 : decode cX10_become 21 = .ok (.ireturn, 1) := by decide +kernel
theorem dX10_become_22 : decode cX10_become 22 = .ok (.aload_n 0, 1) := by decide +kernel
theorem dX10_become_23 : decode cX10_become 23 = .ok (.getfield 9, 3) := by decide +kernel
theorem dX10_become_26 : decode cX10_become 26 = .ok (.iload_n 1, 1) := by decide +kernel
theorem dX10_become_27 : decode cX10_become 27 = .ok (.iconst 1, 1) := by decide +kernel
theorem dX10_become_28 : decode cX10_become 28 = .ok (.invokestatic 156, 3) := by decide +kernel
theorem dX10_become_31 : decode cX10_become 31 = .ok (.iload_n 2, 1) := by decide +kernel
theorem dX10_become_32 : decode cX10_become 32 = .ok (.bipush 10, 2) := by decide +kernel
theorem dX10_become_34 : decode cX10_become 34 = .ok (.irem, 1) := by decide +kernel
theorem dX10_become_35 : decode cX10_become 35 = .ok (.iastore, 1) := by decide +kernel
theorem dX10_become_36 : decode cX10_become 36 = .ok (.aload_n 0, 1) := by decide +kernel
theorem dX10_become_37 : decode cX10_become 37 = .ok (.iload_n 1, 1) := by decide +kernel
theorem dX10_become_38 : decode cX10_become 38 = .ok (.iconst 0, 1) := by decide +kernel
theorem dX10_become_39 : decode cX10_become 39 = .ok (.invokestatic 156, 3) := by decide +kernel
theorem dX10_become_42 : decode cX10_become 42 = .ok (.iload_n 2, 1) := by decide +kernel
theorem dX10_become_43 : decode cX10_become 43 = .ok (.bipush 10, 2) := by decide +kernel
theorem dX10_become_45 : decode cX10_become 45 = .ok (.idiv, 1) := by decide +kernel
theorem dX10_become_46 : decode cX10_become 46 = .ok (.invokevirtual 180, 3) := by decide +kernel
theorem dX10_become_49 : decode cX10_become 49 = .ok (.ireturn, 1) := by decide +kernel
theorem dX10_above_0 : decode cX10_above 0 = .ok (.iload_n 0, 1) := by decide +kernel
theorem dX10_above_1 : decode cX10_above 1 = .ok (.ifCond .ne 7, 3) := by decide +kernel
theorem dX10_above_4 : decode cX10_above 4 = .ok (.iconst (-1), 1) := by decide +kernel
theorem dX10_above_5 : decode cX10_above 5 = .ok (.goto 32, 3) := by decide +kernel
theorem dX10_above_8 : decode cX10_above 8 = .ok (.iload_n 0, 1) := by decide +kernel
theorem dX10_above_9 : decode cX10_above 9 = .ok (.iconst 4, 1) := by decide +kernel
theorem dX10_above_10 : decode cX10_above 10 = .ok (.if_icmp .ne 7, 3) := by decide +kernel
theorem dX10_above_13 : decode cX10_above 13 = .ok (.iconst 1, 1) := by decide +kernel
theorem dX10_above_14 : decode cX10_above 14 = .ok (.goto 23, 3) := by decide +kernel
theorem dX10_above_17 : decode cX10_above 17 = .ok (.iload_n 0, 1) := by decide +kernel
theorem dX10_above_18 : decode cX10_above 18 = .ok (.iconst 5, 1) := by decide +kernel
theorem dX10_above_19 : decode cX10_above 19 = .ok (.if_icmp .ne 7, 3) := by decide +kernel
theorem dX10_above_22 : decode cX10_above 22 = .ok (.iconst 2, 1) := by decide +kernel
theorem dX10_above_23 : decode cX10_above 23 = .ok (.goto 14, 3) := by decide +kernel
theorem dX10_above_26 : decode cX10_above 26 = .ok (.iload_n 0, 1) := by decide +kernel
theorem dX10_above_27 : decode cX10_above 27 = .ok (.bipush 6, 2) := by decide +kernel
theorem dX10_above_29 : decode cX10_above 29 = .ok (.if_icmp .ne 7, 3) := by decide +kernel
theorem dX10_above_32 : decode cX10_above 32 = .ok (.iconst 3, 1) := by decide +kernel
theorem dX10_above_33 : decode cX10_above 33 = .ok (.goto 4, 3) := by decide +kernel
theorem dX10_above_36 : decode cX10_above 36 = .ok (.iconst 0, 1) := by decide +kernel
theorem dX10_above_37 : decode cX10_above 37 = .ok (.ireturn, 1) := by decide +kernel
theorem dX10_isUnder_0 : decode cX10_isUnder 0 = .ok (.iload_n 0, 1) := by decide +kernel
theorem dX10_isUnder_1 : decode cX10_isUnder 1 = .ok (.istore_n 2, 1) := by decide +kernel
theorem dX10_isUnder_2 : decode cX10_isUnder 2 = .ok (.iload_n 2, 1) := by decide +kernel
theorem dX10_isUnder_3 : decode cX10_isUnder 3 = .ok (.ifCond .lt 16, 3) := by decide +kernel
theorem dX10_isUnder_6 : decode cX10_isUnder 6 = .ok (.iload_n 2, 1) := by decide +kernel
theorem dX10_isUnder_7 : decode cX10_isUnder 7 = .ok (.iload_n 1, 1) := by decide +kernel
theorem dX10_isUnder_8 : decode cX10_isUnder 8 = .ok (.if_icmp .eq 11, 3) := by decide +kernel
theorem dX10_isUnder_11 : decode cX10_isUnder 11 = .ok (.iload_n 2, 1) := by decide +kernel
theorem dX10_isUnder_12 : decode cX10_isUnder 12 = .ok (.invokestatic 183, 3) := by decide +kernel
theorem dX10_isUnder_15 : decode cX10_isUnder 15 = .ok (.istore_n 2, 1) := by decide +kernel
theorem dX10_isUnder_16 : decode cX10_isUnder 16 = .ok (.goto (-14), 3) := by decide +kernel
theorem dX10_isUnder_19 : decode cX10_isUnder 19 = .ok (.iload_n 2, 1) := by decide +kernel
theorem dX10_isUnder_20 : decode cX10_isUnder 20 = .ok (.ifCond .lt 7, 3) := by decide +kernel
theorem dX10_isUnder_23 : decode cX10_isUnder 23 = .ok (.iconst 1, 1) := by decide +kernel
theorem dX10_isUnder_24 : decode cX10_isUnder 24 = .ok (.goto 4, 3) := by decide +kernel
theorem dX10_isUnder_27 : decode cX10_isUnder 27 = .ok (.iconst 0, 1) := by decide +kernel
theorem dX10_isUnder_28 : decode cX10_isUnder 28 = .ok (.ireturn, 1) := by decide +kernel
theorem dX10_as_0 : decode cX10_as 0 = .ok (.aload_n 0, 1) := by decide +kernel
theorem dX10_as_1 : decode cX10_as 1 = .ok (.iload_n 1, 1) := by decide +kernel
theorem dX10_as_2 : decode cX10_as 2 = .ok (.invokevirtual 171, 3) := by decide +kernel
theorem dX10_as_5 : decode cX10_as 5 = .ok (.ifCond .eq 13, 3) := by decide +kernel
theorem dX10_as_8 : decode cX10_as 8 = .ok (.iload_n 2, 1) := by decide +kernel
theorem dX10_as_9 : decode cX10_as 9 = .ok (.iconst 0, 1) := by decide +kernel
theorem dX10_as_10 : decode cX10_as 10 = .ok (.bipush 6, 2) := by decide +kernel
theorem dX10_as_12 : decode cX10_as 12 = .ok (.invokestatic 70, 3) := by decide +kernel
theorem dX10_as_15 : decode cX10_as 15 = .ok (.ifCond .ne 10, 3) := by decide +kernel
theorem dX10_as_18 : decode cX10_as 18 = .ok (.aload_n 0, 1) := by decide +kernel
theorem dX10_as_19 : decode cX10_as 19 = .ok (.ldc 74, 2) := by decide +kernel
theorem dX10_as_21 : decode cX10_as 21 = .ok (.invokevirtual 75, 3) := by decide +kernel
theorem dX10_as_24 : decode cX10_as 24 = .ok (.ireturn, 1) := by decide +kernel
theorem dX10_as_25 : decode cX10_as 25 = .ok (.aload_n 0, 1) := by decide +kernel
theorem dX10_as_26 : decode cX10_as 26 = .ok (.iload_n 1, 1) := by decide +kernel
theorem dX10_as_27 : decode cX10_as 27 = .ok (.iconst 0, 1) := by decide +kernel
theorem dX10_as_28 : decode cX10_as 28 = .ok (.invokevirtual 177, 3) := by decide +kernel
theorem dX10_as_31 : decode cX10_as 31 = .ok (.iload_n 2, 1) := by decide +kernel
theorem dX10_as_32 : decode cX10_as 32 = .ok (.invokestatic 186, 3) := by decide +kernel
theorem dX10_as_35 : decode cX10_as 35 = .ok (.ifCond .eq 12, 3) := by decide +kernel
theorem dX10_as_38 : decode cX10_as 38 = .ok (.aload_n 0, 1) := by decide +kernel
theorem dX10_as_39 : decode cX10_as 39 = .ok (.iload_n 1, 1) := by decide +kernel
theorem dX10_as_40 : decode cX10_as 40 = .ok (.iconst 1, 1) := by decide +kernel
theorem dX10_as_41 : decode cX10_as 41 = .ok (.invokevirtual 177, 3) := by decide +kernel
theorem dX10_as_44 : decode cX10_as 44 = .ok (.goto 9, 3) := by decide +kernel
theorem dX10_as_47 : decode cX10_as 47 = .ok (.aload_n 0, 1) := by decide +kernel
theorem dX10_as_48 : decode cX10_as 48 = .ok (.ldc 190, 2) := by decide +kernel
theorem dX10_as_50 : decode cX10_as 50 = .ok (.invokevirtual 75, 3) := by decide +kernel
theorem dX10_as_53 : decode cX10_as 53 = .ok (.ireturn, 1) := by decide +kernel
theorem dX10_potter_0 : decode cX10_potter 0 = .ok (.aload_n 0, 1) := by decide +kernel
theorem dX10_potter_1 : decode cX10_potter 1 = .ok (.getfield 9, 3) := by decide +kernel
theorem dX10_potter_4 : decode cX10_potter 4 = .ok (.iconst 2, 1) := by decide +kernel
theorem dX10_potter_5 : decode cX10_potter 5 = .ok (.iaload, 1) := by decide +kernel
theorem dX10_potter_6 : decode cX10_potter 6 = .ok (.istore_n 1, 1) := by decide +kernel
theorem dX10_potter_7 : decode cX10_potter 7 = .ok (.iload_n 1, 1) := by decide +kernel
theorem dX10_potter_8 : decode cX10_potter 8 = .ok (.iconst 4, 1) := by decide +kernel
theorem dX10_potter_9 : decode cX10_potter 9 = .ok (.if_icmp .ne 10, 3) := by decide +kernel
theorem dX10_potter_12 : decode cX10_potter 12 = .ok (.aload_n 0, 1) := by decide +kernel
theorem dX10_potter_13 : decode cX10_potter 13 = .ok (.ldc 79, 2) := by decide +kernel
theorem dX10_potter_15 : decode cX10_potter 15 = .ok (.invokevirtual 75, 3) := by decide +kernel
theorem dX10_potter_18 : decode cX10_potter 18 = .ok (.ireturn, 1) := by decide +kernel
theorem dX10_potter_19 : decode cX10_potter 19 = .ok (.iconst 0, 1) := by decide +kernel
theorem dX10_potter_20 : decode cX10_potter 20 = .ok (.istore_n 2, 1) := by decide +kernel
theorem dX10_potter_21 : decode cX10_potter 21 = .ok (.iload_n 2, 1) := by decide +kernel
theorem dX10_potter_22 : decode cX10_potter 22 = .ok (.bipush 7, 2) := by decide +kernel
theorem dX10_potter_24 : decode cX10_potter 24 = .ok (.if_icmp .ge 20, 3) := by decide +kernel
theorem dX10_potter_27 : decode cX10_potter 27 = .ok (.aload_n 0, 1) := by decide +kernel
theorem dX10_potter_28 : decode cX10_potter 28 = .ok (.getfield 9, 3) := by decide +kernel
theorem dX10_potter_31 : decode cX10_potter 31 = .ok (.iload_n 1, 1) := by decide +kernel
theorem dX10_potter_32 : decode cX10_potter 32 = .ok (.iload_n 2, 1) := by decide +kernel
theorem dX10_potter_33 : decode cX10_potter 33 = .ok (.invokestatic 191, 3) := by decide +kernel
theorem dX10_potter_36 : decode cX10_potter 36 = .ok (.iconst 0, 1) := by decide +kernel
theorem dX10_potter_37 : decode cX10_potter 37 = .ok (.iastore, 1) := by decide +kernel
theorem dX10_potter_38 : decode cX10_potter 38 = .ok (.iinc 2 1, 3) := by decide +kernel
theorem dX10_potter_41 : decode cX10_potter 41 = .ok (.goto (-20), 3) := by decide +kernel
theorem dX10_potter_44 : decode cX10_potter 44 = .ok (.aload_n 0, 1) := by decide +kernel
theorem dX10_potter_45 : decode cX10_potter 45 = .ok (.getfield 9, 3) := by decide +kernel
theorem dX10_potter_48 : decode cX10_potter 48 = .ok (.iconst 2, 1) := by decide +kernel
theorem dX10_potter_49 : decode cX10_potter 49 = .ok (.dup2, 1) := by decide +kernel
theorem dX10_potter_50 : decode cX10_potter 50 = .ok (.iaload, 1) := by decide +kernel
theorem dX10_potter_51 : decode cX10_potter 51 = .ok (.iconst 1, 1) := by decide +kernel
theorem dX10_potter_52 : decode cX10_potter 52 = .ok (.iadd, 1) := by decide +kernel
theorem dX10_potter_53 : decode cX10_potter 53 = .ok (.iastore, 1) := by decide +kernel
theorem dX10_potter_54 : decode cX10_potter 54 = .ok (.iload_n 1, 1) := by decide +kernel
theorem dX10_potter_55 : decode cX10_potter 55 = .ok (.ireturn, 1) := by decide +kernel
theorem dX10_loansOf_0 : decode cX10_loansOf 0 = .ok (.iconst 0, 1) := by decide +kernel
theorem dX10_loansOf_1 : decode cX10_loansOf 1 = .ok (.istore_n 3, 1) := by decide +kernel
theorem dX10_loansOf_2 : decode cX10_loansOf 2 = .ok (.iconst 0, 1) := by decide +kernel
theorem dX10_loansOf_3 : decode cX10_loansOf 3 = .ok (.istore 4, 2) := by decide +kernel
theorem dX10_loansOf_5 : decode cX10_loansOf 5 = .ok (.iload 4, 2) := by decide +kernel
theorem dX10_loansOf_7 : decode cX10_loansOf 7 = .ok (.aload_n 0, 1) := by decide +kernel
theorem dX10_loansOf_8 : decode cX10_loansOf 8 = .ok (.getfield 9, 3) := by decide +kernel
theorem dX10_loansOf_11 : decode cX10_loansOf 11 = .ok (.iconst 3, 1) := by decide +kernel
theorem dX10_loansOf_12 : decode cX10_loansOf 12 = .ok (.iaload, 1) := by decide +kernel
theorem dX10_loansOf_13 : decode cX10_loansOf 13 = .ok (.if_icmp .ge 43, 3) := by decide +kernel
theorem dX10_loansOf_16 : decode cX10_loansOf 16 = .ok (.iload_n 3, 1) := by decide +kernel
theorem dX10_loansOf_17 : decode cX10_loansOf 17 = .ok (.aload_n 0, 1) := by decide +kernel
theorem dX10_loansOf_18 : decode cX10_loansOf 18 = .ok (.iload 4, 2) := by decide +kernel
theorem dX10_loansOf_20 : decode cX10_loansOf 20 = .ok (.iload_n 2, 1) := by decide +kernel
theorem dX10_loansOf_21 : decode cX10_loansOf 21 = .ok (.invokevirtual 194, 3) := by decide +kernel
theorem dX10_loansOf_24 : decode cX10_loansOf 24 = .ok (.iload_n 1, 1) := by decide +kernel
theorem dX10_loansOf_25 : decode cX10_loansOf 25 = .ok (.if_icmp .eq 7, 3) := by decide +kernel
theorem dX10_loansOf_28 : decode cX10_loansOf 28 = .ok (.iconst 0, 1) := by decide +kernel
theorem dX10_loansOf_29 : decode cX10_loansOf 29 = .ok (.goto 19, 3) := by decide +kernel
theorem dX10_loansOf_32 : decode cX10_loansOf 32 = .ok (.iload_n 2, 1) := by decide +kernel
theorem dX10_loansOf_33 : decode cX10_loansOf 33 = .ok (.iconst 1, 1) := by decide +kernel
theorem dX10_loansOf_34 : decode cX10_loansOf 34 = .ok (.if_icmp .ne 7, 3) := by decide +kernel
theorem dX10_loansOf_37 : decode cX10_loansOf 37 = .ok (.iconst 1, 1) := by decide +kernel
theorem dX10_loansOf_38 : decode cX10_loansOf 38 = .ok (.goto 10, 3) := by decide +kernel
theorem dX10_loansOf_41 : decode cX10_loansOf 41 = .ok (.aload_n 0, 1) := by decide +kernel
theorem dX10_loansOf_42 : decode cX10_loansOf 42 = .ok (.iload 4, 2) := by decide +kernel
theorem dX10_loansOf_44 : decode cX10_loansOf 44 = .ok (.iconst 3, 1) := by decide +kernel
theorem dX10_loansOf_45 : decode cX10_loansOf 45 = .ok (.invokevirtual 194, 3) := by decide +kernel
theorem dX10_loansOf_48 : decode cX10_loansOf 48 = .ok (.iadd, 1) := by decide +kernel
theorem dX10_loansOf_49 : decode cX10_loansOf 49 = .ok (.istore_n 3, 1) := by decide +kernel
theorem dX10_loansOf_50 : decode cX10_loansOf 50 = .ok (.iinc 4 1, 3) := by decide +kernel
theorem dX10_loansOf_53 : decode cX10_loansOf 53 = .ok (.goto (-48), 3) := by decide +kernel
theorem dX10_loansOf_56 : decode cX10_loansOf 56 = .ok (.iload_n 3, 1) := by decide +kernel
theorem dX10_loansOf_57 : decode cX10_loansOf 57 = .ok (.ireturn, 1) := by decide +kernel
theorem dX10_ofPotter_0 : decode cX10_ofPotter 0 = .ok (.aload_n 0, 1) := by decide +kernel
theorem dX10_ofPotter_1 : decode cX10_ofPotter 1 = .ok (.iload_n 1, 1) := by decide +kernel
theorem dX10_ofPotter_2 : decode cX10_ofPotter 2 = .ok (.invokevirtual 197, 3) := by decide +kernel
theorem dX10_ofPotter_5 : decode cX10_ofPotter 5 = .ok (.ifCond .eq 12, 3) := by decide +kernel
theorem dX10_ofPotter_8 : decode cX10_ofPotter 8 = .ok (.iload_n 2, 1) := by decide +kernel
theorem dX10_ofPotter_9 : decode cX10_ofPotter 9 = .ok (.iconst 0, 1) := by decide +kernel
theorem dX10_ofPotter_10 : decode cX10_ofPotter 10 = .ok (.iconst 3, 1) := by decide +kernel
theorem dX10_ofPotter_11 : decode cX10_ofPotter 11 = .ok (.invokestatic 70, 3) := by decide +kernel
theorem dX10_ofPotter_14 : decode cX10_ofPotter 14 = .ok (.ifCond .ne 10, 3) := by decide +kernel
theorem dX10_ofPotter_17 : decode cX10_ofPotter 17 = .ok (.aload_n 0, 1) := by decide +kernel
theorem dX10_ofPotter_18 : decode cX10_ofPotter 18 = .ok (.ldc 74, 2) := by decide +kernel
theorem dX10_ofPotter_20 : decode cX10_ofPotter 20 = .ok (.invokevirtual 75, 3) := by decide +kernel
theorem dX10_ofPotter_23 : decode cX10_ofPotter 23 = .ok (.ireturn, 1) := by decide +kernel
theorem dX10_ofPotter_24 : decode cX10_ofPotter 24 = .ok (.iload_n 2, 1) := by decide +kernel
theorem dX10_ofPotter_25 : decode cX10_ofPotter 25 = .ok (.iconst 2, 1) := by decide +kernel
theorem dX10_ofPotter_26 : decode cX10_ofPotter 26 = .ok (.if_icmp .ge 16, 3) := by decide +kernel
theorem dX10_ofPotter_29 : decode cX10_ofPotter 29 = .ok (.aload_n 0, 1) := by decide +kernel
theorem dX10_ofPotter_30 : decode cX10_ofPotter 30 = .ok (.getfield 9, 3) := by decide +kernel
theorem dX10_ofPotter_33 : decode cX10_ofPotter 33 = .ok (.iload_n 1, 1) := by decide +kernel
theorem dX10_ofPotter_34 : decode cX10_ofPotter 34 = .ok (.iload_n 2, 1) := by decide +kernel
theorem dX10_ofPotter_35 : decode cX10_ofPotter 35 = .ok (.invokestatic 191, 3) := by decide +kernel
theorem dX10_ofPotter_38 : decode cX10_ofPotter 38 = .ok (.iaload, 1) := by decide +kernel
theorem dX10_ofPotter_39 : decode cX10_ofPotter 39 = .ok (.goto 18, 3) := by decide +kernel
theorem dX10_ofPotter_42 : decode cX10_ofPotter 42 = .ok (.aload_n 0, 1) := by decide +kernel
theorem dX10_ofPotter_43 : decode cX10_ofPotter 43 = .ok (.iload_n 1, 1) := by decide +kernel
theorem dX10_ofPotter_44 : decode cX10_ofPotter 44 = .ok (.iload_n 2, 1) := by decide +kernel
theorem dX10_ofPotter_45 : decode cX10_ofPotter 45 = .ok (.iconst 2, 1) := by decide +kernel
theorem dX10_ofPotter_46 : decode cX10_ofPotter 46 = .ok (.if_icmp .ne 7, 3) := by decide +kernel
