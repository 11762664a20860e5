/-! printed by wip/whole/gen_names.py: decode rows -/
theorem dK_init_0 : decode prog_3_method_1_code 0 = .ok (.aload_n 0, 1) := by decide +kernel
theorem dK_init_1 : decode prog_3_method_1_code 1 = .ok (.invokespecial 3, 3) := by decide +kernel
theorem dK_init_4 : decode prog_3_method_1_code 4 = .ok (.aload_n 0, 1) := by decide +kernel
theorem dK_init_5 : decode prog_3_method_1_code 5 = .ok (.new 9, 3) := by decide +kernel
theorem dK_init_8 : decode prog_3_method_1_code 8 = .ok (.dup, 1) := by decide +kernel
theorem dK_init_9 : decode prog_3_method_1_code 9 = .ok (.bipush 6, 2) := by decide +kernel
theorem dK_init_11 : decode prog_3_method_1_code 11 = .ok (.invokespecial 11, 3) := by decide +kernel
theorem dK_init_14 : decode prog_3_method_1_code 14 = .ok (.putfield 14, 3) := by decide +kernel
theorem dK_init_17 : decode prog_3_method_1_code 17 = .ok (.aload_n 0, 1) := by decide +kernel
theorem dK_init_18 : decode prog_3_method_1_code 18 = .ok (.new 9, 3) := by decide +kernel
theorem dK_init_21 : decode prog_3_method_1_code 21 = .ok (.dup, 1) := by decide +kernel
theorem dK_init_22 : decode prog_3_method_1_code 22 = .ok (.bipush 12, 2) := by decide +kernel
theorem dK_init_24 : decode prog_3_method_1_code 24 = .ok (.invokespecial 11, 3) := by decide +kernel
theorem dK_init_27 : decode prog_3_method_1_code 27 = .ok (.putfield 20, 3) := by decide +kernel
theorem dK_init_30 : decode prog_3_method_1_code 30 = .ok (.aload_n 0, 1) := by decide +kernel
theorem dK_init_31 : decode prog_3_method_1_code 31 = .ok (.new 9, 3) := by decide +kernel
theorem dK_init_34 : decode prog_3_method_1_code 34 = .ok (.dup, 1) := by decide +kernel
theorem dK_init_35 : decode prog_3_method_1_code 35 = .ok (.bipush 12, 2) := by decide +kernel
theorem dK_init_37 : decode prog_3_method_1_code 37 = .ok (.invokespecial 11, 3) := by decide +kernel
theorem dK_init_40 : decode prog_3_method_1_code 40 = .ok (.putfield 23, 3) := by decide +kernel
theorem dK_init_43 : decode prog_3_method_1_code 43 = .ok (.aload_n 0, 1) := by decide +kernel
theorem dK_init_44 : decode prog_3_method_1_code 44 = .ok (.bipush 6, 2) := by decide +kernel
theorem dK_init_46 : decode prog_3_method_1_code 46 = .ok (.newarray .int, 2) := by decide +kernel
theorem dK_init_48 : decode prog_3_method_1_code 48 = .ok (.putfield 26, 3) := by decide +kernel
theorem dK_init_51 : decode prog_3_method_1_code 51 = .ok (.aload_n 0, 1) := by decide +kernel
theorem dK_init_52 : decode prog_3_method_1_code 52 = .ok (.bipush 12, 2) := by decide +kernel
theorem dK_init_54 : decode prog_3_method_1_code 54 = .ok (.newarray .int, 2) := by decide +kernel
theorem dK_init_56 : decode prog_3_method_1_code 56 = .ok (.putfield 30, 3) := by decide +kernel
theorem dK_init_59 : decode prog_3_method_1_code 59 = .ok (.aload_n 0, 1) := by decide +kernel
theorem dK_init_60 : decode prog_3_method_1_code 60 = .ok (.bipush 24, 2) := by decide +kernel
theorem dK_init_62 : decode prog_3_method_1_code 62 = .ok (.newarray .int, 2) := by decide +kernel
theorem dK_init_64 : decode prog_3_method_1_code 64 = .ok (.putfield 33, 3) := by decide +kernel
theorem dK_init_67 : decode prog_3_method_1_code 67 = .ok (.aload_n 0, 1) := by decide +kernel
theorem dK_init_68 : decode prog_3_method_1_code 68 = .ok (.bipush 6, 2) := by decide +kernel
theorem dK_init_70 : decode prog_3_method_1_code 70 = .ok (.newarray .int, 2) := by decide +kernel
theorem dK_init_72 : decode prog_3_method_1_code 72 = .ok (.putfield 36, 3) := by decide +kernel
theorem dK_init_75 : decode prog_3_method_1_code 75 = .ok (.aload_n 0, 1) := by decide +kernel
theorem dK_init_76 : decode prog_3_method_1_code 76 = .ok (.iconst 1, 1) := by decide +kernel
theorem dK_init_77 : decode prog_3_method_1_code 77 = .ok (.putfield 39, 3) := by decide +kernel
theorem dK_init_80 : decode prog_3_method_1_code 80 = .ok (.aload_n 0, 1) := by decide +kernel
theorem dK_init_81 : decode prog_3_method_1_code 81 = .ok (.iconst 0, 1) := by decide +kernel
theorem dK_init_82 : decode prog_3_method_1_code 82 = .ok (.putfield 43, 3) := by decide +kernel
theorem dK_init_85 : decode prog_3_method_1_code 85 = .ok (.return_, 1) := by decide +kernel
theorem dK_arrange_0 : decode prog_3_method_2_code 0 = .ok (.iconst 0, 1) := by decide +kernel
theorem dK_arrange_1 : decode prog_3_method_2_code 1 = .ok (.istore_n 2, 1) := by decide +kernel
theorem dK_arrange_2 : decode prog_3_method_2_code 2 = .ok (.iload_n 2, 1) := by decide +kernel
theorem dK_arrange_3 : decode prog_3_method_2_code 3 = .ok (.bipush 6, 2) := by decide +kernel
theorem dK_arrange_5 : decode prog_3_method_2_code 5 = .ok (.if_icmp .ge 33, 3) := by decide +kernel
theorem dK_arrange_8 : decode prog_3_method_2_code 8 = .ok (.aload_n 0, 1) := by decide +kernel
theorem dK_arrange_9 : decode prog_3_method_2_code 9 = .ok (.getfield 26, 3) := by decide +kernel
theorem dK_arrange_12 : decode prog_3_method_2_code 12 = .ok (.iload_n 2, 1) := by decide +kernel
theorem dK_arrange_13 : decode prog_3_method_2_code 13 = .ok (.aload_n 1, 1) := by decide +kernel
theorem dK_arrange_14 : decode prog_3_method_2_code 14 = .ok (.iload_n 2, 1) := by decide +kernel
theorem dK_arrange_15 : decode prog_3_method_2_code 15 = .ok (.invokevirtual 46, 3) := by decide +kernel
theorem dK_arrange_18 : decode prog_3_method_2_code 18 = .ok (.ifCond .eq 12, 3) := by decide +kernel
theorem dK_arrange_21 : decode prog_3_method_2_code 21 = .ok (.aload_n 1, 1) := by decide +kernel
theorem dK_arrange_22 : decode prog_3_method_2_code 22 = .ok (.getfield 52, 3) := by decide +kernel
theorem dK_arrange_25 : decode prog_3_method_2_code 25 = .ok (.iload_n 2, 1) := by decide +kernel
theorem dK_arrange_26 : decode prog_3_method_2_code 26 = .ok (.iaload, 1) := by decide +kernel
theorem dK_arrange_27 : decode prog_3_method_2_code 27 = .ok (.goto 4, 3) := by decide +kernel
theorem dK_arrange_30 : decode prog_3_method_2_code 30 = .ok (.iconst (-1), 1) := by decide +kernel
theorem dK_arrange_31 : decode prog_3_method_2_code 31 = .ok (.iastore, 1) := by decide +kernel
theorem dK_arrange_32 : decode prog_3_method_2_code 32 = .ok (.iinc 2 1, 3) := by decide +kernel
theorem dK_arrange_35 : decode prog_3_method_2_code 35 = .ok (.goto (-33), 3) := by decide +kernel
theorem dK_arrange_38 : decode prog_3_method_2_code 38 = .ok (.aload_n 0, 1) := by decide +kernel
theorem dK_arrange_39 : decode prog_3_method_2_code 39 = .ok (.getfield 14, 3) := by decide +kernel
theorem dK_arrange_42 : decode prog_3_method_2_code 42 = .ok (.aload_n 0, 1) := by decide +kernel
theorem dK_arrange_43 : decode prog_3_method_2_code 43 = .ok (.getfield 26, 3) := by decide +kernel
theorem dK_arrange_46 : decode prog_3_method_2_code 46 = .ok (.invokevirtual 55, 3) := by decide +kernel
theorem dK_arrange_49 : decode prog_3_method_2_code 49 = .ok (.aload_n 0, 1) := by decide +kernel
theorem dK_arrange_50 : decode prog_3_method_2_code 50 = .ok (.getfield 20, 3) := by decide +kernel
theorem dK_arrange_53 : decode prog_3_method_2_code 53 = .ok (.aload_n 1, 1) := by decide +kernel
theorem dK_arrange_54 : decode prog_3_method_2_code 54 = .ok (.getfield 59, 3) := by decide +kernel
theorem dK_arrange_57 : decode prog_3_method_2_code 57 = .ok (.invokevirtual 55, 3) := by decide +kernel
theorem dK_arrange_60 : decode prog_3_method_2_code 60 = .ok (.aload_n 0, 1) := by decide +kernel
theorem dK_arrange_61 : decode prog_3_method_2_code 61 = .ok (.getfield 23, 3) := by decide +kernel
theorem dK_arrange_64 : decode prog_3_method_2_code 64 = .ok (.aload_n 1, 1) := by decide +kernel
theorem dK_arrange_65 : decode prog_3_method_2_code 65 = .ok (.getfield 62, 3) := by decide +kernel
theorem dK_arrange_68 : decode prog_3_method_2_code 68 = .ok (.invokevirtual 55, 3) := by decide +kernel
theorem dK_arrange_71 : decode prog_3_method_2_code 71 = .ok (.aload_n 1, 1) := by decide +kernel
theorem dK_arrange_72 : decode prog_3_method_2_code 72 = .ok (.getfield 65, 3) := by decide +kernel
theorem dK_arrange_75 : decode prog_3_method_2_code 75 = .ok (.iconst 0, 1) := by decide +kernel
theorem dK_arrange_76 : decode prog_3_method_2_code 76 = .ok (.aload_n 0, 1) := by decide +kernel
theorem dK_arrange_77 : decode prog_3_method_2_code 77 = .ok (.getfield 30, 3) := by decide +kernel
theorem dK_arrange_80 : decode prog_3_method_2_code 80 = .ok (.iconst 0, 1) := by decide +kernel
theorem dK_arrange_81 : decode prog_3_method_2_code 81 = .ok (.bipush 12, 2) := by decide +kernel
theorem dK_arrange_83 : decode prog_3_method_2_code 83 = .ok (.invokestatic 68, 3) := by decide +kernel
theorem dK_arrange_86 : decode prog_3_method_2_code 86 = .ok (.aload_n 1, 1) := by decide +kernel
theorem dK_arrange_87 : decode prog_3_method_2_code 87 = .ok (.getfield 74, 3) := by decide +kernel
theorem dK_arrange_90 : decode prog_3_method_2_code 90 = .ok (.iconst 0, 1) := by decide +kernel
theorem dK_arrange_91 : decode prog_3_method_2_code 91 = .ok (.aload_n 0, 1) := by decide +kernel
theorem dK_arrange_92 : decode prog_3_method_2_code 92 = .ok (.getfield 33, 3) := by decide +kernel
theorem dK_arrange_95 : decode prog_3_method_2_code 95 = .ok (.iconst 0, 1) := by decide +kernel
theorem dK_arrange_96 : decode prog_3_method_2_code 96 = .ok (.bipush 24, 2) := by decide +kernel
theorem dK_arrange_98 : decode prog_3_method_2_code 98 = .ok (.invokestatic 68, 3) := by decide +kernel
theorem dK_arrange_101 : decode prog_3_method_2_code 101 = .ok (.return_, 1) := by decide +kernel
theorem dK_isTrueIn_0 : decode prog_3_method_3_code 0 = .ok (.aload_n 0, 1) := by decide +kernel
theorem dK_isTrueIn_1 : decode prog_3_method_3_code 1 = .ok (.iload_n 1, 1) := by decide +kernel
theorem dK_isTrueIn_2 : decode prog_3_method_3_code 2 = .ok (.putfield 39, 3) := by decide +kernel
theorem dK_isTrueIn_5 : decode prog_3_method_3_code 5 = .ok (.aload_n 0, 1) := by decide +kernel
theorem dK_isTrueIn_6 : decode prog_3_method_3_code 6 = .ok (.iload_n 2, 1) := by decide +kernel
theorem dK_isTrueIn_7 : decode prog_3_method_3_code 7 = .ok (.putfield 43, 3) := by decide +kernel
theorem dK_isTrueIn_10 : decode prog_3_method_3_code 10 = .ok (.aload_n 0, 1) := by decide +kernel
theorem dK_isTrueIn_11 : decode prog_3_method_3_code 11 = .ok (.iconst 0, 1) := by decide +kernel
theorem dK_isTrueIn_12 : decode prog_3_method_3_code 12 = .ok (.iconst 0, 1) := by decide +kernel
theorem dK_isTrueIn_13 : decode prog_3_method_3_code 13 = .ok (.invokevirtual 75, 3) := by decide +kernel
theorem dK_isTrueIn_16 : decode prog_3_method_3_code 16 = .ok (.ireturn, 1) := by decide +kernel
theorem dK_isAreaTrue_0 : decode prog_3_method_4_code 0 = .ok (.iload_n 2, 1) := by decide +kernel
theorem dK_isAreaTrue_1 : decode prog_3_method_4_code 1 = .ok (.bipush 12, 2) := by decide +kernel
theorem dK_isAreaTrue_3 : decode prog_3_method_4_code 3 = .ok (.if_icmp .le 5, 3) := by decide +kernel
theorem dK_isAreaTrue_6 : decode prog_3_method_4_code 6 = .ok (.iconst 0, 1) := by decide +kernel
theorem dK_isAreaTrue_7 : decode prog_3_method_4_code 7 = .ok (.ireturn, 1) := by decide +kernel
theorem dK_isAreaTrue_8 : decode prog_3_method_4_code 8 = .ok (.iconst 1, 1) := by decide +kernel
theorem dK_isAreaTrue_9 : decode prog_3_method_4_code 9 = .ok (.istore_n 3, 1) := by decide +kernel
theorem dK_isAreaTrue_10 : decode prog_3_method_4_code 10 = .ok (.aload_n 0, 1) := by decide +kernel
theorem dK_isAreaTrue_11 : decode prog_3_method_4_code 11 = .ok (.getfield 14, 3) := by decide +kernel
theorem dK_isAreaTrue_14 : decode prog_3_method_4_code 14 = .ok (.getfield 79, 3) := by decide +kernel
theorem dK_isAreaTrue_17 : decode prog_3_method_4_code 17 = .ok (.iload_n 1, 1) := by decide +kernel
theorem dK_isAreaTrue_18 : decode prog_3_method_4_code 18 = .ok (.iaload, 1) := by decide +kernel
theorem dK_isAreaTrue_19 : decode prog_3_method_4_code 19 = .ok (.istore 4, 2) := by decide +kernel
theorem dK_isAreaTrue_21 : decode prog_3_method_4_code 21 = .ok (.iload 4, 2) := by decide +kernel
theorem dK_isAreaTrue_23 : decode prog_3_method_4_code 23 = .ok (.aload_n 0, 1) := by decide +kernel
theorem dK_isAreaTrue_24 : decode prog_3_method_4_code 24 = .ok (.getfield 14, 3) := by decide +kernel
theorem dK_isAreaTrue_27 : decode prog_3_method_4_code 27 = .ok (.getfield 79, 3) := by decide +kernel
theorem dK_isAreaTrue_30 : decode prog_3_method_4_code 30 = .ok (.iload_n 1, 1) := by decide +kernel
theorem dK_isAreaTrue_31 : decode prog_3_method_4_code 31 = .ok (.iconst 1, 1) := by decide +kernel
theorem dK_isAreaTrue_32 : decode prog_3_method_4_code 32 = .ok (.iadd, 1) := by decide +kernel
theorem dK_isAreaTrue_33 : decode prog_3_method_4_code 33 = .ok (.iaload, 1) := by decide +kernel
theorem dK_isAreaTrue_34 : decode prog_3_method_4_code 34 = .ok (.if_icmp .ge 32, 3) := by decide +kernel
theorem dK_isAreaTrue_37 : decode prog_3_method_4_code 37 = .ok (.aload_n 0, 1) := by decide +kernel
theorem dK_isAreaTrue_38 : decode prog_3_method_4_code 38 = .ok (.getfield 36, 3) := by decide +kernel
theorem dK_isAreaTrue_41 : decode prog_3_method_4_code 41 = .ok (.aload_n 0, 1) := by decide +kernel
theorem dK_isAreaTrue_42 : decode prog_3_method_4_code 42 = .ok (.getfield 14, 3) := by decide +kernel
theorem dK_isAreaTrue_45 : decode prog_3_method_4_code 45 = .ok (.getfield 82, 3) := by decide +kernel
theorem dK_isAreaTrue_48 : decode prog_3_method_4_code 48 = .ok (.iload 4, 2) := by decide +kernel
theorem dK_isAreaTrue_50 : decode prog_3_method_4_code 50 = .ok (.iaload, 1) := by decide +kernel
theorem dK_isAreaTrue_51 : decode prog_3_method_4_code 51 = .ok (.iconst 0, 1) := by decide +kernel
theorem dK_isAreaTrue_52 : decode prog_3_method_4_code 52 = .ok (.iastore, 1) := by decide +kernel
theorem dK_isAreaTrue_53 : decode prog_3_method_4_code 53 = .ok (.iload_n 3, 1) := by decide +kernel
theorem dK_isAreaTrue_54 : decode prog_3_method_4_code 54 = .ok (.aload_n 0, 1) := by decide +kernel
theorem dK_isAreaTrue_55 : decode prog_3_method_4_code 55 = .ok (.getfield 39, 3) := by decide +kernel
theorem dK_isAreaTrue_58 : decode prog_3_method_4_code 58 = .ok (.imul, 1) := by decide +kernel
theorem dK_isAreaTrue_59 : decode prog_3_method_4_code 59 = .ok (.istore_n 3, 1) := by decide +kernel
theorem dK_isAreaTrue_60 : decode prog_3_method_4_code 60 = .ok (.iinc 4 1, 3) := by decide +kernel
theorem dK_isAreaTrue_63 : decode prog_3_method_4_code 63 = .ok (.goto (-42), 3) := by decide +kernel
theorem dK_isAreaTrue_66 : decode prog_3_method_4_code 66 = .ok (.iconst 0, 1) := by decide +kernel
theorem dK_isAreaTrue_67 : decode prog_3_method_4_code 67 = .ok (.istore 4, 2) := by decide +kernel
theorem dK_isAreaTrue_69 : decode prog_3_method_4_code 69 = .ok (.iload 4, 2) := by decide +kernel
theorem dK_isAreaTrue_71 : decode prog_3_method_4_code 71 = .ok (.iload_n 3, 1) := by decide +kernel
theorem dK_isAreaTrue_72 : decode prog_3_method_4_code 72 = .ok (.if_icmp .ge 33, 3) := by decide +kernel
theorem dK_isAreaTrue_75 : decode prog_3_method_4_code 75 = .ok (.aload_n 0, 1) := by decide +kernel
theorem dK_isAreaTrue_76 : decode prog_3_method_4_code 76 = .ok (.iload_n 1, 1) := by decide +kernel
theorem dK_isAreaTrue_77 : decode prog_3_method_4_code 77 = .ok (.invokevirtual 85, 3) := by decide +kernel
theorem dK_isAreaTrue_80 : decode prog_3_method_4_code 80 = .ok (.ifCond .eq 14, 3) := by decide +kernel
theorem dK_isAreaTrue_83 : decode prog_3_method_4_code 83 = .ok (.aload_n 0, 1) := by decide +kernel
theorem dK_isAreaTrue_84 : decode prog_3_method_4_code 84 = .ok (.iload_n 1, 1) := by decide +kernel
theorem dK_isAreaTrue_85 : decode prog_3_method_4_code 85 = .ok (.iload_n 2, 1) := by decide +kernel
theorem dK_isAreaTrue_86 : decode prog_3_method_4_code 86 = .ok (.invokevirtual 88, 3) := by decide +kernel
theorem dK_isAreaTrue_89 : decode prog_3_method_4_code 89 = .ok (.ifCond .eq 5, 3) := by decide +kernel
theorem dK_isAreaTrue_92 : decode prog_3_method_4_code 92 = .ok (.iconst 1, 1) := by decide +kernel
theorem dK_isAreaTrue_93 : decode prog_3_method_4_code 93 = .ok (.ireturn, 1) := by decide +kernel
theorem dK_isAreaTrue_94 : decode prog_3_method_4_code 94 = .ok (.aload_n 0, 1) := by decide +kernel
theorem dK_isAreaTrue_95 : decode prog_3_method_4_code 95 = .ok (.iload_n 1, 1) := by decide +kernel
theorem dK_isAreaTrue_96 : decode prog_3_method_4_code 96 = .ok (.invokevirtual 91, 3) := by decide +kernel
theorem dK_isAreaTrue_99 : decode prog_3_method_4_code 99 = .ok (.iinc 4 1, 3) := by decide +kernel
theorem dK_isAreaTrue_102 : decode prog_3_method_4_code 102 = .ok (.goto (-33), 3) := by decide +kernel
theorem dK_isAreaTrue_105 : decode prog_3_method_4_code 105 = .ok (.iconst 0, 1) := by decide +kernel
theorem dK_isAreaTrue_106 : decode prog_3_method_4_code 106 = .ok (.ireturn, 1) := by decide +kernel
theorem dK_takeNextThings_0 : decode prog_3_method_5_code 0 = .ok (.aload_n 0, 1) := by decide +kernel
theorem dK_takeNextThings_1 : decode prog_3_method_5_code 1 = .ok (.getfield 14, 3) := by decide +kernel
theorem dK_takeNextThings_4 : decode prog_3_method_5_code 4 = .ok (.getfield 79, 3) := by decide +kernel
theorem dK_takeNextThings_7 : decode prog_3_method_5_code 7 = .ok (.iload_n 1, 1) := by decide +kernel
theorem dK_takeNextThings_8 : decode prog_3_method_5_code 8 = .ok (.iaload, 1) := by decide +kernel
theorem dK_takeNextThings_9 : decode prog_3_method_5_code 9 = .ok (.istore_n 2, 1) := by decide +kernel
theorem dK_takeNextThings_10 : decode prog_3_method_5_code 10 = .ok (.iload_n 2, 1) := by decide +kernel
theorem dK_takeNextThings_11 : decode prog_3_method_5_code 11 = .ok (.aload_n 0, 1) := by decide +kernel
theorem dK_takeNextThings_12 : decode prog_3_method_5_code 12 = .ok (.getfield 14, 3) := by decide +kernel
theorem dK_takeNextThings_15 : decode prog_3_method_5_code 15 = .ok (.getfield 79, 3) := by decide +kernel
theorem dK_takeNextThings_18 : decode prog_3_method_5_code 18 = .ok (.iload_n 1, 1) := by decide +kernel
theorem dK_takeNextThings_19 : decode prog_3_method_5_code 19 = .ok (.iconst 1, 1) := by decide +kernel
theorem dK_takeNextThings_20 : decode prog_3_method_5_code 20 = .ok (.iadd, 1) := by decide +kernel
theorem dK_takeNextThings_21 : decode prog_3_method_5_code 21 = .ok (.iaload, 1) := by decide +kernel
theorem dK_takeNextThings_22 : decode prog_3_method_5_code 22 = .ok (.if_icmp .ge 50, 3) := by decide +kernel
theorem dK_takeNextThings_25 : decode prog_3_method_5_code 25 = .ok (.aload_n 0, 1) := by decide +kernel
theorem dK_takeNextThings_26 : decode prog_3_method_5_code 26 = .ok (.getfield 14, 3) := by decide +kernel
theorem dK_takeNextThings_29 : decode prog_3_method_5_code 29 = .ok (.getfield 82, 3) := by decide +kernel
theorem dK_takeNextThings_32 : decode prog_3_method_5_code 32 = .ok (.iload_n 2, 1) := by decide +kernel
theorem dK_takeNextThings_33 : decode prog_3_method_5_code 33 = .ok (.iaload, 1) := by decide +kernel
theorem dK_takeNextThings_34 : decode prog_3_method_5_code 34 = .ok (.istore_n 3, 1) := by decide +kernel
theorem dK_takeNextThings_35 : decode prog_3_method_5_code 35 = .ok (.aload_n 0, 1) := by decide +kernel
theorem dK_takeNextThings_36 : decode prog_3_method_5_code 36 = .ok (.getfield 36, 3) := by decide +kernel
theorem dK_takeNextThings_39 : decode prog_3_method_5_code 39 = .ok (.iload_n 3, 1) := by decide +kernel
theorem dK_takeNextThings_40 : decode prog_3_method_5_code 40 = .ok (.dup2, 1) := by decide +kernel
theorem dK_takeNextThings_41 : decode prog_3_method_5_code 41 = .ok (.iaload, 1) := by decide +kernel
theorem dK_takeNextThings_42 : decode prog_3_method_5_code 42 = .ok (.iconst 1, 1) := by decide +kernel
theorem dK_takeNextThings_43 : decode prog_3_method_5_code 43 = .ok (.iadd, 1) := by decide +kernel
theorem dK_takeNextThings_44 : decode prog_3_method_5_code 44 = .ok (.iastore, 1) := by decide +kernel
theorem dK_takeNextThings_45 : decode prog_3_method_5_code 45 = .ok (.aload_n 0, 1) := by decide +kernel
theorem dK_takeNextThings_46 : decode prog_3_method_5_code 46 = .ok (.getfield 36, 3) := by decide +kernel
theorem dK_takeNextThings_49 : decode prog_3_method_5_code 49 = .ok (.iload_n 3, 1) := by decide +kernel
theorem dK_takeNextThings_50 : decode prog_3_method_5_code 50 = .ok (.iaload, 1) := by decide +kernel
theorem dK_takeNextThings_51 : decode prog_3_method_5_code 51 = .ok (.aload_n 0, 1) := by decide +kernel
theorem dK_takeNextThings_52 : decode prog_3_method_5_code 52 = .ok (.getfield 39, 3) := by decide +kernel
theorem dK_takeNextThings_55 : decode prog_3_method_5_code 55 = .ok (.if_icmp .ge 4, 3) := by decide +kernel
theorem dK_takeNextThings_58 : decode prog_3_method_5_code 58 = .ok (.return_, 1) := by decide +kernel
theorem dK_takeNextThings_59 : decode prog_3_method_5_code 59 = .ok (.aload_n 0, 1) := by decide +kernel
theorem dK_takeNextThings_60 : decode prog_3_method_5_code 60 = .ok (.getfield 36, 3) := by decide +kernel
theorem dK_takeNextThings_63 : decode prog_3_method_5_code 63 = .ok (.iload_n 3, 1) := by decide +kernel
theorem dK_takeNextThings_64 : decode prog_3_method_5_code 64 = .ok (.iconst 0, 1) := by decide +kernel
theorem dK_takeNextThings_65 : decode prog_3_method_5_code 65 = .ok (.iastore, 1) := by decide +kernel
theorem dK_takeNextThings_66 : decode prog_3_method_5_code 66 = .ok (.iinc 2 1, 3) := by decide +kernel
theorem dK_takeNextThings_69 : decode prog_3_method_5_code 69 = .ok (.goto (-59), 3) := by decide +kernel
theorem dK_takeNextThings_72 : decode prog_3_method_5_code 72 = .ok (.return_, 1) := by decide +kernel
theorem dK_areSpotsTrue_0 : decode prog_3_method_6_code 0 = .ok (.aload_n 0, 1) := by decide +kernel
theorem dK_areSpotsTrue_1 : decode prog_3_method_6_code 1 = .ok (.getfield 20, 3) := by decide +kernel
theorem dK_areSpotsTrue_4 : decode prog_3_method_6_code 4 = .ok (.getfield 79, 3) := by decide +kernel
theorem dK_areSpotsTrue_7 : decode prog_3_method_6_code 7 = .ok (.iload_n 1, 1) := by decide +kernel
theorem dK_areSpotsTrue_8 : decode prog_3_method_6_code 8 = .ok (.iaload, 1) := by decide +kernel
theorem dK_areSpotsTrue_9 : decode prog_3_method_6_code 9 = .ok (.istore_n 2, 1) := by decide +kernel
theorem dK_areSpotsTrue_10 : decode prog_3_method_6_code 10 = .ok (.iload_n 2, 1) := by decide +kernel
theorem dK_areSpotsTrue_11 : decode prog_3_method_6_code 11 = .ok (.aload_n 0, 1) := by decide +kernel
theorem dK_areSpotsTrue_12 : decode prog_3_method_6_code 12 = .ok (.getfield 20, 3) := by decide +kernel
theorem dK_areSpotsTrue_15 : decode prog_3_method_6_code 15 = .ok (.getfield 79, 3) := by decide +kernel
theorem dK_areSpotsTrue_18 : decode prog_3_method_6_code 18 = .ok (.iload_n 1, 1) := by decide +kernel
theorem dK_areSpotsTrue_19 : decode prog_3_method_6_code 19 = .ok (.iconst 1, 1) := by decide +kernel
theorem dK_areSpotsTrue_20 : decode prog_3_method_6_code 20 = .ok (.iadd, 1) := by decide +kernel
theorem dK_areSpotsTrue_21 : decode prog_3_method_6_code 21 = .ok (.iaload, 1) := by decide +kernel
theorem dK_areSpotsTrue_22 : decode prog_3_method_6_code 22 = .ok (.if_icmp .ge 34, 3) := by decide +kernel
theorem dK_areSpotsTrue_25 : decode prog_3_method_6_code 25 = .ok (.aload_n 0, 1) := by decide +kernel
theorem dK_areSpotsTrue_26 : decode prog_3_method_6_code 26 = .ok (.getfield 43, 3) := by decide +kernel
theorem dK_areSpotsTrue_29 : decode prog_3_method_6_code 29 = .ok (.aload_n 0, 1) := by decide +kernel
theorem dK_areSpotsTrue_30 : decode prog_3_method_6_code 30 = .ok (.aload_n 0, 1) := by decide +kernel
theorem dK_areSpotsTrue_31 : decode prog_3_method_6_code 31 = .ok (.getfield 20, 3) := by decide +kernel
theorem dK_areSpotsTrue_34 : decode prog_3_method_6_code 34 = .ok (.getfield 82, 3) := by decide +kernel
theorem dK_areSpotsTrue_37 : decode prog_3_method_6_code 37 = .ok (.iload_n 2, 1) := by decide +kernel
theorem dK_areSpotsTrue_38 : decode prog_3_method_6_code 38 = .ok (.iaload, 1) := by decide +kernel
theorem dK_areSpotsTrue_39 : decode prog_3_method_6_code 39 = .ok (.invokevirtual 94, 3) := by decide +kernel
theorem dK_areSpotsTrue_42 : decode prog_3_method_6_code 42 = .ok (.ishr, 1) := by decide +kernel
theorem dK_areSpotsTrue_43 : decode prog_3_method_6_code 43 = .ok (.iconst 1, 1) := by decide +kernel
theorem dK_areSpotsTrue_44 : decode prog_3_method_6_code 44 = .ok (.iand, 1) := by decide +kernel
theorem dK_areSpotsTrue_45 : decode prog_3_method_6_code 45 = .ok (.ifCond .ne 5, 3) := by decide +kernel
theorem dK_areSpotsTrue_48 : decode prog_3_method_6_code 48 = .ok (.iconst 0, 1) := by decide +kernel
theorem dK_areSpotsTrue_49 : decode prog_3_method_6_code 49 = .ok (.ireturn, 1) := by decide +kernel
theorem dK_areSpotsTrue_50 : decode prog_3_method_6_code 50 = .ok (.iinc 2 1, 3) := by decide +kernel
theorem dK_areSpotsTrue_53 : decode prog_3_method_6_code 53 = .ok (.goto (-43), 3) := by decide +kernel
theorem dK_areSpotsTrue_56 : decode prog_3_method_6_code 56 = .ok (.iconst 1, 1) := by decide +kernel
theorem dK_areSpotsTrue_57 : decode prog_3_method_6_code 57 = .ok (.ireturn, 1) := by decide +kernel
theorem dK_bitOfSpot_0 : decode prog_3_method_7_code 0 = .ok (.aload_n 0, 1) := by decide +kernel
theorem dK_bitOfSpot_1 : decode prog_3_method_7_code 1 = .ok (.getfield 30, 3) := by decide +kernel
theorem dK_bitOfSpot_4 : decode prog_3_method_7_code 4 = .ok (.iload_n 1, 1) := by decide +kernel
theorem dK_bitOfSpot_5 : decode prog_3_method_7_code 5 = .ok (.iaload, 1) := by decide +kernel
theorem dK_bitOfSpot_6 : decode prog_3_method_7_code 6 = .ok (.istore_n 2, 1) := by decide +kernel
theorem dK_bitOfSpot_7 : decode prog_3_method_7_code 7 = .ok (.iload_n 2, 1) := by decide +kernel
theorem dK_bitOfSpot_8 : decode prog_3_method_7_code 8 = .ok (.iconst 2, 1) := by decide +kernel
theorem dK_bitOfSpot_9 : decode prog_3_method_7_code 9 = .ok (.if_icmp .ge 5, 3) := by decide +kernel
theorem dK_bitOfSpot_12 : decode prog_3_method_7_code 12 = .ok (.iload_n 2, 1) := by decide +kernel
theorem dK_bitOfSpot_13 : decode prog_3_method_7_code 13 = .ok (.ireturn, 1) := by decide +kernel
theorem dK_bitOfSpot_14 : decode prog_3_method_7_code 14 = .ok (.aload_n 0, 1) := by decide +kernel
theorem dK_bitOfSpot_15 : decode prog_3_method_7_code 15 = .ok (.iconst 2, 1) := by decide +kernel
theorem dK_bitOfSpot_16 : decode prog_3_method_7_code 16 = .ok (.iload_n 1, 1) := by decide +kernel
theorem dK_bitOfSpot_17 : decode prog_3_method_7_code 17 = .ok (.imul, 1) := by decide +kernel
theorem dK_bitOfSpot_18 : decode prog_3_method_7_code 18 = .ok (.invokevirtual 98, 3) := by decide +kernel
theorem dK_bitOfSpot_21 : decode prog_3_method_7_code 21 = .ok (.istore_n 3, 1) := by decide +kernel
theorem dK_bitOfSpot_22 : decode prog_3_method_7_code 22 = .ok (.iload_n 2, 1) := by decide +kernel
theorem dK_bitOfSpot_23 : decode prog_3_method_7_code 23 = .ok (.iconst 2, 1) := by decide +kernel
theorem dK_bitOfSpot_24 : decode prog_3_method_7_code 24 = .ok (.if_icmp .ne 10, 3) := by decide +kernel
theorem dK_bitOfSpot_27 : decode prog_3_method_7_code 27 = .ok (.iload_n 3, 1) := by decide +kernel
theorem dK_bitOfSpot_28 : decode prog_3_method_7_code 28 = .ok (.invokestatic 101, 3) := by decide +kernel
theorem dK_bitOfSpot_31 : decode prog_3_method_7_code 31 = .ok (.goto 16, 3) := by decide +kernel
theorem dK_bitOfSpot_34 : decode prog_3_method_7_code 34 = .ok (.iload_n 3, 1) := by decide +kernel
theorem dK_bitOfSpot_35 : decode prog_3_method_7_code 35 = .ok (.aload_n 0, 1) := by decide +kernel
theorem dK_bitOfSpot_36 : decode prog_3_method_7_code 36 = .ok (.iconst 2, 1) := by decide +kernel
theorem dK_bitOfSpot_37 : decode prog_3_method_7_code 37 = .ok (.iload_n 1, 1) := by decide +kernel
theorem dK_bitOfSpot_38 : decode prog_3_method_7_code 38 = .ok (.imul, 1) := by decide +kernel
theorem dK_bitOfSpot_39 : decode prog_3_method_7_code 39 = .ok (.iconst 1, 1) := by decide +kernel
theorem dK_bitOfSpot_40 : decode prog_3_method_7_code 40 = .ok (.iadd, 1) := by decide +kernel
theorem dK_bitOfSpot_41 : decode prog_3_method_7_code 41 = .ok (.invokevirtual 98, 3) := by decide +kernel
theorem dK_bitOfSpot_44 : decode prog_3_method_7_code 44 = .ok (.invokestatic 104, 3) := by decide +kernel
theorem dK_bitOfSpot_47 : decode prog_3_method_7_code 47 = .ok (.ireturn, 1) := by decide +kernel
theorem dK_thingAt_0 : decode prog_3_method_8_code 0 = .ok (.aload_n 0, 1) := by decide +kernel
theorem dK_thingAt_1 : decode prog_3_method_8_code 1 = .ok (.getfield 33, 3) := by decide +kernel
theorem dK_thingAt_4 : decode prog_3_method_8_code 4 = .ok (.iload_n 1, 1) := by decide +kernel
theorem dK_thingAt_5 : decode prog_3_method_8_code 5 = .ok (.iaload, 1) := by decide +kernel
theorem dK_thingAt_6 : decode prog_3_method_8_code 6 = .ok (.istore_n 2, 1) := by decide +kernel
theorem dK_thingAt_7 : decode prog_3_method_8_code 7 = .ok (.iload_n 2, 1) := by decide +kernel
theorem dK_thingAt_8 : decode prog_3_method_8_code 8 = .ok (.iconst (-1), 1) := by decide +kernel
theorem dK_thingAt_9 : decode prog_3_method_8_code 9 = .ok (.if_icmp .ne 7, 3) := by decide +kernel
theorem dK_thingAt_12 : decode prog_3_method_8_code 12 = .ok (.iconst 0, 1) := by decide +kernel
theorem dK_thingAt_13 : decode prog_3_method_8_code 13 = .ok (.goto 9, 3) := by decide +kernel
theorem dK_thingAt_16 : decode prog_3_method_8_code 16 = .ok (.aload_n 0, 1) := by decide +kernel
theorem dK_thingAt_17 : decode prog_3_method_8_code 17 = .ok (.getfield 36, 3) := by decide +kernel
theorem dK_thingAt_20 : decode prog_3_method_8_code 20 = .ok (.iload_n 2, 1) := by decide +kernel
theorem dK_thingAt_21 : decode prog_3_method_8_code 21 = .ok (.iaload, 1) := by decide +kernel
theorem dK_thingAt_22 : decode prog_3_method_8_code 22 = .ok (.ireturn, 1) := by decide +kernel
theorem dK_areCutsFalse_0 : decode prog_3_method_9_code 0 = .ok (.aload_n 0, 1) := by decide +kernel
theorem dK_areCutsFalse_1 : decode prog_3_method_9_code 1 = .ok (.getfield 23, 3) := by decide +kernel
theorem dK_areCutsFalse_4 : decode prog_3_method_9_code 4 = .ok (.getfield 79, 3) := by decide +kernel
theorem dK_areCutsFalse_7 : decode prog_3_method_9_code 7 = .ok (.iload_n 1, 1) := by decide +kernel
theorem dK_areCutsFalse_8 : decode prog_3_method_9_code 8 = .ok (.iaload, 1) := by decide +kernel
theorem dK_areCutsFalse_9 : decode prog_3_method_9_code 9 = .ok (.istore_n 3, 1) := by decide +kernel
theorem dK_areCutsFalse_10 : decode prog_3_method_9_code 10 = .ok (.iload_n 3, 1) := by decide +kernel
theorem dK_areCutsFalse_11 : decode prog_3_method_9_code 11 = .ok (.aload_n 0, 1) := by decide +kernel
theorem dK_areCutsFalse_12 : decode prog_3_method_9_code 12 = .ok (.getfield 23, 3) := by decide +kernel
theorem dK_areCutsFalse_15 : decode prog_3_method_9_code 15 = .ok (.getfield 79, 3) := by decide +kernel
theorem dK_areCutsFalse_18 : decode prog_3_method_9_code 18 = .ok (.iload_n 1, 1) := by decide +kernel
theorem dK_areCutsFalse_19 : decode prog_3_method_9_code 19 = .ok (.iconst 1, 1) := by decide +kernel
theorem dK_areCutsFalse_20 : decode prog_3_method_9_code 20 = .ok (.iadd, 1) := by decide +kernel
theorem dK_areCutsFalse_21 : decode prog_3_method_9_code 21 = .ok (.iaload, 1) := by decide +kernel
theorem dK_areCutsFalse_22 : decode prog_3_method_9_code 22 = .ok (.if_icmp .ge 30, 3) := by decide +kernel
theorem dK_areCutsFalse_25 : decode prog_3_method_9_code 25 = .ok (.aload_n 0, 1) := by decide +kernel
theorem dK_areCutsFalse_26 : decode prog_3_method_9_code 26 = .ok (.aload_n 0, 1) := by decide +kernel
theorem dK_areCutsFalse_27 : decode prog_3_method_9_code 27 = .ok (.getfield 23, 3) := by decide +kernel
theorem dK_areCutsFalse_30 : decode prog_3_method_9_code 30 = .ok (.getfield 82, 3) := by decide +kernel
theorem dK_areCutsFalse_33 : decode prog_3_method_9_code 33 = .ok (.iload_n 3, 1) := by decide +kernel
theorem dK_areCutsFalse_34 : decode prog_3_method_9_code 34 = .ok (.iaload, 1) := by decide +kernel
theorem dK_areCutsFalse_35 : decode prog_3_method_9_code 35 = .ok (.iload_n 2, 1) := by decide +kernel
theorem dK_areCutsFalse_36 : decode prog_3_method_9_code 36 = .ok (.iconst 1, 1) := by decide +kernel
theorem dK_areCutsFalse_37 : decode prog_3_method_9_code 37 = .ok (.iadd, 1) := by decide +kernel
theorem dK_areCutsFalse_38 : decode prog_3_method_9_code 38 = .ok (.invokevirtual 75, 3) := by decide +kernel
theorem dK_areCutsFalse_41 : decode prog_3_method_9_code 41 = .ok (.ifCond .eq 5, 3) := by decide +kernel
theorem dK_areCutsFalse_44 : decode prog_3_method_9_code 44 = .ok (.iconst 0, 1) := by decide +kernel
theorem dK_areCutsFalse_45 : decode prog_3_method_9_code 45 = .ok (.ireturn, 1) := by decide +kernel
theorem dK_areCutsFalse_46 : decode prog_3_method_9_code 46 = .ok (.iinc 3 1, 3) := by decide +kernel
theorem dK_areCutsFalse_49 : decode prog_3_method_9_code 49 = .ok (.goto (-39), 3) := by decide +kernel
theorem dK_areCutsFalse_52 : decode prog_3_method_9_code 52 = .ok (.iconst 1, 1) := by decide +kernel
theorem dK_areCutsFalse_53 : decode prog_3_method_9_code 53 = .ok (.ireturn, 1) := by decide +kernel
