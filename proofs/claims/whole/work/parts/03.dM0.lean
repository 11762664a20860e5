/-! printed by wip/whole/gen_names.py: decode rows -/
theorem dM_init_0 : decode prog_7_method_1_code 0 = .ok (.aload_n 0, 1) := by decide +kernel
theorem dM_init_1 : decode prog_7_method_1_code 1 = .ok (.invokespecial 1, 3) := by decide +kernel
theorem dM_init_4 : decode prog_7_method_1_code 4 = .ok (.aload_n 0, 1) := by decide +kernel
theorem dM_init_5 : decode prog_7_method_1_code 5 = .ok (.bipush 67, 2) := by decide +kernel
theorem dM_init_7 : decode prog_7_method_1_code 7 = .ok (.newarray .int, 2) := by decide +kernel
theorem dM_init_9 : decode prog_7_method_1_code 9 = .ok (.putfield 7, 3) := by decide +kernel
theorem dM_init_12 : decode prog_7_method_1_code 12 = .ok (.aload_n 0, 1) := by decide +kernel
theorem dM_init_13 : decode prog_7_method_1_code 13 = .ok (.sipush 1407, 3) := by decide +kernel
theorem dM_init_16 : decode prog_7_method_1_code 16 = .ok (.newarray .int, 2) := by decide +kernel
theorem dM_init_18 : decode prog_7_method_1_code 18 = .ok (.putfield 13, 3) := by decide +kernel
theorem dM_init_21 : decode prog_7_method_1_code 21 = .ok (.aload_n 0, 1) := by decide +kernel
theorem dM_init_22 : decode prog_7_method_1_code 22 = .ok (.bipush 70, 2) := by decide +kernel
theorem dM_init_24 : decode prog_7_method_1_code 24 = .ok (.newarray .int, 2) := by decide +kernel
theorem dM_init_26 : decode prog_7_method_1_code 26 = .ok (.putfield 16, 3) := by decide +kernel
theorem dM_init_29 : decode prog_7_method_1_code 29 = .ok (.aload_n 0, 1) := by decide +kernel
theorem dM_init_30 : decode prog_7_method_1_code 30 = .ok (.bipush 70, 2) := by decide +kernel
theorem dM_init_32 : decode prog_7_method_1_code 32 = .ok (.newarray .int, 2) := by decide +kernel
theorem dM_init_34 : decode prog_7_method_1_code 34 = .ok (.putfield 19, 3) := by decide +kernel
theorem dM_init_37 : decode prog_7_method_1_code 37 = .ok (.aload_n 0, 1) := by decide +kernel
theorem dM_init_38 : decode prog_7_method_1_code 38 = .ok (.bipush 6, 2) := by decide +kernel
theorem dM_init_40 : decode prog_7_method_1_code 40 = .ok (.newarray .int, 2) := by decide +kernel
theorem dM_init_42 : decode prog_7_method_1_code 42 = .ok (.putfield 22, 3) := by decide +kernel
theorem dM_init_45 : decode prog_7_method_1_code 45 = .ok (.aload_n 0, 1) := by decide +kernel
theorem dM_init_46 : decode prog_7_method_1_code 46 = .ok (.bipush 14, 2) := by decide +kernel
theorem dM_init_48 : decode prog_7_method_1_code 48 = .ok (.newarray .int, 2) := by decide +kernel
theorem dM_init_50 : decode prog_7_method_1_code 50 = .ok (.putfield 25, 3) := by decide +kernel
theorem dM_init_53 : decode prog_7_method_1_code 53 = .ok (.aload_n 0, 1) := by decide +kernel
theorem dM_init_54 : decode prog_7_method_1_code 54 = .ok (.bipush 14, 2) := by decide +kernel
theorem dM_init_56 : decode prog_7_method_1_code 56 = .ok (.newarray .int, 2) := by decide +kernel
theorem dM_init_58 : decode prog_7_method_1_code 58 = .ok (.putfield 28, 3) := by decide +kernel
theorem dM_init_61 : decode prog_7_method_1_code 61 = .ok (.aload_n 0, 1) := by decide +kernel
theorem dM_init_62 : decode prog_7_method_1_code 62 = .ok (.sipush 9477, 3) := by decide +kernel
theorem dM_init_65 : decode prog_7_method_1_code 65 = .ok (.newarray .boolean, 2) := by decide +kernel
theorem dM_init_67 : decode prog_7_method_1_code 67 = .ok (.putfield 31, 3) := by decide +kernel
theorem dM_init_70 : decode prog_7_method_1_code 70 = .ok (.aload_n 0, 1) := by decide +kernel
theorem dM_init_71 : decode prog_7_method_1_code 71 = .ok (.bipush 13, 2) := by decide +kernel
theorem dM_init_73 : decode prog_7_method_1_code 73 = .ok (.newarray .int, 2) := by decide +kernel
theorem dM_init_75 : decode prog_7_method_1_code 75 = .ok (.putfield 35, 3) := by decide +kernel
theorem dM_init_78 : decode prog_7_method_1_code 78 = .ok (.aload_n 0, 1) := by decide +kernel
theorem dM_init_79 : decode prog_7_method_1_code 79 = .ok (.bipush 6, 2) := by decide +kernel
theorem dM_init_81 : decode prog_7_method_1_code 81 = .ok (.newarray .int, 2) := by decide +kernel
theorem dM_init_83 : decode prog_7_method_1_code 83 = .ok (.putfield 38, 3) := by decide +kernel
theorem dM_init_86 : decode prog_7_method_1_code 86 = .ok (.aload_n 0, 1) := by decide +kernel
theorem dM_init_87 : decode prog_7_method_1_code 87 = .ok (.bipush 70, 2) := by decide +kernel
theorem dM_init_89 : decode prog_7_method_1_code 89 = .ok (.newarray .int, 2) := by decide +kernel
theorem dM_init_91 : decode prog_7_method_1_code 91 = .ok (.putfield 41, 3) := by decide +kernel
theorem dM_init_94 : decode prog_7_method_1_code 94 = .ok (.aload_n 0, 1) := by decide +kernel
theorem dM_init_95 : decode prog_7_method_1_code 95 = .ok (.bipush 6, 2) := by decide +kernel
theorem dM_init_97 : decode prog_7_method_1_code 97 = .ok (.newarray .int, 2) := by decide +kernel
theorem dM_init_99 : decode prog_7_method_1_code 99 = .ok (.putfield 44, 3) := by decide +kernel
theorem dM_init_102 : decode prog_7_method_1_code 102 = .ok (.aload_n 0, 1) := by decide +kernel
theorem dM_init_103 : decode prog_7_method_1_code 103 = .ok (.bipush 12, 2) := by decide +kernel
theorem dM_init_105 : decode prog_7_method_1_code 105 = .ok (.newarray .int, 2) := by decide +kernel
theorem dM_init_107 : decode prog_7_method_1_code 107 = .ok (.putfield 47, 3) := by decide +kernel
theorem dM_init_110 : decode prog_7_method_1_code 110 = .ok (.aload_n 0, 1) := by decide +kernel
theorem dM_init_111 : decode prog_7_method_1_code 111 = .ok (.bipush 12, 2) := by decide +kernel
theorem dM_init_113 : decode prog_7_method_1_code 113 = .ok (.newarray .int, 2) := by decide +kernel
theorem dM_init_115 : decode prog_7_method_1_code 115 = .ok (.putfield 50, 3) := by decide +kernel
theorem dM_init_118 : decode prog_7_method_1_code 118 = .ok (.aload_n 0, 1) := by decide +kernel
theorem dM_init_119 : decode prog_7_method_1_code 119 = .ok (.bipush 67, 2) := by decide +kernel
theorem dM_init_121 : decode prog_7_method_1_code 121 = .ok (.newarray .int, 2) := by decide +kernel
theorem dM_init_123 : decode prog_7_method_1_code 123 = .ok (.putfield 53, 3) := by decide +kernel
theorem dM_init_126 : decode prog_7_method_1_code 126 = .ok (.iconst 0, 1) := by decide +kernel
theorem dM_init_127 : decode prog_7_method_1_code 127 = .ok (.istore_n 1, 1) := by decide +kernel
theorem dM_init_128 : decode prog_7_method_1_code 128 = .ok (.iload_n 1, 1) := by decide +kernel
theorem dM_init_129 : decode prog_7_method_1_code 129 = .ok (.bipush 67, 2) := by decide +kernel
theorem dM_init_131 : decode prog_7_method_1_code 131 = .ok (.if_icmp .ge 16, 3) := by decide +kernel
theorem dM_init_134 : decode prog_7_method_1_code 134 = .ok (.aload_n 0, 1) := by decide +kernel
theorem dM_init_135 : decode prog_7_method_1_code 135 = .ok (.getfield 7, 3) := by decide +kernel
theorem dM_init_138 : decode prog_7_method_1_code 138 = .ok (.iload_n 1, 1) := by decide +kernel
theorem dM_init_139 : decode prog_7_method_1_code 139 = .ok (.iconst (-1), 1) := by decide +kernel
theorem dM_init_140 : decode prog_7_method_1_code 140 = .ok (.iastore, 1) := by decide +kernel
theorem dM_init_141 : decode prog_7_method_1_code 141 = .ok (.iinc 1 1, 3) := by decide +kernel
theorem dM_init_144 : decode prog_7_method_1_code 144 = .ok (.goto (-16), 3) := by decide +kernel
theorem dM_init_147 : decode prog_7_method_1_code 147 = .ok (.return_, 1) := by decide +kernel
theorem dM_thrown_0 : decode prog_7_method_2_code 0 = .ok (.aload_n 0, 1) := by decide +kernel
theorem dM_thrown_1 : decode prog_7_method_2_code 1 = .ok (.getfield 56, 3) := by decide +kernel
theorem dM_thrown_4 : decode prog_7_method_2_code 4 = .ok (.ireturn, 1) := by decide +kernel
theorem dM_isArea_0 : decode prog_7_method_3_code 0 = .ok (.iload_n 1, 1) := by decide +kernel
theorem dM_isArea_1 : decode prog_7_method_3_code 1 = .ok (.ifCond .eq 23, 3) := by decide +kernel
theorem dM_isArea_4 : decode prog_7_method_3_code 4 = .ok (.iload_n 1, 1) := by decide +kernel
theorem dM_isArea_5 : decode prog_7_method_3_code 5 = .ok (.ifCond .le 23, 3) := by decide +kernel
theorem dM_isArea_8 : decode prog_7_method_3_code 8 = .ok (.iload_n 1, 1) := by decide +kernel
theorem dM_isArea_9 : decode prog_7_method_3_code 9 = .ok (.bipush 13, 2) := by decide +kernel
theorem dM_isArea_11 : decode prog_7_method_3_code 11 = .ok (.if_icmp .ge 17, 3) := by decide +kernel
theorem dM_isArea_14 : decode prog_7_method_3_code 14 = .ok (.aload_n 0, 1) := by decide +kernel
theorem dM_isArea_15 : decode prog_7_method_3_code 15 = .ok (.getfield 7, 3) := by decide +kernel
theorem dM_isArea_18 : decode prog_7_method_3_code 18 = .ok (.iload_n 1, 1) := by decide +kernel
theorem dM_isArea_19 : decode prog_7_method_3_code 19 = .ok (.iaload, 1) := by decide +kernel
theorem dM_isArea_20 : decode prog_7_method_3_code 20 = .ok (.iconst (-1), 1) := by decide +kernel
theorem dM_isArea_21 : decode prog_7_method_3_code 21 = .ok (.if_icmp .eq 7, 3) := by decide +kernel
theorem dM_isArea_24 : decode prog_7_method_3_code 24 = .ok (.iconst 1, 1) := by decide +kernel
theorem dM_isArea_25 : decode prog_7_method_3_code 25 = .ok (.goto 4, 3) := by decide +kernel
theorem dM_isArea_28 : decode prog_7_method_3_code 28 = .ok (.iconst 0, 1) := by decide +kernel
theorem dM_isArea_29 : decode prog_7_method_3_code 29 = .ok (.ireturn, 1) := by decide +kernel
theorem dM_isCut_0 : decode prog_7_method_4_code 0 = .ok (.iload_n 1, 1) := by decide +kernel
theorem dM_isCut_1 : decode prog_7_method_4_code 1 = .ok (.ifCond .le 15, 3) := by decide +kernel
theorem dM_isCut_4 : decode prog_7_method_4_code 4 = .ok (.aload_n 0, 1) := by decide +kernel
theorem dM_isCut_5 : decode prog_7_method_4_code 5 = .ok (.iload_n 1, 1) := by decide +kernel
theorem dM_isCut_6 : decode prog_7_method_4_code 6 = .ok (.invokevirtual 60, 3) := by decide +kernel
theorem dM_isCut_9 : decode prog_7_method_4_code 9 = .ok (.ifCond .eq 7, 3) := by decide +kernel
theorem dM_isCut_12 : decode prog_7_method_4_code 12 = .ok (.iconst 1, 1) := by decide +kernel
theorem dM_isCut_13 : decode prog_7_method_4_code 13 = .ok (.goto 4, 3) := by decide +kernel
theorem dM_isCut_16 : decode prog_7_method_4_code 16 = .ok (.iconst 0, 1) := by decide +kernel
theorem dM_isCut_17 : decode prog_7_method_4_code 17 = .ok (.ireturn, 1) := by decide +kernel
theorem dM_isLine_0 : decode prog_7_method_5_code 0 = .ok (.iload_n 1, 1) := by decide +kernel
theorem dM_isLine_1 : decode prog_7_method_5_code 1 = .ok (.ifCond .lt 26, 3) := by decide +kernel
theorem dM_isLine_4 : decode prog_7_method_5_code 4 = .ok (.iload_n 1, 1) := by decide +kernel
theorem dM_isLine_5 : decode prog_7_method_5_code 5 = .ok (.bipush 6, 2) := by decide +kernel
theorem dM_isLine_7 : decode prog_7_method_5_code 7 = .ok (.if_icmp .ge 20, 3) := by decide +kernel
theorem dM_isLine_10 : decode prog_7_method_5_code 10 = .ok (.aload_n 0, 1) := by decide +kernel
theorem dM_isLine_11 : decode prog_7_method_5_code 11 = .ok (.getfield 7, 3) := by decide +kernel
theorem dM_isLine_14 : decode prog_7_method_5_code 14 = .ok (.bipush 13, 2) := by decide +kernel
theorem dM_isLine_16 : decode prog_7_method_5_code 16 = .ok (.iload_n 1, 1) := by decide +kernel
theorem dM_isLine_17 : decode prog_7_method_5_code 17 = .ok (.iadd, 1) := by decide +kernel
theorem dM_isLine_18 : decode prog_7_method_5_code 18 = .ok (.iaload, 1) := by decide +kernel
theorem dM_isLine_19 : decode prog_7_method_5_code 19 = .ok (.iconst (-1), 1) := by decide +kernel
theorem dM_isLine_20 : decode prog_7_method_5_code 20 = .ok (.if_icmp .eq 7, 3) := by decide +kernel
theorem dM_isLine_23 : decode prog_7_method_5_code 23 = .ok (.iconst 1, 1) := by decide +kernel
theorem dM_isLine_24 : decode prog_7_method_5_code 24 = .ok (.goto 4, 3) := by decide +kernel
theorem dM_isLine_27 : decode prog_7_method_5_code 27 = .ok (.iconst 0, 1) := by decide +kernel
theorem dM_isLine_28 : decode prog_7_method_5_code 28 = .ok (.ireturn, 1) := by decide +kernel
theorem dM_isSpot_0 : decode prog_7_method_6_code 0 = .ok (.iload_n 1, 1) := by decide +kernel
theorem dM_isSpot_1 : decode prog_7_method_6_code 1 = .ok (.ifCond .lt 26, 3) := by decide +kernel
theorem dM_isSpot_4 : decode prog_7_method_6_code 4 = .ok (.iload_n 1, 1) := by decide +kernel
theorem dM_isSpot_5 : decode prog_7_method_6_code 5 = .ok (.bipush 12, 2) := by decide +kernel
theorem dM_isSpot_7 : decode prog_7_method_6_code 7 = .ok (.if_icmp .ge 20, 3) := by decide +kernel
theorem dM_isSpot_10 : decode prog_7_method_6_code 10 = .ok (.aload_n 0, 1) := by decide +kernel
theorem dM_isSpot_11 : decode prog_7_method_6_code 11 = .ok (.getfield 7, 3) := by decide +kernel
theorem dM_isSpot_14 : decode prog_7_method_6_code 14 = .ok (.bipush 19, 2) := by decide +kernel
theorem dM_isSpot_16 : decode prog_7_method_6_code 16 = .ok (.iload_n 1, 1) := by decide +kernel
theorem dM_isSpot_17 : decode prog_7_method_6_code 17 = .ok (.iadd, 1) := by decide +kernel
theorem dM_isSpot_18 : decode prog_7_method_6_code 18 = .ok (.iaload, 1) := by decide +kernel
theorem dM_isSpot_19 : decode prog_7_method_6_code 19 = .ok (.iconst (-1), 1) := by decide +kernel
theorem dM_isSpot_20 : decode prog_7_method_6_code 20 = .ok (.if_icmp .eq 7, 3) := by decide +kernel
theorem dM_isSpot_23 : decode prog_7_method_6_code 23 = .ok (.iconst 1, 1) := by decide +kernel
theorem dM_isSpot_24 : decode prog_7_method_6_code 24 = .ok (.goto 4, 3) := by decide +kernel
theorem dM_isSpot_27 : decode prog_7_method_6_code 27 = .ok (.iconst 0, 1) := by decide +kernel
theorem dM_isSpot_28 : decode prog_7_method_6_code 28 = .ok (.ireturn, 1) := by decide +kernel
theorem dM_isWithin_0 : decode prog_7_method_7_code 0 = .ok (.iload_n 1, 1) := by decide +kernel
theorem dM_isWithin_1 : decode prog_7_method_7_code 1 = .ok (.istore_n 3, 1) := by decide +kernel
theorem dM_isWithin_2 : decode prog_7_method_7_code 2 = .ok (.iload_n 3, 1) := by decide +kernel
theorem dM_isWithin_3 : decode prog_7_method_7_code 3 = .ok (.iload_n 2, 1) := by decide +kernel
theorem dM_isWithin_4 : decode prog_7_method_7_code 4 = .ok (.if_icmp .eq 17, 3) := by decide +kernel
theorem dM_isWithin_7 : decode prog_7_method_7_code 7 = .ok (.iload_n 3, 1) := by decide +kernel
theorem dM_isWithin_8 : decode prog_7_method_7_code 8 = .ok (.ifCond .eq 13, 3) := by decide +kernel
theorem dM_isWithin_11 : decode prog_7_method_7_code 11 = .ok (.aload_n 0, 1) := by decide +kernel
theorem dM_isWithin_12 : decode prog_7_method_7_code 12 = .ok (.getfield 7, 3) := by decide +kernel
theorem dM_isWithin_15 : decode prog_7_method_7_code 15 = .ok (.iload_n 3, 1) := by decide +kernel
theorem dM_isWithin_16 : decode prog_7_method_7_code 16 = .ok (.iaload, 1) := by decide +kernel
theorem dM_isWithin_17 : decode prog_7_method_7_code 17 = .ok (.istore_n 3, 1) := by decide +kernel
theorem dM_isWithin_18 : decode prog_7_method_7_code 18 = .ok (.goto (-16), 3) := by decide +kernel
theorem dM_isWithin_21 : decode prog_7_method_7_code 21 = .ok (.iload_n 3, 1) := by decide +kernel
theorem dM_isWithin_22 : decode prog_7_method_7_code 22 = .ok (.iload_n 2, 1) := by decide +kernel
theorem dM_isWithin_23 : decode prog_7_method_7_code 23 = .ok (.if_icmp .ne 7, 3) := by decide +kernel
theorem dM_isWithin_26 : decode prog_7_method_7_code 26 = .ok (.iconst 1, 1) := by decide +kernel
theorem dM_isWithin_27 : decode prog_7_method_7_code 27 = .ok (.goto 4, 3) := by decide +kernel
theorem dM_isWithin_30 : decode prog_7_method_7_code 30 = .ok (.iconst 0, 1) := by decide +kernel
theorem dM_isWithin_31 : decode prog_7_method_7_code 31 = .ok (.ireturn, 1) := by decide +kernel
theorem dM_depthOf_0 : decode prog_7_method_8_code 0 = .ok (.iconst 0, 1) := by decide +kernel
theorem dM_depthOf_1 : decode prog_7_method_8_code 1 = .ok (.istore_n 2, 1) := by decide +kernel
theorem dM_depthOf_2 : decode prog_7_method_8_code 2 = .ok (.iload_n 1, 1) := by decide +kernel
theorem dM_depthOf_3 : decode prog_7_method_8_code 3 = .ok (.istore_n 3, 1) := by decide +kernel
theorem dM_depthOf_4 : decode prog_7_method_8_code 4 = .ok (.iload_n 3, 1) := by decide +kernel
theorem dM_depthOf_5 : decode prog_7_method_8_code 5 = .ok (.ifCond .eq 16, 3) := by decide +kernel
theorem dM_depthOf_8 : decode prog_7_method_8_code 8 = .ok (.iinc 2 1, 3) := by decide +kernel
theorem dM_depthOf_11 : decode prog_7_method_8_code 11 = .ok (.aload_n 0, 1) := by decide +kernel
theorem dM_depthOf_12 : decode prog_7_method_8_code 12 = .ok (.getfield 7, 3) := by decide +kernel
theorem dM_depthOf_15 : decode prog_7_method_8_code 15 = .ok (.iload_n 3, 1) := by decide +kernel
theorem dM_depthOf_16 : decode prog_7_method_8_code 16 = .ok (.iaload, 1) := by decide +kernel
theorem dM_depthOf_17 : decode prog_7_method_8_code 17 = .ok (.istore_n 3, 1) := by decide +kernel
theorem dM_depthOf_18 : decode prog_7_method_8_code 18 = .ok (.goto (-14), 3) := by decide +kernel
theorem dM_depthOf_21 : decode prog_7_method_8_code 21 = .ok (.iload_n 2, 1) := by decide +kernel
theorem dM_depthOf_22 : decode prog_7_method_8_code 22 = .ok (.ireturn, 1) := by decide +kernel
theorem dM_places_0 : decode prog_7_method_9_code 0 = .ok (.iload_n 1, 1) := by decide +kernel
theorem dM_places_1 : decode prog_7_method_9_code 1 = .ok (.iconst 2, 1) := by decide +kernel
theorem dM_places_2 : decode prog_7_method_9_code 2 = .ok (.if_icmp .ge 7, 3) := by decide +kernel
theorem dM_places_5 : decode prog_7_method_9_code 5 = .ok (.iconst 0, 1) := by decide +kernel
theorem dM_places_6 : decode prog_7_method_9_code 6 = .ok (.goto 6, 3) := by decide +kernel
theorem dM_places_9 : decode prog_7_method_9_code 9 = .ok (.iload_n 1, 1) := by decide +kernel
theorem dM_places_10 : decode prog_7_method_9_code 10 = .ok (.iconst 1, 1) := by decide +kernel
theorem dM_places_11 : decode prog_7_method_9_code 11 = .ok (.isub, 1) := by decide +kernel
theorem dM_places_12 : decode prog_7_method_9_code 12 = .ok (.ireturn, 1) := by decide +kernel
theorem dM_freeCut_0 : decode prog_7_method_10_code 0 = .ok (.iconst 1, 1) := by decide +kernel
theorem dM_freeCut_1 : decode prog_7_method_10_code 1 = .ok (.istore_n 1, 1) := by decide +kernel
theorem dM_freeCut_2 : decode prog_7_method_10_code 2 = .ok (.iload_n 1, 1) := by decide +kernel
theorem dM_freeCut_3 : decode prog_7_method_10_code 3 = .ok (.bipush 13, 2) := by decide +kernel
theorem dM_freeCut_5 : decode prog_7_method_10_code 5 = .ok (.if_icmp .ge 19, 3) := by decide +kernel
theorem dM_freeCut_8 : decode prog_7_method_10_code 8 = .ok (.aload_n 0, 1) := by decide +kernel
theorem dM_freeCut_9 : decode prog_7_method_10_code 9 = .ok (.getfield 7, 3) := by decide +kernel
theorem dM_freeCut_12 : decode prog_7_method_10_code 12 = .ok (.iload_n 1, 1) := by decide +kernel
theorem dM_freeCut_13 : decode prog_7_method_10_code 13 = .ok (.iaload, 1) := by decide +kernel
theorem dM_freeCut_14 : decode prog_7_method_10_code 14 = .ok (.iconst (-1), 1) := by decide +kernel
theorem dM_freeCut_15 : decode prog_7_method_10_code 15 = .ok (.if_icmp .eq 9, 3) := by decide +kernel
theorem dM_freeCut_18 : decode prog_7_method_10_code 18 = .ok (.iinc 1 1, 3) := by decide +kernel
theorem dM_freeCut_21 : decode prog_7_method_10_code 21 = .ok (.goto (-19), 3) := by decide +kernel
theorem dM_freeCut_24 : decode prog_7_method_10_code 24 = .ok (.iload_n 1, 1) := by decide +kernel
theorem dM_freeCut_25 : decode prog_7_method_10_code 25 = .ok (.ireturn, 1) := by decide +kernel
theorem dM_freeLine_0 : decode prog_7_method_11_code 0 = .ok (.iconst 0, 1) := by decide +kernel
theorem dM_freeLine_1 : decode prog_7_method_11_code 1 = .ok (.istore_n 1, 1) := by decide +kernel
theorem dM_freeLine_2 : decode prog_7_method_11_code 2 = .ok (.iload_n 1, 1) := by decide +kernel
theorem dM_freeLine_3 : decode prog_7_method_11_code 3 = .ok (.bipush 6, 2) := by decide +kernel
theorem dM_freeLine_5 : decode prog_7_method_11_code 5 = .ok (.if_icmp .ge 22, 3) := by decide +kernel
theorem dM_freeLine_8 : decode prog_7_method_11_code 8 = .ok (.aload_n 0, 1) := by decide +kernel
theorem dM_freeLine_9 : decode prog_7_method_11_code 9 = .ok (.getfield 7, 3) := by decide +kernel
theorem dM_freeLine_12 : decode prog_7_method_11_code 12 = .ok (.bipush 13, 2) := by decide +kernel
theorem dM_freeLine_14 : decode prog_7_method_11_code 14 = .ok (.iload_n 1, 1) := by decide +kernel
theorem dM_freeLine_15 : decode prog_7_method_11_code 15 = .ok (.iadd, 1) := by decide +kernel
theorem dM_freeLine_16 : decode prog_7_method_11_code 16 = .ok (.iaload, 1) := by decide +kernel
theorem dM_freeLine_17 : decode prog_7_method_11_code 17 = .ok (.iconst (-1), 1) := by decide +kernel
theorem dM_freeLine_18 : decode prog_7_method_11_code 18 = .ok (.if_icmp .eq 9, 3) := by decide +kernel
theorem dM_freeLine_21 : decode prog_7_method_11_code 21 = .ok (.iinc 1 1, 3) := by decide +kernel
theorem dM_freeLine_24 : decode prog_7_method_11_code 24 = .ok (.goto (-22), 3) := by decide +kernel
theorem dM_freeLine_27 : decode prog_7_method_11_code 27 = .ok (.iload_n 1, 1) := by decide +kernel
theorem dM_freeLine_28 : decode prog_7_method_11_code 28 = .ok (.ireturn, 1) := by decide +kernel
theorem dM_freeSpot_0 : decode prog_7_method_12_code 0 = .ok (.iconst 0, 1) := by decide +kernel
theorem dM_freeSpot_1 : decode prog_7_method_12_code 1 = .ok (.istore_n 1, 1) := by decide +kernel
theorem dM_freeSpot_2 : decode prog_7_method_12_code 2 = .ok (.iload_n 1, 1) := by decide +kernel
theorem dM_freeSpot_3 : decode prog_7_method_12_code 3 = .ok (.bipush 12, 2) := by decide +kernel
theorem dM_freeSpot_5 : decode prog_7_method_12_code 5 = .ok (.if_icmp .ge 22, 3) := by decide +kernel
theorem dM_freeSpot_8 : decode prog_7_method_12_code 8 = .ok (.aload_n 0, 1) := by decide +kernel
theorem dM_freeSpot_9 : decode prog_7_method_12_code 9 = .ok (.getfield 7, 3) := by decide +kernel
theorem dM_freeSpot_12 : decode prog_7_method_12_code 12 = .ok (.bipush 19, 2) := by decide +kernel
theorem dM_freeSpot_14 : decode prog_7_method_12_code 14 = .ok (.iload_n 1, 1) := by decide +kernel
theorem dM_freeSpot_15 : decode prog_7_method_12_code 15 = .ok (.iadd, 1) := by decide +kernel
theorem dM_freeSpot_16 : decode prog_7_method_12_code 16 = .ok (.iaload, 1) := by decide +kernel
theorem dM_freeSpot_17 : decode prog_7_method_12_code 17 = .ok (.iconst (-1), 1) := by decide +kernel
theorem dM_freeSpot_18 : decode prog_7_method_12_code 18 = .ok (.if_icmp .eq 9, 3) := by decide +kernel
theorem dM_freeSpot_21 : decode prog_7_method_12_code 21 = .ok (.iinc 1 1, 3) := by decide +kernel
theorem dM_freeSpot_24 : decode prog_7_method_12_code 24 = .ok (.goto (-22), 3) := by decide +kernel
theorem dM_freeSpot_27 : decode prog_7_method_12_code 27 = .ok (.iload_n 1, 1) := by decide +kernel
theorem dM_freeSpot_28 : decode prog_7_method_12_code 28 = .ok (.ireturn, 1) := by decide +kernel
theorem dM_amount_0 : decode prog_7_method_13_code 0 = .ok (.iconst 0, 1) := by decide +kernel
theorem dM_amount_1 : decode prog_7_method_13_code 1 = .ok (.istore_n 3, 1) := by decide +kernel
theorem dM_amount_2 : decode prog_7_method_13_code 2 = .ok (.iload_n 1, 1) := by decide +kernel
theorem dM_amount_3 : decode prog_7_method_13_code 3 = .ok (.istore 4, 2) := by decide +kernel
theorem dM_amount_5 : decode prog_7_method_13_code 5 = .ok (.iload 4, 2) := by decide +kernel
theorem dM_amount_7 : decode prog_7_method_13_code 7 = .ok (.iload_n 2, 1) := by decide +kernel
theorem dM_amount_8 : decode prog_7_method_13_code 8 = .ok (.if_icmp .ge 28, 3) := by decide +kernel
theorem dM_amount_11 : decode prog_7_method_13_code 11 = .ok (.iload_n 3, 1) := by decide +kernel
theorem dM_amount_12 : decode prog_7_method_13_code 12 = .ok (.aload_n 0, 1) := by decide +kernel
theorem dM_amount_13 : decode prog_7_method_13_code 13 = .ok (.getfield 7, 3) := by decide +kernel
theorem dM_amount_16 : decode prog_7_method_13_code 16 = .ok (.iload 4, 2) := by decide +kernel
theorem dM_amount_18 : decode prog_7_method_13_code 18 = .ok (.iaload, 1) := by decide +kernel
theorem dM_amount_19 : decode prog_7_method_13_code 19 = .ok (.iconst (-1), 1) := by decide +kernel
theorem dM_amount_20 : decode prog_7_method_13_code 20 = .ok (.if_icmp .eq 7, 3) := by decide +kernel
theorem dM_amount_23 : decode prog_7_method_13_code 23 = .ok (.iconst 1, 1) := by decide +kernel
theorem dM_amount_24 : decode prog_7_method_13_code 24 = .ok (.goto 4, 3) := by decide +kernel
theorem dM_amount_27 : decode prog_7_method_13_code 27 = .ok (.iconst 0, 1) := by decide +kernel
theorem dM_amount_28 : decode prog_7_method_13_code 28 = .ok (.iadd, 1) := by decide +kernel
theorem dM_amount_29 : decode prog_7_method_13_code 29 = .ok (.istore_n 3, 1) := by decide +kernel
theorem dM_amount_30 : decode prog_7_method_13_code 30 = .ok (.iinc 4 1, 3) := by decide +kernel
theorem dM_amount_33 : decode prog_7_method_13_code 33 = .ok (.goto (-28), 3) := by decide +kernel
theorem dM_amount_36 : decode prog_7_method_13_code 36 = .ok (.iload_n 3, 1) := by decide +kernel
theorem dM_amount_37 : decode prog_7_method_13_code 37 = .ok (.ireturn, 1) := by decide +kernel
theorem dM_keep_0 : decode prog_7_method_14_code 0 = .ok (.aload_n 0, 1) := by decide +kernel
theorem dM_keep_1 : decode prog_7_method_14_code 1 = .ok (.getfield 64, 3) := by decide +kernel
theorem dM_keep_4 : decode prog_7_method_14_code 4 = .ok (.ifCond .eq 47, 3) := by decide +kernel
theorem dM_keep_7 : decode prog_7_method_14_code 7 = .ok (.iconst 0, 1) := by decide +kernel
theorem dM_keep_8 : decode prog_7_method_14_code 8 = .ok (.istore_n 1, 1) := by decide +kernel
theorem dM_keep_9 : decode prog_7_method_14_code 9 = .ok (.iload_n 1, 1) := by decide +kernel
theorem dM_keep_10 : decode prog_7_method_14_code 10 = .ok (.bipush 67, 2) := by decide +kernel
theorem dM_keep_12 : decode prog_7_method_14_code 12 = .ok (.if_icmp .ge 29, 3) := by decide +kernel
theorem dM_keep_15 : decode prog_7_method_14_code 15 = .ok (.aload_n 0, 1) := by decide +kernel
theorem dM_keep_16 : decode prog_7_method_14_code 16 = .ok (.getfield 13, 3) := by decide +kernel
theorem dM_keep_19 : decode prog_7_method_14_code 19 = .ok (.bipush 67, 2) := by decide +kernel
theorem dM_keep_21 : decode prog_7_method_14_code 21 = .ok (.aload_n 0, 1) := by decide +kernel
theorem dM_keep_22 : decode prog_7_method_14_code 22 = .ok (.getfield 68, 3) := by decide +kernel
theorem dM_keep_25 : decode prog_7_method_14_code 25 = .ok (.imul, 1) := by decide +kernel
theorem dM_keep_26 : decode prog_7_method_14_code 26 = .ok (.iload_n 1, 1) := by decide +kernel
theorem dM_keep_27 : decode prog_7_method_14_code 27 = .ok (.iadd, 1) := by decide +kernel
theorem dM_keep_28 : decode prog_7_method_14_code 28 = .ok (.aload_n 0, 1) := by decide +kernel
theorem dM_keep_29 : decode prog_7_method_14_code 29 = .ok (.getfield 7, 3) := by decide +kernel
theorem dM_keep_32 : decode prog_7_method_14_code 32 = .ok (.iload_n 1, 1) := by decide +kernel
theorem dM_keep_33 : decode prog_7_method_14_code 33 = .ok (.iaload, 1) := by decide +kernel
theorem dM_keep_34 : decode prog_7_method_14_code 34 = .ok (.iastore, 1) := by decide +kernel
theorem dM_keep_35 : decode prog_7_method_14_code 35 = .ok (.iinc 1 1, 3) := by decide +kernel
theorem dM_keep_38 : decode prog_7_method_14_code 38 = .ok (.goto (-29), 3) := by decide +kernel
theorem dM_keep_41 : decode prog_7_method_14_code 41 = .ok (.aload_n 0, 1) := by decide +kernel
theorem dM_keep_42 : decode prog_7_method_14_code 42 = .ok (.dup, 1) := by decide +kernel
theorem dM_keep_43 : decode prog_7_method_14_code 43 = .ok (.getfield 68, 3) := by decide +kernel
theorem dM_keep_46 : decode prog_7_method_14_code 46 = .ok (.iconst 1, 1) := by decide +kernel
theorem dM_keep_47 : decode prog_7_method_14_code 47 = .ok (.iadd, 1) := by decide +kernel
theorem dM_keep_48 : decode prog_7_method_14_code 48 = .ok (.putfield 68, 3) := by decide +kernel
theorem dM_keep_51 : decode prog_7_method_14_code 51 = .ok (.return_, 1) := by decide +kernel
theorem dM_checked_0 : decode prog_7_method_15_code 0 = .ok (.aload_n 0, 1) := by decide +kernel
theorem dM_checked_1 : decode prog_7_method_15_code 1 = .ok (.getfield 64, 3) := by decide +kernel
theorem dM_checked_4 : decode prog_7_method_15_code 4 = .ok (.ifCond .eq 17, 3) := by decide +kernel
theorem dM_checked_7 : decode prog_7_method_15_code 7 = .ok (.aload_n 0, 1) := by decide +kernel
theorem dM_checked_8 : decode prog_7_method_15_code 8 = .ok (.iload_n 1, 1) := by decide +kernel
theorem dM_checked_9 : decode prog_7_method_15_code 9 = .ok (.invokevirtual 71, 3) := by decide +kernel
theorem dM_checked_12 : decode prog_7_method_15_code 12 = .ok (.iconst 2, 1) := by decide +kernel
theorem dM_checked_13 : decode prog_7_method_15_code 13 = .ok (.irem, 1) := by decide +kernel
theorem dM_checked_14 : decode prog_7_method_15_code 14 = .ok (.ifCond .ne 7, 3) := by decide +kernel
theorem dM_checked_17 : decode prog_7_method_15_code 17 = .ok (.iconst 2, 1) := by decide +kernel
theorem dM_checked_18 : decode prog_7_method_15_code 18 = .ok (.goto 28, 3) := by decide +kernel
theorem dM_checked_21 : decode prog_7_method_15_code 21 = .ok (.iload_n 2, 1) := by decide +kernel
theorem dM_checked_22 : decode prog_7_method_15_code 22 = .ok (.ifCond .ne 19, 3) := by decide +kernel
theorem dM_checked_25 : decode prog_7_method_15_code 25 = .ok (.aload_n 0, 1) := by decide +kernel
theorem dM_checked_26 : decode prog_7_method_15_code 26 = .ok (.getfield 64, 3) := by decide +kernel
theorem dM_checked_29 : decode prog_7_method_15_code 29 = .ok (.ifCond .eq 16, 3) := by decide +kernel
theorem dM_checked_32 : decode prog_7_method_15_code 32 = .ok (.aload_n 0, 1) := by decide +kernel
theorem dM_checked_33 : decode prog_7_method_15_code 33 = .ok (.getfield 68, 3) := by decide +kernel
theorem dM_checked_36 : decode prog_7_method_15_code 36 = .ok (.bipush 20, 2) := by decide +kernel
theorem dM_checked_38 : decode prog_7_method_15_code 38 = .ok (.if_icmp .ne 7, 3) := by decide +kernel
theorem dM_checked_41 : decode prog_7_method_15_code 41 = .ok (.iconst 3, 1) := by decide +kernel
theorem dM_checked_42 : decode prog_7_method_15_code 42 = .ok (.goto 4, 3) := by decide +kernel
theorem dM_checked_45 : decode prog_7_method_15_code 45 = .ok (.iconst 0, 1) := by decide +kernel
theorem dM_checked_46 : decode prog_7_method_15_code 46 = .ok (.ireturn, 1) := by decide +kernel
theorem dM_cut_0 : decode prog_7_method_16_code 0 = .ok (.aload_n 0, 1) := by decide +kernel
theorem dM_cut_1 : decode prog_7_method_16_code 1 = .ok (.aload_n 0, 1) := by decide +kernel
theorem dM_cut_2 : decode prog_7_method_16_code 2 = .ok (.iload_n 1, 1) := by decide +kernel
theorem dM_cut_3 : decode prog_7_method_16_code 3 = .ok (.invokevirtual 60, 3) := by decide +kernel
theorem dM_cut_6 : decode prog_7_method_16_code 6 = .ok (.ifCond .ne 7, 3) := by decide +kernel
theorem dM_cut_9 : decode prog_7_method_16_code 9 = .ok (.iconst 1, 1) := by decide +kernel
theorem dM_cut_10 : decode prog_7_method_16_code 10 = .ok (.goto 22, 3) := by decide +kernel
theorem dM_cut_13 : decode prog_7_method_16_code 13 = .ok (.aload_n 0, 1) := by decide +kernel
theorem dM_cut_14 : decode prog_7_method_16_code 14 = .ok (.iload_n 1, 1) := by decide +kernel
theorem dM_cut_15 : decode prog_7_method_16_code 15 = .ok (.aload_n 0, 1) := by decide +kernel
theorem dM_cut_16 : decode prog_7_method_16_code 16 = .ok (.invokevirtual 75, 3) := by decide +kernel
theorem dM_cut_19 : decode prog_7_method_16_code 19 = .ok (.bipush 13, 2) := by decide +kernel
theorem dM_cut_21 : decode prog_7_method_16_code 21 = .ok (.if_icmp .ne 7, 3) := by decide +kernel
theorem dM_cut_24 : decode prog_7_method_16_code 24 = .ok (.iconst 1, 1) := by decide +kernel
theorem dM_cut_25 : decode prog_7_method_16_code 25 = .ok (.goto 4, 3) := by decide +kernel
theorem dM_cut_28 : decode prog_7_method_16_code 28 = .ok (.iconst 0, 1) := by decide +kernel
theorem dM_cut_29 : decode prog_7_method_16_code 29 = .ok (.invokevirtual 79, 3) := by decide +kernel
theorem dM_cut_32 : decode prog_7_method_16_code 32 = .ok (.putfield 56, 3) := by decide +kernel
theorem dM_cut_35 : decode prog_7_method_16_code 35 = .ok (.aload_n 0, 1) := by decide +kernel
theorem dM_cut_36 : decode prog_7_method_16_code 36 = .ok (.getfield 56, 3) := by decide +kernel
theorem dM_cut_39 : decode prog_7_method_16_code 39 = .ok (.ifCond .eq 5, 3) := by decide +kernel
theorem dM_cut_42 : decode prog_7_method_16_code 42 = .ok (.iconst 0, 1) := by decide +kernel
theorem dM_cut_43 : decode prog_7_method_16_code 43 = .ok (.ireturn, 1) := by decide +kernel
theorem dM_cut_44 : decode prog_7_method_16_code 44 = .ok (.aload_n 0, 1) := by decide +kernel
theorem dM_cut_45 : decode prog_7_method_16_code 45 = .ok (.invokevirtual 83, 3) := by decide +kernel
theorem dM_cut_48 : decode prog_7_method_16_code 48 = .ok (.aload_n 0, 1) := by decide +kernel
theorem dM_cut_49 : decode prog_7_method_16_code 49 = .ok (.invokevirtual 75, 3) := by decide +kernel
theorem dM_cut_52 : decode prog_7_method_16_code 52 = .ok (.istore_n 2, 1) := by decide +kernel
theorem dM_cut_53 : decode prog_7_method_16_code 53 = .ok (.aload_n 0, 1) := by decide +kernel
theorem dM_cut_54 : decode prog_7_method_16_code 54 = .ok (.getfield 7, 3) := by decide +kernel
theorem dM_cut_57 : decode prog_7_method_16_code 57 = .ok (.iload_n 2, 1) := by decide +kernel
theorem dM_cut_58 : decode prog_7_method_16_code 58 = .ok (.iload_n 1, 1) := by decide +kernel
theorem dM_cut_59 : decode prog_7_method_16_code 59 = .ok (.iastore, 1) := by decide +kernel
theorem dM_cut_60 : decode prog_7_method_16_code 60 = .ok (.iload_n 2, 1) := by decide +kernel
theorem dM_cut_61 : decode prog_7_method_16_code 61 = .ok (.ireturn, 1) := by decide +kernel
theorem dM_line_0 : decode prog_7_method_17_code 0 = .ok (.aload_n 0, 1) := by decide +kernel
theorem dM_line_1 : decode prog_7_method_17_code 1 = .ok (.aload_n 0, 1) := by decide +kernel
theorem dM_line_2 : decode prog_7_method_17_code 2 = .ok (.iload_n 1, 1) := by decide +kernel
theorem dM_line_3 : decode prog_7_method_17_code 3 = .ok (.invokevirtual 60, 3) := by decide +kernel
theorem dM_line_6 : decode prog_7_method_17_code 6 = .ok (.ifCond .ne 7, 3) := by decide +kernel
theorem dM_line_9 : decode prog_7_method_17_code 9 = .ok (.iconst 1, 1) := by decide +kernel
theorem dM_line_10 : decode prog_7_method_17_code 10 = .ok (.goto 22, 3) := by decide +kernel
theorem dM_line_13 : decode prog_7_method_17_code 13 = .ok (.aload_n 0, 1) := by decide +kernel
theorem dM_line_14 : decode prog_7_method_17_code 14 = .ok (.iload_n 1, 1) := by decide +kernel
theorem dM_line_15 : decode prog_7_method_17_code 15 = .ok (.aload_n 0, 1) := by decide +kernel
theorem dM_line_16 : decode prog_7_method_17_code 16 = .ok (.invokevirtual 86, 3) := by decide +kernel
theorem dM_line_19 : decode prog_7_method_17_code 19 = .ok (.bipush 6, 2) := by decide +kernel
theorem dM_line_21 : decode prog_7_method_17_code 21 = .ok (.if_icmp .ne 7, 3) := by decide +kernel
theorem dM_line_24 : decode prog_7_method_17_code 24 = .ok (.iconst 1, 1) := by decide +kernel
theorem dM_line_25 : decode prog_7_method_17_code 25 = .ok (.goto 4, 3) := by decide +kernel
theorem dM_line_28 : decode prog_7_method_17_code 28 = .ok (.iconst 0, 1) := by decide +kernel
theorem dM_line_29 : decode prog_7_method_17_code 29 = .ok (.invokevirtual 79, 3) := by decide +kernel
theorem dM_line_32 : decode prog_7_method_17_code 32 = .ok (.putfield 56, 3) := by decide +kernel
theorem dM_line_35 : decode prog_7_method_17_code 35 = .ok (.aload_n 0, 1) := by decide +kernel
theorem dM_line_36 : decode prog_7_method_17_code 36 = .ok (.getfield 56, 3) := by decide +kernel
theorem dM_line_39 : decode prog_7_method_17_code 39 = .ok (.ifCond .eq 5, 3) := by decide +kernel
theorem dM_line_42 : decode prog_7_method_17_code 42 = .ok (.iconst 0, 1) := by decide +kernel
theorem dM_line_43 : decode prog_7_method_17_code 43 = .ok (.ireturn, 1) := by decide +kernel
theorem dM_line_44 : decode prog_7_method_17_code 44 = .ok (.aload_n 0, 1) := by decide +kernel
theorem dM_line_45 : decode prog_7_method_17_code 45 = .ok (.invokevirtual 83, 3) := by decide +kernel
theorem dM_line_48 : decode prog_7_method_17_code 48 = .ok (.aload_n 0, 1) := by decide +kernel
theorem dM_line_49 : decode prog_7_method_17_code 49 = .ok (.invokevirtual 86, 3) := by decide +kernel
theorem dM_line_52 : decode prog_7_method_17_code 52 = .ok (.istore_n 2, 1) := by decide +kernel
theorem dM_line_53 : decode prog_7_method_17_code 53 = .ok (.aload_n 0, 1) := by decide +kernel
theorem dM_line_54 : decode prog_7_method_17_code 54 = .ok (.getfield 7, 3) := by decide +kernel
theorem dM_line_57 : decode prog_7_method_17_code 57 = .ok (.bipush 13, 2) := by decide +kernel
theorem dM_line_59 : decode prog_7_method_17_code 59 = .ok (.iload_n 2, 1) := by decide +kernel
theorem dM_line_60 : decode prog_7_method_17_code 60 = .ok (.iadd, 1) := by decide +kernel
theorem dM_line_61 : decode prog_7_method_17_code 61 = .ok (.iload_n 1, 1) := by decide +kernel
theorem dM_line_62 : decode prog_7_method_17_code 62 = .ok (.iastore, 1) := by decide +kernel
theorem dM_line_63 : decode prog_7_method_17_code 63 = .ok (.iload_n 2, 1) := by decide +kernel
theorem dM_line_64 : decode prog_7_method_17_code 64 = .ok (.ireturn, 1) := by decide +kernel
theorem dM_mayHook_0 : decode prog_7_method_18_code 0 = .ok (.aload_n 0, 1) := by decide +kernel
theorem dM_mayHook_1 : decode prog_7_method_18_code 1 = .ok (.iload_n 2, 1) := by decide +kernel
theorem dM_mayHook_2 : decode prog_7_method_18_code 2 = .ok (.invokevirtual 89, 3) := by decide +kernel
theorem dM_mayHook_5 : decode prog_7_method_18_code 5 = .ok (.ifCond .eq 24, 3) := by decide +kernel
theorem dM_mayHook_8 : decode prog_7_method_18_code 8 = .ok (.aload_n 0, 1) := by decide +kernel
theorem dM_mayHook_9 : decode prog_7_method_18_code 9 = .ok (.iload_n 1, 1) := by decide +kernel
theorem dM_mayHook_10 : decode prog_7_method_18_code 10 = .ok (.aload_n 0, 1) := by decide +kernel
theorem dM_mayHook_11 : decode prog_7_method_18_code 11 = .ok (.getfield 7, 3) := by decide +kernel
theorem dM_mayHook_14 : decode prog_7_method_18_code 14 = .ok (.bipush 13, 2) := by decide +kernel
theorem dM_mayHook_16 : decode prog_7_method_18_code 16 = .ok (.iload_n 2, 1) := by decide +kernel
theorem dM_mayHook_17 : decode prog_7_method_18_code 17 = .ok (.iadd, 1) := by decide +kernel
theorem dM_mayHook_18 : decode prog_7_method_18_code 18 = .ok (.iaload, 1) := by decide +kernel
theorem dM_mayHook_19 : decode prog_7_method_18_code 19 = .ok (.invokevirtual 92, 3) := by decide +kernel
theorem dM_mayHook_22 : decode prog_7_method_18_code 22 = .ok (.ifCond .eq 7, 3) := by decide +kernel
theorem dM_mayHook_25 : decode prog_7_method_18_code 25 = .ok (.iconst 1, 1) := by decide +kernel
theorem dM_mayHook_26 : decode prog_7_method_18_code 26 = .ok (.goto 4, 3) := by decide +kernel
theorem dM_mayHook_29 : decode prog_7_method_18_code 29 = .ok (.iconst 0, 1) := by decide +kernel
theorem dM_mayHook_30 : decode prog_7_method_18_code 30 = .ok (.ireturn, 1) := by decide +kernel
theorem dM_spot_0 : decode prog_7_method_19_code 0 = .ok (.aload_n 0, 1) := by decide +kernel
theorem dM_spot_1 : decode prog_7_method_19_code 1 = .ok (.iload_n 1, 1) := by decide +kernel
theorem dM_spot_2 : decode prog_7_method_19_code 2 = .ok (.invokevirtual 60, 3) := by decide +kernel
theorem dM_spot_5 : decode prog_7_method_19_code 5 = .ok (.ifCond .eq 12, 3) := by decide +kernel
theorem dM_spot_8 : decode prog_7_method_19_code 8 = .ok (.iload_n 2, 1) := by decide +kernel
theorem dM_spot_9 : decode prog_7_method_19_code 9 = .ok (.ifCond .lt 8, 3) := by decide +kernel
theorem dM_spot_12 : decode prog_7_method_19_code 12 = .ok (.iload_n 2, 1) := by decide +kernel
theorem dM_spot_13 : decode prog_7_method_19_code 13 = .ok (.iconst 3, 1) := by decide +kernel
theorem dM_spot_14 : decode prog_7_method_19_code 14 = .ok (.if_icmp .le 7, 3) := by decide +kernel
theorem dM_spot_17 : decode prog_7_method_19_code 17 = .ok (.iconst 1, 1) := by decide +kernel
theorem dM_spot_18 : decode prog_7_method_19_code 18 = .ok (.goto 4, 3) := by decide +kernel
theorem dM_spot_21 : decode prog_7_method_19_code 21 = .ok (.iconst 0, 1) := by decide +kernel
theorem dM_spot_22 : decode prog_7_method_19_code 22 = .ok (.istore 5, 2) := by decide +kernel
theorem dM_spot_24 : decode prog_7_method_19_code 24 = .ok (.iload 5, 2) := by decide +kernel
theorem dM_spot_26 : decode prog_7_method_19_code 26 = .ok (.ifCond .ne 39, 3) := by decide +kernel
theorem dM_spot_29 : decode prog_7_method_19_code 29 = .ok (.aload_n 0, 1) := by decide +kernel
theorem dM_spot_30 : decode prog_7_method_19_code 30 = .ok (.iload_n 2, 1) := by decide +kernel
theorem dM_spot_31 : decode prog_7_method_19_code 31 = .ok (.invokevirtual 96, 3) := by decide +kernel
theorem dM_spot_34 : decode prog_7_method_19_code 34 = .ok (.ifCond .le 12, 3) := by decide +kernel
theorem dM_spot_37 : decode prog_7_method_19_code 37 = .ok (.aload_n 0, 1) := by decide +kernel
theorem dM_spot_38 : decode prog_7_method_19_code 38 = .ok (.iload_n 1, 1) := by decide +kernel
theorem dM_spot_39 : decode prog_7_method_19_code 39 = .ok (.iload_n 3, 1) := by decide +kernel
theorem dM_spot_40 : decode prog_7_method_19_code 40 = .ok (.invokevirtual 99, 3) := by decide +kernel
theorem dM_spot_43 : decode prog_7_method_19_code 43 = .ok (.ifCond .eq 22, 3) := by decide +kernel
theorem dM_spot_46 : decode prog_7_method_19_code 46 = .ok (.aload_n 0, 1) := by decide +kernel
theorem dM_spot_47 : decode prog_7_method_19_code 47 = .ok (.iload_n 2, 1) := by decide +kernel
theorem dM_spot_48 : decode prog_7_method_19_code 48 = .ok (.invokevirtual 96, 3) := by decide +kernel
theorem dM_spot_51 : decode prog_7_method_19_code 51 = .ok (.iconst 1, 1) := by decide +kernel
theorem dM_spot_52 : decode prog_7_method_19_code 52 = .ok (.if_icmp .le 17, 3) := by decide +kernel
theorem dM_spot_55 : decode prog_7_method_19_code 55 = .ok (.aload_n 0, 1) := by decide +kernel
theorem dM_spot_56 : decode prog_7_method_19_code 56 = .ok (.iload_n 1, 1) := by decide +kernel
theorem dM_spot_57 : decode prog_7_method_19_code 57 = .ok (.iload 4, 2) := by decide +kernel
theorem dM_spot_59 : decode prog_7_method_19_code 59 = .ok (.invokevirtual 99, 3) := by decide +kernel
theorem dM_spot_62 : decode prog_7_method_19_code 62 = .ok (.ifCond .ne 7, 3) := by decide +kernel
theorem dM_spot_65 : decode prog_7_method_19_code 65 = .ok (.iconst 1, 1) := by decide +kernel
theorem dM_spot_66 : decode prog_7_method_19_code 66 = .ok (.goto 4, 3) := by decide +kernel
theorem dM_spot_69 : decode prog_7_method_19_code 69 = .ok (.iconst 0, 1) := by decide +kernel
theorem dM_spot_70 : decode prog_7_method_19_code 70 = .ok (.istore 5, 2) := by decide +kernel
theorem dM_spot_72 : decode prog_7_method_19_code 72 = .ok (.aload_n 0, 1) := by decide +kernel
theorem dM_spot_73 : decode prog_7_method_19_code 73 = .ok (.iload 5, 2) := by decide +kernel
theorem dM_spot_75 : decode prog_7_method_19_code 75 = .ok (.ifCond .eq 7, 3) := by decide +kernel
theorem dM_spot_78 : decode prog_7_method_19_code 78 = .ok (.iconst 1, 1) := by decide +kernel
theorem dM_spot_79 : decode prog_7_method_19_code 79 = .ok (.goto 22, 3) := by decide +kernel
theorem dM_spot_82 : decode prog_7_method_19_code 82 = .ok (.aload_n 0, 1) := by decide +kernel
theorem dM_spot_83 : decode prog_7_method_19_code 83 = .ok (.iload_n 1, 1) := by decide +kernel
theorem dM_spot_84 : decode prog_7_method_19_code 84 = .ok (.aload_n 0, 1) := by decide +kernel
theorem dM_spot_85 : decode prog_7_method_19_code 85 = .ok (.invokevirtual 102, 3) := by decide +kernel
theorem dM_spot_88 : decode prog_7_method_19_code 88 = .ok (.bipush 12, 2) := by decide +kernel
theorem dM_spot_90 : decode prog_7_method_19_code 90 = .ok (.if_icmp .ne 7, 3) := by decide +kernel
theorem dM_spot_93 : decode prog_7_method_19_code 93 = .ok (.iconst 1, 1) := by decide +kernel
theorem dM_spot_94 : decode prog_7_method_19_code 94 = .ok (.goto 4, 3) := by decide +kernel
theorem dM_spot_97 : decode prog_7_method_19_code 97 = .ok (.iconst 0, 1) := by decide +kernel
theorem dM_spot_98 : decode prog_7_method_19_code 98 = .ok (.invokevirtual 79, 3) := by decide +kernel
theorem dM_spot_101 : decode prog_7_method_19_code 101 = .ok (.putfield 56, 3) := by decide +kernel
theorem dM_spot_104 : decode prog_7_method_19_code 104 = .ok (.aload_n 0, 1) := by decide +kernel
theorem dM_spot_105 : decode prog_7_method_19_code 105 = .ok (.getfield 56, 3) := by decide +kernel
theorem dM_spot_108 : decode prog_7_method_19_code 108 = .ok (.ifCond .eq 5, 3) := by decide +kernel
theorem dM_spot_111 : decode prog_7_method_19_code 111 = .ok (.iconst 0, 1) := by decide +kernel
theorem dM_spot_112 : decode prog_7_method_19_code 112 = .ok (.ireturn, 1) := by decide +kernel
theorem dM_spot_113 : decode prog_7_method_19_code 113 = .ok (.aload_n 0, 1) := by decide +kernel
theorem dM_spot_114 : decode prog_7_method_19_code 114 = .ok (.invokevirtual 83, 3) := by decide +kernel
theorem dM_spot_117 : decode prog_7_method_19_code 117 = .ok (.aload_n 0, 1) := by decide +kernel
theorem dM_spot_118 : decode prog_7_method_19_code 118 = .ok (.invokevirtual 102, 3) := by decide +kernel
theorem dM_spot_121 : decode prog_7_method_19_code 121 = .ok (.istore 6, 2) := by decide +kernel
theorem dM_spot_123 : decode prog_7_method_19_code 123 = .ok (.aload_n 0, 1) := by decide +kernel
theorem dM_spot_124 : decode prog_7_method_19_code 124 = .ok (.getfield 7, 3) := by decide +kernel
theorem dM_spot_127 : decode prog_7_method_19_code 127 = .ok (.bipush 19, 2) := by decide +kernel
theorem dM_spot_129 : decode prog_7_method_19_code 129 = .ok (.iload 6, 2) := by decide +kernel
theorem dM_spot_131 : decode prog_7_method_19_code 131 = .ok (.iadd, 1) := by decide +kernel
theorem dM_spot_132 : decode prog_7_method_19_code 132 = .ok (.iload_n 1, 1) := by decide +kernel
theorem dM_spot_133 : decode prog_7_method_19_code 133 = .ok (.iastore, 1) := by decide +kernel
theorem dM_spot_134 : decode prog_7_method_19_code 134 = .ok (.aload_n 0, 1) := by decide +kernel
theorem dM_spot_135 : decode prog_7_method_19_code 135 = .ok (.getfield 7, 3) := by decide +kernel
theorem dM_spot_138 : decode prog_7_method_19_code 138 = .ok (.bipush 31, 2) := by decide +kernel
theorem dM_spot_140 : decode prog_7_method_19_code 140 = .ok (.iload 6, 2) := by decide +kernel
theorem dM_spot_142 : decode prog_7_method_19_code 142 = .ok (.iadd, 1) := by decide +kernel
theorem dM_spot_143 : decode prog_7_method_19_code 143 = .ok (.iload_n 2, 1) := by decide +kernel
theorem dM_spot_144 : decode prog_7_method_19_code 144 = .ok (.iastore, 1) := by decide +kernel
theorem dM_spot_145 : decode prog_7_method_19_code 145 = .ok (.aload_n 0, 1) := by decide +kernel
theorem dM_spot_146 : decode prog_7_method_19_code 146 = .ok (.getfield 7, 3) := by decide +kernel
theorem dM_spot_149 : decode prog_7_method_19_code 149 = .ok (.bipush 43, 2) := by decide +kernel
theorem dM_spot_151 : decode prog_7_method_19_code 151 = .ok (.iconst 2, 1) := by decide +kernel
theorem dM_spot_152 : decode prog_7_method_19_code 152 = .ok (.iload 6, 2) := by decide +kernel
theorem dM_spot_154 : decode prog_7_method_19_code 154 = .ok (.imul, 1) := by decide +kernel
theorem dM_spot_155 : decode prog_7_method_19_code 155 = .ok (.iadd, 1) := by decide +kernel
theorem dM_spot_156 : decode prog_7_method_19_code 156 = .ok (.aload_n 0, 1) := by decide +kernel
theorem dM_spot_157 : decode prog_7_method_19_code 157 = .ok (.iload_n 2, 1) := by decide +kernel
theorem dM_spot_158 : decode prog_7_method_19_code 158 = .ok (.invokevirtual 96, 3) := by decide +kernel
theorem dM_spot_161 : decode prog_7_method_19_code 161 = .ok (.ifCond .le 7, 3) := by decide +kernel
theorem dM_spot_164 : decode prog_7_method_19_code 164 = .ok (.iload_n 3, 1) := by decide +kernel
theorem dM_spot_165 : decode prog_7_method_19_code 165 = .ok (.goto 4, 3) := by decide +kernel
theorem dM_spot_168 : decode prog_7_method_19_code 168 = .ok (.iconst (-1), 1) := by decide +kernel
theorem dM_spot_169 : decode prog_7_method_19_code 169 = .ok (.iastore, 1) := by decide +kernel
theorem dM_spot_170 : decode prog_7_method_19_code 170 = .ok (.aload_n 0, 1) := by decide +kernel
theorem dM_spot_171 : decode prog_7_method_19_code 171 = .ok (.getfield 7, 3) := by decide +kernel
theorem dM_spot_174 : decode prog_7_method_19_code 174 = .ok (.bipush 43, 2) := by decide +kernel
theorem dM_spot_176 : decode prog_7_method_19_code 176 = .ok (.iconst 2, 1) := by decide +kernel
theorem dM_spot_177 : decode prog_7_method_19_code 177 = .ok (.iload 6, 2) := by decide +kernel
theorem dM_spot_179 : decode prog_7_method_19_code 179 = .ok (.imul, 1) := by decide +kernel
theorem dM_spot_180 : decode prog_7_method_19_code 180 = .ok (.iadd, 1) := by decide +kernel
theorem dM_spot_181 : decode prog_7_method_19_code 181 = .ok (.iconst 1, 1) := by decide +kernel
theorem dM_spot_182 : decode prog_7_method_19_code 182 = .ok (.iadd, 1) := by decide +kernel
theorem dM_spot_183 : decode prog_7_method_19_code 183 = .ok (.aload_n 0, 1) := by decide +kernel
theorem dM_spot_184 : decode prog_7_method_19_code 184 = .ok (.iload_n 2, 1) := by decide +kernel
theorem dM_spot_185 : decode prog_7_method_19_code 185 = .ok (.invokevirtual 96, 3) := by decide +kernel
theorem dM_spot_188 : decode prog_7_method_19_code 188 = .ok (.iconst 1, 1) := by decide +kernel
theorem dM_spot_189 : decode prog_7_method_19_code 189 = .ok (.if_icmp .le 8, 3) := by decide +kernel
theorem dM_spot_192 : decode prog_7_method_19_code 192 = .ok (.iload 4, 2) := by decide +kernel
theorem dM_spot_194 : decode prog_7_method_19_code 194 = .ok (.goto 4, 3) := by decide +kernel
theorem dM_spot_197 : decode prog_7_method_19_code 197 = .ok (.iconst (-1), 1) := by decide +kernel
theorem dM_spot_198 : decode prog_7_method_19_code 198 = .ok (.iastore, 1) := by decide +kernel
theorem dM_spot_199 : decode prog_7_method_19_code 199 = .ok (.iload 6, 2) := by decide +kernel
theorem dM_spot_201 : decode prog_7_method_19_code 201 = .ok (.ireturn, 1) := by decide +kernel
theorem dM_start_0 : decode prog_7_method_20_code 0 = .ok (.aload_n 0, 1) := by decide +kernel
theorem dM_start_1 : decode prog_7_method_20_code 1 = .ok (.aload_n 0, 1) := by decide +kernel
theorem dM_start_2 : decode prog_7_method_20_code 2 = .ok (.getfield 64, 3) := by decide +kernel
theorem dM_start_5 : decode prog_7_method_20_code 5 = .ok (.ifCond .eq 7, 3) := by decide +kernel
theorem dM_start_8 : decode prog_7_method_20_code 8 = .ok (.iconst 1, 1) := by decide +kernel
theorem dM_start_9 : decode prog_7_method_20_code 9 = .ok (.goto 4, 3) := by decide +kernel
theorem dM_start_12 : decode prog_7_method_20_code 12 = .ok (.iconst 0, 1) := by decide +kernel
theorem dM_start_13 : decode prog_7_method_20_code 13 = .ok (.putfield 56, 3) := by decide +kernel
theorem dM_start_16 : decode prog_7_method_20_code 16 = .ok (.aload_n 0, 1) := by decide +kernel
theorem dM_start_17 : decode prog_7_method_20_code 17 = .ok (.getfield 56, 3) := by decide +kernel
theorem dM_start_20 : decode prog_7_method_20_code 20 = .ok (.ifCond .ne 34, 3) := by decide +kernel
theorem dM_start_23 : decode prog_7_method_20_code 23 = .ok (.aload_n 0, 1) := by decide +kernel
theorem dM_start_24 : decode prog_7_method_20_code 24 = .ok (.iconst 1, 1) := by decide +kernel
theorem dM_start_25 : decode prog_7_method_20_code 25 = .ok (.putfield 64, 3) := by decide +kernel
theorem dM_start_28 : decode prog_7_method_20_code 28 = .ok (.iconst 0, 1) := by decide +kernel
theorem dM_start_29 : decode prog_7_method_20_code 29 = .ok (.istore_n 1, 1) := by decide +kernel
theorem dM_start_30 : decode prog_7_method_20_code 30 = .ok (.iload_n 1, 1) := by decide +kernel
theorem dM_start_31 : decode prog_7_method_20_code 31 = .ok (.bipush 67, 2) := by decide +kernel
theorem dM_start_33 : decode prog_7_method_20_code 33 = .ok (.if_icmp .ge 21, 3) := by decide +kernel
theorem dM_start_36 : decode prog_7_method_20_code 36 = .ok (.aload_n 0, 1) := by decide +kernel
theorem dM_start_37 : decode prog_7_method_20_code 37 = .ok (.getfield 13, 3) := by decide +kernel
theorem dM_start_40 : decode prog_7_method_20_code 40 = .ok (.iload_n 1, 1) := by decide +kernel
theorem dM_start_41 : decode prog_7_method_20_code 41 = .ok (.aload_n 0, 1) := by decide +kernel
theorem dM_start_42 : decode prog_7_method_20_code 42 = .ok (.getfield 7, 3) := by decide +kernel
theorem dM_start_45 : decode prog_7_method_20_code 45 = .ok (.iload_n 1, 1) := by decide +kernel
theorem dM_start_46 : decode prog_7_method_20_code 46 = .ok (.iaload, 1) := by decide +kernel
theorem dM_start_47 : decode prog_7_method_20_code 47 = .ok (.iastore, 1) := by decide +kernel
theorem dM_start_48 : decode prog_7_method_20_code 48 = .ok (.iinc 1 1, 3) := by decide +kernel
theorem dM_start_51 : decode prog_7_method_20_code 51 = .ok (.goto (-21), 3) := by decide +kernel
theorem dM_start_54 : decode prog_7_method_20_code 54 = .ok (.return_, 1) := by decide +kernel
theorem dM_removeSpot_0 : decode prog_7_method_21_code 0 = .ok (.aload_n 0, 1) := by decide +kernel
theorem dM_removeSpot_1 : decode prog_7_method_21_code 1 = .ok (.getfield 7, 3) := by decide +kernel
theorem dM_removeSpot_4 : decode prog_7_method_21_code 4 = .ok (.bipush 19, 2) := by decide +kernel
theorem dM_removeSpot_6 : decode prog_7_method_21_code 6 = .ok (.iload_n 1, 1) := by decide +kernel
theorem dM_removeSpot_7 : decode prog_7_method_21_code 7 = .ok (.iadd, 1) := by decide +kernel
theorem dM_removeSpot_8 : decode prog_7_method_21_code 8 = .ok (.iconst (-1), 1) := by decide +kernel
theorem dM_removeSpot_9 : decode prog_7_method_21_code 9 = .ok (.iastore, 1) := by decide +kernel
theorem dM_removeSpot_10 : decode prog_7_method_21_code 10 = .ok (.aload_n 0, 1) := by decide +kernel
theorem dM_removeSpot_11 : decode prog_7_method_21_code 11 = .ok (.getfield 7, 3) := by decide +kernel
theorem dM_removeSpot_14 : decode prog_7_method_21_code 14 = .ok (.bipush 31, 2) := by decide +kernel
theorem dM_removeSpot_16 : decode prog_7_method_21_code 16 = .ok (.iload_n 1, 1) := by decide +kernel
theorem dM_removeSpot_17 : decode prog_7_method_21_code 17 = .ok (.iadd, 1) := by decide +kernel
theorem dM_removeSpot_18 : decode prog_7_method_21_code 18 = .ok (.iconst (-1), 1) := by decide +kernel
theorem dM_removeSpot_19 : decode prog_7_method_21_code 19 = .ok (.iastore, 1) := by decide +kernel
theorem dM_removeSpot_20 : decode prog_7_method_21_code 20 = .ok (.aload_n 0, 1) := by decide +kernel
theorem dM_removeSpot_21 : decode prog_7_method_21_code 21 = .ok (.getfield 7, 3) := by decide +kernel
theorem dM_removeSpot_24 : decode prog_7_method_21_code 24 = .ok (.bipush 43, 2) := by decide +kernel
theorem dM_removeSpot_26 : decode prog_7_method_21_code 26 = .ok (.iconst 2, 1) := by decide +kernel
theorem dM_removeSpot_27 : decode prog_7_method_21_code 27 = .ok (.iload_n 1, 1) := by decide +kernel
theorem dM_removeSpot_28 : decode prog_7_method_21_code 28 = .ok (.imul, 1) := by decide +kernel
theorem dM_removeSpot_29 : decode prog_7_method_21_code 29 = .ok (.iadd, 1) := by decide +kernel
theorem dM_removeSpot_30 : decode prog_7_method_21_code 30 = .ok (.iconst (-1), 1) := by decide +kernel
theorem dM_removeSpot_31 : decode prog_7_method_21_code 31 = .ok (.iastore, 1) := by decide +kernel
theorem dM_removeSpot_32 : decode prog_7_method_21_code 32 = .ok (.aload_n 0, 1) := by decide +kernel
theorem dM_removeSpot_33 : decode prog_7_method_21_code 33 = .ok (.getfield 7, 3) := by decide +kernel
theorem dM_removeSpot_36 : decode prog_7_method_21_code 36 = .ok (.bipush 43, 2) := by decide +kernel
theorem dM_removeSpot_38 : decode prog_7_method_21_code 38 = .ok (.iconst 2, 1) := by decide +kernel
theorem dM_removeSpot_39 : decode prog_7_method_21_code 39 = .ok (.iload_n 1, 1) := by decide +kernel
theorem dM_removeSpot_40 : decode prog_7_method_21_code 40 = .ok (.imul, 1) := by decide +kernel
theorem dM_removeSpot_41 : decode prog_7_method_21_code 41 = .ok (.iadd, 1) := by decide +kernel
theorem dM_removeSpot_42 : decode prog_7_method_21_code 42 = .ok (.iconst 1, 1) := by decide +kernel
theorem dM_removeSpot_43 : decode prog_7_method_21_code 43 = .ok (.iadd, 1) := by decide +kernel
theorem dM_removeSpot_44 : decode prog_7_method_21_code 44 = .ok (.iconst (-1), 1) := by decide +kernel
theorem dM_removeSpot_45 : decode prog_7_method_21_code 45 = .ok (.iastore, 1) := by decide +kernel
theorem dM_removeSpot_46 : decode prog_7_method_21_code 46 = .ok (.return_, 1) := by decide +kernel
theorem dM_removeCut_0 : decode prog_7_method_22_code 0 = .ok (.iconst 0, 1) := by decide +kernel
theorem dM_removeCut_1 : decode prog_7_method_22_code 1 = .ok (.istore_n 2, 1) := by decide +kernel
theorem dM_removeCut_2 : decode prog_7_method_22_code 2 = .ok (.iload_n 2, 1) := by decide +kernel
theorem dM_removeCut_3 : decode prog_7_method_22_code 3 = .ok (.bipush 12, 2) := by decide +kernel
theorem dM_removeCut_5 : decode prog_7_method_22_code 5 = .ok (.if_icmp .ge 39, 3) := by decide +kernel
theorem dM_removeCut_8 : decode prog_7_method_22_code 8 = .ok (.aload_n 0, 1) := by decide +kernel
theorem dM_removeCut_9 : decode prog_7_method_22_code 9 = .ok (.iload_n 2, 1) := by decide +kernel
theorem dM_removeCut_10 : decode prog_7_method_22_code 10 = .ok (.invokevirtual 105, 3) := by decide +kernel
theorem dM_removeCut_13 : decode prog_7_method_22_code 13 = .ok (.ifCond .eq 25, 3) := by decide +kernel
theorem dM_removeCut_16 : decode prog_7_method_22_code 16 = .ok (.aload_n 0, 1) := by decide +kernel
theorem dM_removeCut_17 : decode prog_7_method_22_code 17 = .ok (.aload_n 0, 1) := by decide +kernel
theorem dM_removeCut_18 : decode prog_7_method_22_code 18 = .ok (.getfield 7, 3) := by decide +kernel
theorem dM_removeCut_21 : decode prog_7_method_22_code 21 = .ok (.bipush 19, 2) := by decide +kernel
theorem dM_removeCut_23 : decode prog_7_method_22_code 23 = .ok (.iload_n 2, 1) := by decide +kernel
theorem dM_removeCut_24 : decode prog_7_method_22_code 24 = .ok (.iadd, 1) := by decide +kernel
theorem dM_removeCut_25 : decode prog_7_method_22_code 25 = .ok (.iaload, 1) := by decide +kernel
theorem dM_removeCut_26 : decode prog_7_method_22_code 26 = .ok (.iload_n 1, 1) := by decide +kernel
theorem dM_removeCut_27 : decode prog_7_method_22_code 27 = .ok (.invokevirtual 92, 3) := by decide +kernel
theorem dM_removeCut_30 : decode prog_7_method_22_code 30 = .ok (.ifCond .eq 8, 3) := by decide +kernel
theorem dM_removeCut_33 : decode prog_7_method_22_code 33 = .ok (.aload_n 0, 1) := by decide +kernel
theorem dM_removeCut_34 : decode prog_7_method_22_code 34 = .ok (.iload_n 2, 1) := by decide +kernel
theorem dM_removeCut_35 : decode prog_7_method_22_code 35 = .ok (.invokevirtual 108, 3) := by decide +kernel
theorem dM_removeCut_38 : decode prog_7_method_22_code 38 = .ok (.iinc 2 1, 3) := by decide +kernel
theorem dM_removeCut_41 : decode prog_7_method_22_code 41 = .ok (.goto (-39), 3) := by decide +kernel
theorem dM_removeCut_44 : decode prog_7_method_22_code 44 = .ok (.iconst 0, 1) := by decide +kernel
theorem dM_removeCut_45 : decode prog_7_method_22_code 45 = .ok (.istore_n 2, 1) := by decide +kernel
theorem dM_removeCut_46 : decode prog_7_method_22_code 46 = .ok (.iload_n 2, 1) := by decide +kernel
theorem dM_removeCut_47 : decode prog_7_method_22_code 47 = .ok (.bipush 6, 2) := by decide +kernel
theorem dM_removeCut_49 : decode prog_7_method_22_code 49 = .ok (.if_icmp .ge 44, 3) := by decide +kernel
theorem dM_removeCut_52 : decode prog_7_method_22_code 52 = .ok (.aload_n 0, 1) := by decide +kernel
theorem dM_removeCut_53 : decode prog_7_method_22_code 53 = .ok (.iload_n 2, 1) := by decide +kernel
theorem dM_removeCut_54 : decode prog_7_method_22_code 54 = .ok (.invokevirtual 89, 3) := by decide +kernel
theorem dM_removeCut_57 : decode prog_7_method_22_code 57 = .ok (.ifCond .eq 30, 3) := by decide +kernel
theorem dM_removeCut_60 : decode prog_7_method_22_code 60 = .ok (.aload_n 0, 1) := by decide +kernel
theorem dM_removeCut_61 : decode prog_7_method_22_code 61 = .ok (.aload_n 0, 1) := by decide +kernel
theorem dM_removeCut_62 : decode prog_7_method_22_code 62 = .ok (.getfield 7, 3) := by decide +kernel
theorem dM_removeCut_65 : decode prog_7_method_22_code 65 = .ok (.bipush 13, 2) := by decide +kernel
theorem dM_removeCut_67 : decode prog_7_method_22_code 67 = .ok (.iload_n 2, 1) := by decide +kernel
theorem dM_removeCut_68 : decode prog_7_method_22_code 68 = .ok (.iadd, 1) := by decide +kernel
theorem dM_removeCut_69 : decode prog_7_method_22_code 69 = .ok (.iaload, 1) := by decide +kernel
theorem dM_removeCut_70 : decode prog_7_method_22_code 70 = .ok (.iload_n 1, 1) := by decide +kernel
theorem dM_removeCut_71 : decode prog_7_method_22_code 71 = .ok (.invokevirtual 92, 3) := by decide +kernel
theorem dM_removeCut_74 : decode prog_7_method_22_code 74 = .ok (.ifCond .eq 13, 3) := by decide +kernel
theorem dM_removeCut_77 : decode prog_7_method_22_code 77 = .ok (.aload_n 0, 1) := by decide +kernel
theorem dM_removeCut_78 : decode prog_7_method_22_code 78 = .ok (.getfield 7, 3) := by decide +kernel
theorem dM_removeCut_81 : decode prog_7_method_22_code 81 = .ok (.bipush 13, 2) := by decide +kernel
theorem dM_removeCut_83 : decode prog_7_method_22_code 83 = .ok (.iload_n 2, 1) := by decide +kernel
theorem dM_removeCut_84 : decode prog_7_method_22_code 84 = .ok (.iadd, 1) := by decide +kernel
theorem dM_removeCut_85 : decode prog_7_method_22_code 85 = .ok (.iconst (-1), 1) := by decide +kernel
theorem dM_removeCut_86 : decode prog_7_method_22_code 86 = .ok (.iastore, 1) := by decide +kernel
theorem dM_removeCut_87 : decode prog_7_method_22_code 87 = .ok (.iinc 2 1, 3) := by decide +kernel
theorem dM_removeCut_90 : decode prog_7_method_22_code 90 = .ok (.goto (-44), 3) := by decide +kernel
theorem dM_removeCut_93 : decode prog_7_method_22_code 93 = .ok (.iconst 1, 1) := by decide +kernel
theorem dM_removeCut_94 : decode prog_7_method_22_code 94 = .ok (.istore_n 2, 1) := by decide +kernel
theorem dM_removeCut_95 : decode prog_7_method_22_code 95 = .ok (.iload_n 2, 1) := by decide +kernel
theorem dM_removeCut_96 : decode prog_7_method_22_code 96 = .ok (.bipush 13, 2) := by decide +kernel
theorem dM_removeCut_98 : decode prog_7_method_22_code 98 = .ok (.if_icmp .ge 37, 3) := by decide +kernel
theorem dM_removeCut_101 : decode prog_7_method_22_code 101 = .ok (.aload_n 0, 1) := by decide +kernel
theorem dM_removeCut_102 : decode prog_7_method_22_code 102 = .ok (.getfield 35, 3) := by decide +kernel
theorem dM_removeCut_105 : decode prog_7_method_22_code 105 = .ok (.iload_n 2, 1) := by decide +kernel
theorem dM_removeCut_106 : decode prog_7_method_22_code 106 = .ok (.aload_n 0, 1) := by decide +kernel
theorem dM_removeCut_107 : decode prog_7_method_22_code 107 = .ok (.iload_n 2, 1) := by decide +kernel
theorem dM_removeCut_108 : decode prog_7_method_22_code 108 = .ok (.invokevirtual 112, 3) := by decide +kernel
theorem dM_removeCut_111 : decode prog_7_method_22_code 111 = .ok (.ifCond .eq 16, 3) := by decide +kernel
theorem dM_removeCut_114 : decode prog_7_method_22_code 114 = .ok (.aload_n 0, 1) := by decide +kernel
theorem dM_removeCut_115 : decode prog_7_method_22_code 115 = .ok (.iload_n 2, 1) := by decide +kernel
theorem dM_removeCut_116 : decode prog_7_method_22_code 116 = .ok (.iload_n 1, 1) := by decide +kernel
theorem dM_removeCut_117 : decode prog_7_method_22_code 117 = .ok (.invokevirtual 92, 3) := by decide +kernel
theorem dM_removeCut_120 : decode prog_7_method_22_code 120 = .ok (.ifCond .eq 7, 3) := by decide +kernel
theorem dM_removeCut_123 : decode prog_7_method_22_code 123 = .ok (.iconst 1, 1) := by decide +kernel
theorem dM_removeCut_124 : decode prog_7_method_22_code 124 = .ok (.goto 4, 3) := by decide +kernel
theorem dM_removeCut_127 : decode prog_7_method_22_code 127 = .ok (.iconst 0, 1) := by decide +kernel
theorem dM_removeCut_128 : decode prog_7_method_22_code 128 = .ok (.iastore, 1) := by decide +kernel
theorem dM_removeCut_129 : decode prog_7_method_22_code 129 = .ok (.iinc 2 1, 3) := by decide +kernel
theorem dM_removeCut_132 : decode prog_7_method_22_code 132 = .ok (.goto (-37), 3) := by decide +kernel
theorem dM_removeCut_135 : decode prog_7_method_22_code 135 = .ok (.iconst 1, 1) := by decide +kernel
theorem dM_removeCut_136 : decode prog_7_method_22_code 136 = .ok (.istore_n 2, 1) := by decide +kernel
theorem dM_removeCut_137 : decode prog_7_method_22_code 137 = .ok (.iload_n 2, 1) := by decide +kernel
theorem dM_removeCut_138 : decode prog_7_method_22_code 138 = .ok (.bipush 13, 2) := by decide +kernel
theorem dM_removeCut_140 : decode prog_7_method_22_code 140 = .ok (.if_icmp .ge 35, 3) := by decide +kernel
theorem dM_removeCut_143 : decode prog_7_method_22_code 143 = .ok (.aload_n 0, 1) := by decide +kernel
theorem dM_removeCut_144 : decode prog_7_method_22_code 144 = .ok (.getfield 7, 3) := by decide +kernel
theorem dM_removeCut_147 : decode prog_7_method_22_code 147 = .ok (.iload_n 2, 1) := by decide +kernel
theorem dM_removeCut_148 : decode prog_7_method_22_code 148 = .ok (.aload_n 0, 1) := by decide +kernel
theorem dM_removeCut_149 : decode prog_7_method_22_code 149 = .ok (.getfield 35, 3) := by decide +kernel
theorem dM_removeCut_152 : decode prog_7_method_22_code 152 = .ok (.iload_n 2, 1) := by decide +kernel
theorem dM_removeCut_153 : decode prog_7_method_22_code 153 = .ok (.iaload, 1) := by decide +kernel
theorem dM_removeCut_154 : decode prog_7_method_22_code 154 = .ok (.iconst 1, 1) := by decide +kernel
theorem dM_removeCut_155 : decode prog_7_method_22_code 155 = .ok (.if_icmp .ne 7, 3) := by decide +kernel
theorem dM_removeCut_158 : decode prog_7_method_22_code 158 = .ok (.iconst (-1), 1) := by decide +kernel
theorem dM_removeCut_159 : decode prog_7_method_22_code 159 = .ok (.goto 9, 3) := by decide +kernel
theorem dM_removeCut_162 : decode prog_7_method_22_code 162 = .ok (.aload_n 0, 1) := by decide +kernel
theorem dM_removeCut_163 : decode prog_7_method_22_code 163 = .ok (.getfield 7, 3) := by decide +kernel
theorem dM_removeCut_166 : decode prog_7_method_22_code 166 = .ok (.iload_n 2, 1) := by decide +kernel
theorem dM_removeCut_167 : decode prog_7_method_22_code 167 = .ok (.iaload, 1) := by decide +kernel
theorem dM_removeCut_168 : decode prog_7_method_22_code 168 = .ok (.iastore, 1) := by decide +kernel
theorem dM_removeCut_169 : decode prog_7_method_22_code 169 = .ok (.iinc 2 1, 3) := by decide +kernel
theorem dM_removeCut_172 : decode prog_7_method_22_code 172 = .ok (.goto (-35), 3) := by decide +kernel
theorem dM_removeCut_175 : decode prog_7_method_22_code 175 = .ok (.return_, 1) := by decide +kernel
theorem dM_isHooked_0 : decode prog_7_method_23_code 0 = .ok (.iconst 0, 1) := by decide +kernel
theorem dM_isHooked_1 : decode prog_7_method_23_code 1 = .ok (.istore_n 2, 1) := by decide +kernel
theorem dM_isHooked_2 : decode prog_7_method_23_code 2 = .ok (.bipush 43, 2) := by decide +kernel
theorem dM_isHooked_4 : decode prog_7_method_23_code 4 = .ok (.istore_n 3, 1) := by decide +kernel
theorem dM_isHooked_5 : decode prog_7_method_23_code 5 = .ok (.iload_n 3, 1) := by decide +kernel
theorem dM_isHooked_6 : decode prog_7_method_23_code 6 = .ok (.bipush 67, 2) := by decide +kernel
theorem dM_isHooked_8 : decode prog_7_method_23_code 8 = .ok (.if_icmp .ge 29, 3) := by decide +kernel
theorem dM_isHooked_11 : decode prog_7_method_23_code 11 = .ok (.iload_n 2, 1) := by decide +kernel
theorem dM_isHooked_12 : decode prog_7_method_23_code 12 = .ok (.ifCond .ne 13, 3) := by decide +kernel
theorem dM_isHooked_15 : decode prog_7_method_23_code 15 = .ok (.aload_n 0, 1) := by decide +kernel
theorem dM_isHooked_16 : decode prog_7_method_23_code 16 = .ok (.getfield 7, 3) := by decide +kernel
theorem dM_isHooked_19 : decode prog_7_method_23_code 19 = .ok (.iload_n 3, 1) := by decide +kernel
theorem dM_isHooked_20 : decode prog_7_method_23_code 20 = .ok (.iaload, 1) := by decide +kernel
theorem dM_isHooked_21 : decode prog_7_method_23_code 21 = .ok (.iload_n 1, 1) := by decide +kernel
theorem dM_isHooked_22 : decode prog_7_method_23_code 22 = .ok (.if_icmp .ne 7, 3) := by decide +kernel
theorem dM_isHooked_25 : decode prog_7_method_23_code 25 = .ok (.iconst 1, 1) := by decide +kernel
theorem dM_isHooked_26 : decode prog_7_method_23_code 26 = .ok (.goto 4, 3) := by decide +kernel
theorem dM_isHooked_29 : decode prog_7_method_23_code 29 = .ok (.iconst 0, 1) := by decide +kernel
theorem dM_isHooked_30 : decode prog_7_method_23_code 30 = .ok (.istore_n 2, 1) := by decide +kernel
theorem dM_isHooked_31 : decode prog_7_method_23_code 31 = .ok (.iinc 3 1, 3) := by decide +kernel
theorem dM_isHooked_34 : decode prog_7_method_23_code 34 = .ok (.goto (-29), 3) := by decide +kernel
theorem dM_isHooked_37 : decode prog_7_method_23_code 37 = .ok (.iload_n 2, 1) := by decide +kernel
theorem dM_isHooked_38 : decode prog_7_method_23_code 38 = .ok (.ireturn, 1) := by decide +kernel
theorem dM_noPart_0 : decode prog_7_method_24_code 0 = .ok (.iload_n 1, 1) := by decide +kernel
