/-! printed by wip/whole/gen_names.py: decode rows -/
theorem dC_init_0 : decode prog_1_method_1_code 0 = .ok (.aload_n 0, 1) := by decide +kernel
theorem dC_init_1 : decode prog_1_method_1_code 1 = .ok (.invokespecial 3, 3) := by decide +kernel
theorem dC_init_4 : decode prog_1_method_1_code 4 = .ok (.aload_n 0, 1) := by decide +kernel
theorem dC_init_5 : decode prog_1_method_1_code 5 = .ok (.bipush 21, 2) := by decide +kernel
theorem dC_init_7 : decode prog_1_method_1_code 7 = .ok (.anewarray 9, 3) := by decide +kernel
theorem dC_init_10 : decode prog_1_method_1_code 10 = .ok (.putfield 11, 3) := by decide +kernel
theorem dC_init_13 : decode prog_1_method_1_code 13 = .ok (.iconst 0, 1) := by decide +kernel
theorem dC_init_14 : decode prog_1_method_1_code 14 = .ok (.istore_n 1, 1) := by decide +kernel
theorem dC_init_15 : decode prog_1_method_1_code 15 = .ok (.iload_n 1, 1) := by decide +kernel
theorem dC_init_16 : decode prog_1_method_1_code 16 = .ok (.bipush 20, 2) := by decide +kernel
theorem dC_init_18 : decode prog_1_method_1_code 18 = .ok (.if_icmp .gt 22, 3) := by decide +kernel
theorem dC_init_21 : decode prog_1_method_1_code 21 = .ok (.aload_n 0, 1) := by decide +kernel
theorem dC_init_22 : decode prog_1_method_1_code 22 = .ok (.getfield 11, 3) := by decide +kernel
theorem dC_init_25 : decode prog_1_method_1_code 25 = .ok (.iload_n 1, 1) := by decide +kernel
theorem dC_init_26 : decode prog_1_method_1_code 26 = .ok (.new 9, 3) := by decide +kernel
theorem dC_init_29 : decode prog_1_method_1_code 29 = .ok (.dup, 1) := by decide +kernel
theorem dC_init_30 : decode prog_1_method_1_code 30 = .ok (.invokespecial 15, 3) := by decide +kernel
theorem dC_init_33 : decode prog_1_method_1_code 33 = .ok (.aastore, 1) := by decide +kernel
theorem dC_init_34 : decode prog_1_method_1_code 34 = .ok (.iinc 1 1, 3) := by decide +kernel
theorem dC_init_37 : decode prog_1_method_1_code 37 = .ok (.goto (-22), 3) := by decide +kernel
theorem dC_init_40 : decode prog_1_method_1_code 40 = .ok (.aload_n 0, 1) := by decide +kernel
theorem dC_init_41 : decode prog_1_method_1_code 41 = .ok (.new 16, 3) := by decide +kernel
theorem dC_init_44 : decode prog_1_method_1_code 44 = .ok (.dup, 1) := by decide +kernel
theorem dC_init_45 : decode prog_1_method_1_code 45 = .ok (.invokespecial 18, 3) := by decide +kernel
theorem dC_init_48 : decode prog_1_method_1_code 48 = .ok (.putfield 19, 3) := by decide +kernel
theorem dC_init_51 : decode prog_1_method_1_code 51 = .ok (.aload_n 0, 1) := by decide +kernel
theorem dC_init_52 : decode prog_1_method_1_code 52 = .ok (.new 16, 3) := by decide +kernel
theorem dC_init_55 : decode prog_1_method_1_code 55 = .ok (.dup, 1) := by decide +kernel
theorem dC_init_56 : decode prog_1_method_1_code 56 = .ok (.invokespecial 18, 3) := by decide +kernel
theorem dC_init_59 : decode prog_1_method_1_code 59 = .ok (.putfield 23, 3) := by decide +kernel
theorem dC_init_62 : decode prog_1_method_1_code 62 = .ok (.aload_n 0, 1) := by decide +kernel
theorem dC_init_63 : decode prog_1_method_1_code 63 = .ok (.new 16, 3) := by decide +kernel
theorem dC_init_66 : decode prog_1_method_1_code 66 = .ok (.dup, 1) := by decide +kernel
theorem dC_init_67 : decode prog_1_method_1_code 67 = .ok (.invokespecial 18, 3) := by decide +kernel
theorem dC_init_70 : decode prog_1_method_1_code 70 = .ok (.putfield 26, 3) := by decide +kernel
theorem dC_init_73 : decode prog_1_method_1_code 73 = .ok (.aload_n 0, 1) := by decide +kernel
theorem dC_init_74 : decode prog_1_method_1_code 74 = .ok (.new 29, 3) := by decide +kernel
theorem dC_init_77 : decode prog_1_method_1_code 77 = .ok (.dup, 1) := by decide +kernel
theorem dC_init_78 : decode prog_1_method_1_code 78 = .ok (.invokespecial 31, 3) := by decide +kernel
theorem dC_init_81 : decode prog_1_method_1_code 81 = .ok (.putfield 32, 3) := by decide +kernel
theorem dC_init_84 : decode prog_1_method_1_code 84 = .ok (.aload_n 0, 1) := by decide +kernel
theorem dC_init_85 : decode prog_1_method_1_code 85 = .ok (.new 29, 3) := by decide +kernel
theorem dC_init_88 : decode prog_1_method_1_code 88 = .ok (.dup, 1) := by decide +kernel
theorem dC_init_89 : decode prog_1_method_1_code 89 = .ok (.invokespecial 31, 3) := by decide +kernel
theorem dC_init_92 : decode prog_1_method_1_code 92 = .ok (.putfield 36, 3) := by decide +kernel
theorem dC_init_95 : decode prog_1_method_1_code 95 = .ok (.aload_n 0, 1) := by decide +kernel
theorem dC_init_96 : decode prog_1_method_1_code 96 = .ok (.bipush 6, 2) := by decide +kernel
theorem dC_init_98 : decode prog_1_method_1_code 98 = .ok (.newarray .int, 2) := by decide +kernel
theorem dC_init_100 : decode prog_1_method_1_code 100 = .ok (.putfield 39, 3) := by decide +kernel
theorem dC_init_103 : decode prog_1_method_1_code 103 = .ok (.aload_n 0, 1) := by decide +kernel
theorem dC_init_104 : decode prog_1_method_1_code 104 = .ok (.iconst 1, 1) := by decide +kernel
theorem dC_init_105 : decode prog_1_method_1_code 105 = .ok (.putfield 43, 3) := by decide +kernel
theorem dC_init_108 : decode prog_1_method_1_code 108 = .ok (.aload_n 0, 1) := by decide +kernel
theorem dC_init_109 : decode prog_1_method_1_code 109 = .ok (.iconst 0, 1) := by decide +kernel
theorem dC_init_110 : decode prog_1_method_1_code 110 = .ok (.putfield 47, 3) := by decide +kernel
theorem dC_init_113 : decode prog_1_method_1_code 113 = .ok (.return_, 1) := by decide +kernel
theorem dC_cut_0 : decode prog_1_method_2_code 0 = .ok (.aload_n 0, 1) := by decide +kernel
theorem dC_cut_1 : decode prog_1_method_2_code 1 = .ok (.invokevirtual 51, 3) := by decide +kernel
theorem dC_cut_4 : decode prog_1_method_2_code 4 = .ok (.iload_n 1, 1) := by decide +kernel
theorem dC_cut_5 : decode prog_1_method_2_code 5 = .ok (.invokevirtual 55, 3) := by decide +kernel
theorem dC_cut_8 : decode prog_1_method_2_code 8 = .ok (.invokestatic 59, 3) := by decide +kernel
theorem dC_cut_11 : decode prog_1_method_2_code 11 = .ok (.aload_n 0, 1) := by decide +kernel
theorem dC_cut_12 : decode prog_1_method_2_code 12 = .ok (.iload_n 1, 1) := by decide +kernel
theorem dC_cut_13 : decode prog_1_method_2_code 13 = .ok (.invokevirtual 63, 3) := by decide +kernel
theorem dC_cut_16 : decode prog_1_method_2_code 16 = .ok (.invokestatic 66, 3) := by decide +kernel
theorem dC_cut_19 : decode prog_1_method_2_code 19 = .ok (.aload_n 0, 1) := by decide +kernel
theorem dC_cut_20 : decode prog_1_method_2_code 20 = .ok (.invokevirtual 69, 3) := by decide +kernel
theorem dC_cut_23 : decode prog_1_method_2_code 23 = .ok (.ifCond .eq 18, 3) := by decide +kernel
theorem dC_cut_26 : decode prog_1_method_2_code 26 = .ok (.aload_n 0, 1) := by decide +kernel
theorem dC_cut_27 : decode prog_1_method_2_code 27 = .ok (.invokevirtual 51, 3) := by decide +kernel
theorem dC_cut_30 : decode prog_1_method_2_code 30 = .ok (.iconst 1, 1) := by decide +kernel
theorem dC_cut_31 : decode prog_1_method_2_code 31 = .ok (.invokevirtual 73, 3) := by decide +kernel
theorem dC_cut_34 : decode prog_1_method_2_code 34 = .ok (.ifCond .le 7, 3) := by decide +kernel
theorem dC_cut_37 : decode prog_1_method_2_code 37 = .ok (.iconst 1, 1) := by decide +kernel
theorem dC_cut_38 : decode prog_1_method_2_code 38 = .ok (.goto 4, 3) := by decide +kernel
theorem dC_cut_41 : decode prog_1_method_2_code 41 = .ok (.iconst 0, 1) := by decide +kernel
theorem dC_cut_42 : decode prog_1_method_2_code 42 = .ok (.invokestatic 77, 3) := by decide +kernel
theorem dC_cut_45 : decode prog_1_method_2_code 45 = .ok (.aload_n 0, 1) := by decide +kernel
theorem dC_cut_46 : decode prog_1_method_2_code 46 = .ok (.invokevirtual 80, 3) := by decide +kernel
theorem dC_cut_49 : decode prog_1_method_2_code 49 = .ok (.iconst 1, 1) := by decide +kernel
theorem dC_cut_50 : decode prog_1_method_2_code 50 = .ok (.iload_n 1, 1) := by decide +kernel
theorem dC_cut_51 : decode prog_1_method_2_code 51 = .ok (.invokevirtual 83, 3) := by decide +kernel
theorem dC_cut_54 : decode prog_1_method_2_code 54 = .ok (.ireturn, 1) := by decide +kernel
theorem dC_line_0 : decode prog_1_method_3_code 0 = .ok (.aload_n 0, 1) := by decide +kernel
theorem dC_line_1 : decode prog_1_method_3_code 1 = .ok (.invokevirtual 51, 3) := by decide +kernel
theorem dC_line_4 : decode prog_1_method_3_code 4 = .ok (.iload_n 1, 1) := by decide +kernel
theorem dC_line_5 : decode prog_1_method_3_code 5 = .ok (.invokevirtual 55, 3) := by decide +kernel
theorem dC_line_8 : decode prog_1_method_3_code 8 = .ok (.invokestatic 59, 3) := by decide +kernel
theorem dC_line_11 : decode prog_1_method_3_code 11 = .ok (.aload_n 0, 1) := by decide +kernel
theorem dC_line_12 : decode prog_1_method_3_code 12 = .ok (.iload_n 1, 1) := by decide +kernel
theorem dC_line_13 : decode prog_1_method_3_code 13 = .ok (.invokevirtual 63, 3) := by decide +kernel
theorem dC_line_16 : decode prog_1_method_3_code 16 = .ok (.invokestatic 66, 3) := by decide +kernel
theorem dC_line_19 : decode prog_1_method_3_code 19 = .ok (.aload_n 0, 1) := by decide +kernel
theorem dC_line_20 : decode prog_1_method_3_code 20 = .ok (.invokevirtual 69, 3) := by decide +kernel
theorem dC_line_23 : decode prog_1_method_3_code 23 = .ok (.ifCond .eq 18, 3) := by decide +kernel
theorem dC_line_26 : decode prog_1_method_3_code 26 = .ok (.aload_n 0, 1) := by decide +kernel
theorem dC_line_27 : decode prog_1_method_3_code 27 = .ok (.invokevirtual 51, 3) := by decide +kernel
theorem dC_line_30 : decode prog_1_method_3_code 30 = .ok (.iconst 2, 1) := by decide +kernel
theorem dC_line_31 : decode prog_1_method_3_code 31 = .ok (.invokevirtual 73, 3) := by decide +kernel
theorem dC_line_34 : decode prog_1_method_3_code 34 = .ok (.ifCond .le 7, 3) := by decide +kernel
theorem dC_line_37 : decode prog_1_method_3_code 37 = .ok (.iconst 1, 1) := by decide +kernel
theorem dC_line_38 : decode prog_1_method_3_code 38 = .ok (.goto 4, 3) := by decide +kernel
theorem dC_line_41 : decode prog_1_method_3_code 41 = .ok (.iconst 0, 1) := by decide +kernel
theorem dC_line_42 : decode prog_1_method_3_code 42 = .ok (.invokestatic 77, 3) := by decide +kernel
theorem dC_line_45 : decode prog_1_method_3_code 45 = .ok (.aload_n 0, 1) := by decide +kernel
theorem dC_line_46 : decode prog_1_method_3_code 46 = .ok (.invokevirtual 80, 3) := by decide +kernel
theorem dC_line_49 : decode prog_1_method_3_code 49 = .ok (.iconst 2, 1) := by decide +kernel
theorem dC_line_50 : decode prog_1_method_3_code 50 = .ok (.iload_n 1, 1) := by decide +kernel
theorem dC_line_51 : decode prog_1_method_3_code 51 = .ok (.invokevirtual 83, 3) := by decide +kernel
theorem dC_line_54 : decode prog_1_method_3_code 54 = .ok (.ireturn, 1) := by decide +kernel
theorem dC_spot_0 : decode prog_1_method_4_code 0 = .ok (.aload_n 0, 1) := by decide +kernel
theorem dC_spot_1 : decode prog_1_method_4_code 1 = .ok (.invokevirtual 51, 3) := by decide +kernel
theorem dC_spot_4 : decode prog_1_method_4_code 4 = .ok (.iload_n 1, 1) := by decide +kernel
theorem dC_spot_5 : decode prog_1_method_4_code 5 = .ok (.invokevirtual 55, 3) := by decide +kernel
theorem dC_spot_8 : decode prog_1_method_4_code 8 = .ok (.ifCond .eq 16, 3) := by decide +kernel
theorem dC_spot_11 : decode prog_1_method_4_code 11 = .ok (.iload_n 2, 1) := by decide +kernel
theorem dC_spot_12 : decode prog_1_method_4_code 12 = .ok (.ifCond .lt 12, 3) := by decide +kernel
theorem dC_spot_15 : decode prog_1_method_4_code 15 = .ok (.iload_n 2, 1) := by decide +kernel
theorem dC_spot_16 : decode prog_1_method_4_code 16 = .ok (.iconst 4, 1) := by decide +kernel
theorem dC_spot_17 : decode prog_1_method_4_code 17 = .ok (.if_icmp .ge 7, 3) := by decide +kernel
theorem dC_spot_20 : decode prog_1_method_4_code 20 = .ok (.iconst 1, 1) := by decide +kernel
theorem dC_spot_21 : decode prog_1_method_4_code 21 = .ok (.goto 4, 3) := by decide +kernel
theorem dC_spot_24 : decode prog_1_method_4_code 24 = .ok (.iconst 0, 1) := by decide +kernel
theorem dC_spot_25 : decode prog_1_method_4_code 25 = .ok (.invokestatic 59, 3) := by decide +kernel
theorem dC_spot_28 : decode prog_1_method_4_code 28 = .ok (.iload_n 2, 1) := by decide +kernel
theorem dC_spot_29 : decode prog_1_method_4_code 29 = .ok (.invokestatic 87, 3) := by decide +kernel
theorem dC_spot_32 : decode prog_1_method_4_code 32 = .ok (.istore 5, 2) := by decide +kernel
theorem dC_spot_34 : decode prog_1_method_4_code 34 = .ok (.iload 5, 2) := by decide +kernel
theorem dC_spot_36 : decode prog_1_method_4_code 36 = .ok (.iconst 1, 1) := by decide +kernel
theorem dC_spot_37 : decode prog_1_method_4_code 37 = .ok (.if_icmp .lt 15, 3) := by decide +kernel
theorem dC_spot_40 : decode prog_1_method_4_code 40 = .ok (.aload_n 0, 1) := by decide +kernel
theorem dC_spot_41 : decode prog_1_method_4_code 41 = .ok (.invokevirtual 51, 3) := by decide +kernel
theorem dC_spot_44 : decode prog_1_method_4_code 44 = .ok (.iload_n 3, 1) := by decide +kernel
theorem dC_spot_45 : decode prog_1_method_4_code 45 = .ok (.iload_n 1, 1) := by decide +kernel
theorem dC_spot_46 : decode prog_1_method_4_code 46 = .ok (.invokevirtual 90, 3) := by decide +kernel
theorem dC_spot_49 : decode prog_1_method_4_code 49 = .ok (.ifCond .eq 7, 3) := by decide +kernel
theorem dC_spot_52 : decode prog_1_method_4_code 52 = .ok (.iconst 1, 1) := by decide +kernel
theorem dC_spot_53 : decode prog_1_method_4_code 53 = .ok (.goto 4, 3) := by decide +kernel
theorem dC_spot_56 : decode prog_1_method_4_code 56 = .ok (.iconst 0, 1) := by decide +kernel
theorem dC_spot_57 : decode prog_1_method_4_code 57 = .ok (.invokestatic 59, 3) := by decide +kernel
theorem dC_spot_60 : decode prog_1_method_4_code 60 = .ok (.iload 5, 2) := by decide +kernel
theorem dC_spot_62 : decode prog_1_method_4_code 62 = .ok (.iconst 2, 1) := by decide +kernel
theorem dC_spot_63 : decode prog_1_method_4_code 63 = .ok (.if_icmp .lt 16, 3) := by decide +kernel
theorem dC_spot_66 : decode prog_1_method_4_code 66 = .ok (.aload_n 0, 1) := by decide +kernel
theorem dC_spot_67 : decode prog_1_method_4_code 67 = .ok (.invokevirtual 51, 3) := by decide +kernel
theorem dC_spot_70 : decode prog_1_method_4_code 70 = .ok (.iload 4, 2) := by decide +kernel
theorem dC_spot_72 : decode prog_1_method_4_code 72 = .ok (.iload_n 1, 1) := by decide +kernel
theorem dC_spot_73 : decode prog_1_method_4_code 73 = .ok (.invokevirtual 90, 3) := by decide +kernel
theorem dC_spot_76 : decode prog_1_method_4_code 76 = .ok (.ifCond .eq 7, 3) := by decide +kernel
theorem dC_spot_79 : decode prog_1_method_4_code 79 = .ok (.iconst 1, 1) := by decide +kernel
theorem dC_spot_80 : decode prog_1_method_4_code 80 = .ok (.goto 4, 3) := by decide +kernel
theorem dC_spot_83 : decode prog_1_method_4_code 83 = .ok (.iconst 0, 1) := by decide +kernel
theorem dC_spot_84 : decode prog_1_method_4_code 84 = .ok (.invokestatic 59, 3) := by decide +kernel
theorem dC_spot_87 : decode prog_1_method_4_code 87 = .ok (.aload_n 0, 1) := by decide +kernel
theorem dC_spot_88 : decode prog_1_method_4_code 88 = .ok (.iload_n 1, 1) := by decide +kernel
theorem dC_spot_89 : decode prog_1_method_4_code 89 = .ok (.invokevirtual 63, 3) := by decide +kernel
theorem dC_spot_92 : decode prog_1_method_4_code 92 = .ok (.invokestatic 66, 3) := by decide +kernel
theorem dC_spot_95 : decode prog_1_method_4_code 95 = .ok (.aload_n 0, 1) := by decide +kernel
theorem dC_spot_96 : decode prog_1_method_4_code 96 = .ok (.invokevirtual 69, 3) := by decide +kernel
theorem dC_spot_99 : decode prog_1_method_4_code 99 = .ok (.ifCond .eq 18, 3) := by decide +kernel
theorem dC_spot_102 : decode prog_1_method_4_code 102 = .ok (.aload_n 0, 1) := by decide +kernel
theorem dC_spot_103 : decode prog_1_method_4_code 103 = .ok (.invokevirtual 51, 3) := by decide +kernel
theorem dC_spot_106 : decode prog_1_method_4_code 106 = .ok (.iconst 0, 1) := by decide +kernel
theorem dC_spot_107 : decode prog_1_method_4_code 107 = .ok (.invokevirtual 73, 3) := by decide +kernel
theorem dC_spot_110 : decode prog_1_method_4_code 110 = .ok (.ifCond .le 7, 3) := by decide +kernel
theorem dC_spot_113 : decode prog_1_method_4_code 113 = .ok (.iconst 1, 1) := by decide +kernel
theorem dC_spot_114 : decode prog_1_method_4_code 114 = .ok (.goto 4, 3) := by decide +kernel
theorem dC_spot_117 : decode prog_1_method_4_code 117 = .ok (.iconst 0, 1) := by decide +kernel
theorem dC_spot_118 : decode prog_1_method_4_code 118 = .ok (.invokestatic 77, 3) := by decide +kernel
theorem dC_spot_121 : decode prog_1_method_4_code 121 = .ok (.aload_n 0, 1) := by decide +kernel
theorem dC_spot_122 : decode prog_1_method_4_code 122 = .ok (.invokevirtual 80, 3) := by decide +kernel
theorem dC_spot_125 : decode prog_1_method_4_code 125 = .ok (.iload_n 1, 1) := by decide +kernel
theorem dC_spot_126 : decode prog_1_method_4_code 126 = .ok (.iload_n 2, 1) := by decide +kernel
theorem dC_spot_127 : decode prog_1_method_4_code 127 = .ok (.iload 5, 2) := by decide +kernel
theorem dC_spot_129 : decode prog_1_method_4_code 129 = .ok (.iconst 1, 1) := by decide +kernel
theorem dC_spot_130 : decode prog_1_method_4_code 130 = .ok (.if_icmp .ge 7, 3) := by decide +kernel
theorem dC_spot_133 : decode prog_1_method_4_code 133 = .ok (.iconst (-1), 1) := by decide +kernel
theorem dC_spot_134 : decode prog_1_method_4_code 134 = .ok (.goto 4, 3) := by decide +kernel
theorem dC_spot_137 : decode prog_1_method_4_code 137 = .ok (.iload_n 3, 1) := by decide +kernel
theorem dC_spot_138 : decode prog_1_method_4_code 138 = .ok (.iload 5, 2) := by decide +kernel
theorem dC_spot_140 : decode prog_1_method_4_code 140 = .ok (.iconst 2, 1) := by decide +kernel
theorem dC_spot_141 : decode prog_1_method_4_code 141 = .ok (.if_icmp .ge 7, 3) := by decide +kernel
theorem dC_spot_144 : decode prog_1_method_4_code 144 = .ok (.iconst (-1), 1) := by decide +kernel
theorem dC_spot_145 : decode prog_1_method_4_code 145 = .ok (.goto 5, 3) := by decide +kernel
theorem dC_spot_148 : decode prog_1_method_4_code 148 = .ok (.iload 4, 2) := by decide +kernel
theorem dC_spot_150 : decode prog_1_method_4_code 150 = .ok (.invokevirtual 94, 3) := by decide +kernel
theorem dC_spot_153 : decode prog_1_method_4_code 153 = .ok (.ireturn, 1) := by decide +kernel
theorem dC_start_0 : decode prog_1_method_5_code 0 = .ok (.aload_n 0, 1) := by decide +kernel
theorem dC_start_1 : decode prog_1_method_5_code 1 = .ok (.getfield 43, 3) := by decide +kernel
theorem dC_start_4 : decode prog_1_method_5_code 4 = .ok (.invokestatic 66, 3) := by decide +kernel
theorem dC_start_7 : decode prog_1_method_5_code 7 = .ok (.aload_n 0, 1) := by decide +kernel
theorem dC_start_8 : decode prog_1_method_5_code 8 = .ok (.iconst 0, 1) := by decide +kernel
theorem dC_start_9 : decode prog_1_method_5_code 9 = .ok (.putfield 43, 3) := by decide +kernel
theorem dC_start_12 : decode prog_1_method_5_code 12 = .ok (.return_, 1) := by decide +kernel
theorem dC_erase_0 : decode prog_1_method_6_code 0 = .ok (.aload_n 0, 1) := by decide +kernel
theorem dC_erase_1 : decode prog_1_method_6_code 1 = .ok (.invokevirtual 51, 3) := by decide +kernel
theorem dC_erase_4 : decode prog_1_method_6_code 4 = .ok (.astore_n 3, 1) := by decide +kernel
theorem dC_erase_5 : decode prog_1_method_6_code 5 = .ok (.aload_n 3, 1) := by decide +kernel
theorem dC_erase_6 : decode prog_1_method_6_code 6 = .ok (.iload_n 1, 1) := by decide +kernel
theorem dC_erase_7 : decode prog_1_method_6_code 7 = .ok (.iload_n 2, 1) := by decide +kernel
theorem dC_erase_8 : decode prog_1_method_6_code 8 = .ok (.invokevirtual 98, 3) := by decide +kernel
theorem dC_erase_11 : decode prog_1_method_6_code 11 = .ok (.invokestatic 59, 3) := by decide +kernel
theorem dC_erase_14 : decode prog_1_method_6_code 14 = .ok (.aload_n 0, 1) := by decide +kernel
theorem dC_erase_15 : decode prog_1_method_6_code 15 = .ok (.getfield 43, 3) := by decide +kernel
theorem dC_erase_18 : decode prog_1_method_6_code 18 = .ok (.ifCond .ne 20, 3) := by decide +kernel
theorem dC_erase_21 : decode prog_1_method_6_code 21 = .ok (.aload_n 3, 1) := by decide +kernel
theorem dC_erase_22 : decode prog_1_method_6_code 22 = .ok (.aload_n 3, 1) := by decide +kernel
theorem dC_erase_23 : decode prog_1_method_6_code 23 = .ok (.iload_n 1, 1) := by decide +kernel
theorem dC_erase_24 : decode prog_1_method_6_code 24 = .ok (.iload_n 2, 1) := by decide +kernel
theorem dC_erase_25 : decode prog_1_method_6_code 25 = .ok (.invokevirtual 101, 3) := by decide +kernel
theorem dC_erase_28 : decode prog_1_method_6_code 28 = .ok (.invokevirtual 104, 3) := by decide +kernel
theorem dC_erase_31 : decode prog_1_method_6_code 31 = .ok (.ifCond .ne 7, 3) := by decide +kernel
theorem dC_erase_34 : decode prog_1_method_6_code 34 = .ok (.iconst 1, 1) := by decide +kernel
theorem dC_erase_35 : decode prog_1_method_6_code 35 = .ok (.goto 4, 3) := by decide +kernel
theorem dC_erase_38 : decode prog_1_method_6_code 38 = .ok (.iconst 0, 1) := by decide +kernel
theorem dC_erase_39 : decode prog_1_method_6_code 39 = .ok (.invokestatic 66, 3) := by decide +kernel
theorem dC_erase_42 : decode prog_1_method_6_code 42 = .ok (.iload_n 1, 1) := by decide +kernel
theorem dC_erase_43 : decode prog_1_method_6_code 43 = .ok (.iconst 2, 1) := by decide +kernel
theorem dC_erase_44 : decode prog_1_method_6_code 44 = .ok (.if_icmp .ne 11, 3) := by decide +kernel
theorem dC_erase_47 : decode prog_1_method_6_code 47 = .ok (.aload_n 3, 1) := by decide +kernel
theorem dC_erase_48 : decode prog_1_method_6_code 48 = .ok (.iload_n 2, 1) := by decide +kernel
theorem dC_erase_49 : decode prog_1_method_6_code 49 = .ok (.invokevirtual 107, 3) := by decide +kernel
theorem dC_erase_52 : decode prog_1_method_6_code 52 = .ok (.ifCond .ne 7, 3) := by decide +kernel
theorem dC_erase_55 : decode prog_1_method_6_code 55 = .ok (.iconst 1, 1) := by decide +kernel
theorem dC_erase_56 : decode prog_1_method_6_code 56 = .ok (.goto 4, 3) := by decide +kernel
theorem dC_erase_59 : decode prog_1_method_6_code 59 = .ok (.iconst 0, 1) := by decide +kernel
theorem dC_erase_60 : decode prog_1_method_6_code 60 = .ok (.invokestatic 66, 3) := by decide +kernel
theorem dC_erase_63 : decode prog_1_method_6_code 63 = .ok (.aload_n 0, 1) := by decide +kernel
theorem dC_erase_64 : decode prog_1_method_6_code 64 = .ok (.invokevirtual 69, 3) := by decide +kernel
theorem dC_erase_67 : decode prog_1_method_6_code 67 = .ok (.invokestatic 77, 3) := by decide +kernel
theorem dC_erase_70 : decode prog_1_method_6_code 70 = .ok (.aload_n 0, 1) := by decide +kernel
theorem dC_erase_71 : decode prog_1_method_6_code 71 = .ok (.invokevirtual 80, 3) := by decide +kernel
theorem dC_erase_74 : decode prog_1_method_6_code 74 = .ok (.iload_n 1, 1) := by decide +kernel
theorem dC_erase_75 : decode prog_1_method_6_code 75 = .ok (.iload_n 2, 1) := by decide +kernel
theorem dC_erase_76 : decode prog_1_method_6_code 76 = .ok (.invokevirtual 110, 3) := by decide +kernel
theorem dC_erase_79 : decode prog_1_method_6_code 79 = .ok (.aload_n 0, 1) := by decide +kernel
theorem dC_erase_80 : decode prog_1_method_6_code 80 = .ok (.getfield 47, 3) := by decide +kernel
theorem dC_erase_83 : decode prog_1_method_6_code 83 = .ok (.ireturn, 1) := by decide +kernel
theorem dC_copy_0 : decode prog_1_method_7_code 0 = .ok (.aload_n 0, 1) := by decide +kernel
theorem dC_copy_1 : decode prog_1_method_7_code 1 = .ok (.invokevirtual 51, 3) := by decide +kernel
theorem dC_copy_4 : decode prog_1_method_7_code 4 = .ok (.astore 4, 2) := by decide +kernel
theorem dC_copy_6 : decode prog_1_method_7_code 6 = .ok (.aload 4, 2) := by decide +kernel
theorem dC_copy_8 : decode prog_1_method_7_code 8 = .ok (.iload_n 1, 1) := by decide +kernel
theorem dC_copy_9 : decode prog_1_method_7_code 9 = .ok (.iload_n 2, 1) := by decide +kernel
theorem dC_copy_10 : decode prog_1_method_7_code 10 = .ok (.invokevirtual 114, 3) := by decide +kernel
theorem dC_copy_13 : decode prog_1_method_7_code 13 = .ok (.ifCond .eq 16, 3) := by decide +kernel
theorem dC_copy_16 : decode prog_1_method_7_code 16 = .ok (.aload 4, 2) := by decide +kernel
theorem dC_copy_18 : decode prog_1_method_7_code 18 = .ok (.iload_n 3, 1) := by decide +kernel
theorem dC_copy_19 : decode prog_1_method_7_code 19 = .ok (.invokevirtual 55, 3) := by decide +kernel
theorem dC_copy_22 : decode prog_1_method_7_code 22 = .ok (.ifCond .eq 7, 3) := by decide +kernel
theorem dC_copy_25 : decode prog_1_method_7_code 25 = .ok (.iconst 1, 1) := by decide +kernel
theorem dC_copy_26 : decode prog_1_method_7_code 26 = .ok (.goto 4, 3) := by decide +kernel
theorem dC_copy_29 : decode prog_1_method_7_code 29 = .ok (.iconst 0, 1) := by decide +kernel
theorem dC_copy_30 : decode prog_1_method_7_code 30 = .ok (.invokestatic 59, 3) := by decide +kernel
theorem dC_copy_33 : decode prog_1_method_7_code 33 = .ok (.aload_n 0, 1) := by decide +kernel
theorem dC_copy_34 : decode prog_1_method_7_code 34 = .ok (.getfield 43, 3) := by decide +kernel
theorem dC_copy_37 : decode prog_1_method_7_code 37 = .ok (.ifCond .ne 23, 3) := by decide +kernel
theorem dC_copy_40 : decode prog_1_method_7_code 40 = .ok (.aload 4, 2) := by decide +kernel
theorem dC_copy_42 : decode prog_1_method_7_code 42 = .ok (.iload_n 3, 1) := by decide +kernel
theorem dC_copy_43 : decode prog_1_method_7_code 43 = .ok (.aload 4, 2) := by decide +kernel
theorem dC_copy_45 : decode prog_1_method_7_code 45 = .ok (.iload_n 1, 1) := by decide +kernel
theorem dC_copy_46 : decode prog_1_method_7_code 46 = .ok (.iload_n 2, 1) := by decide +kernel
theorem dC_copy_47 : decode prog_1_method_7_code 47 = .ok (.invokevirtual 101, 3) := by decide +kernel
theorem dC_copy_50 : decode prog_1_method_7_code 50 = .ok (.invokevirtual 117, 3) := by decide +kernel
theorem dC_copy_53 : decode prog_1_method_7_code 53 = .ok (.ifCond .eq 7, 3) := by decide +kernel
theorem dC_copy_56 : decode prog_1_method_7_code 56 = .ok (.iconst 1, 1) := by decide +kernel
theorem dC_copy_57 : decode prog_1_method_7_code 57 = .ok (.goto 4, 3) := by decide +kernel
theorem dC_copy_60 : decode prog_1_method_7_code 60 = .ok (.iconst 0, 1) := by decide +kernel
theorem dC_copy_61 : decode prog_1_method_7_code 61 = .ok (.invokestatic 66, 3) := by decide +kernel
theorem dC_copy_64 : decode prog_1_method_7_code 64 = .ok (.iload_n 1, 1) := by decide +kernel
theorem dC_copy_65 : decode prog_1_method_7_code 65 = .ok (.iconst 1, 1) := by decide +kernel
theorem dC_copy_66 : decode prog_1_method_7_code 66 = .ok (.if_icmp .ne 13, 3) := by decide +kernel
theorem dC_copy_69 : decode prog_1_method_7_code 69 = .ok (.aload 4, 2) := by decide +kernel
theorem dC_copy_71 : decode prog_1_method_7_code 71 = .ok (.iload_n 3, 1) := by decide +kernel
theorem dC_copy_72 : decode prog_1_method_7_code 72 = .ok (.iload_n 2, 1) := by decide +kernel
theorem dC_copy_73 : decode prog_1_method_7_code 73 = .ok (.invokevirtual 117, 3) := by decide +kernel
theorem dC_copy_76 : decode prog_1_method_7_code 76 = .ok (.ifCond .ne 7, 3) := by decide +kernel
theorem dC_copy_79 : decode prog_1_method_7_code 79 = .ok (.iconst 1, 1) := by decide +kernel
theorem dC_copy_80 : decode prog_1_method_7_code 80 = .ok (.goto 4, 3) := by decide +kernel
theorem dC_copy_83 : decode prog_1_method_7_code 83 = .ok (.iconst 0, 1) := by decide +kernel
theorem dC_copy_84 : decode prog_1_method_7_code 84 = .ok (.invokestatic 66, 3) := by decide +kernel
theorem dC_copy_87 : decode prog_1_method_7_code 87 = .ok (.aload_n 0, 1) := by decide +kernel
theorem dC_copy_88 : decode prog_1_method_7_code 88 = .ok (.invokevirtual 69, 3) := by decide +kernel
theorem dC_copy_91 : decode prog_1_method_7_code 91 = .ok (.ifCond .eq 17, 3) := by decide +kernel
theorem dC_copy_94 : decode prog_1_method_7_code 94 = .ok (.aload 4, 2) := by decide +kernel
theorem dC_copy_96 : decode prog_1_method_7_code 96 = .ok (.iload_n 1, 1) := by decide +kernel
theorem dC_copy_97 : decode prog_1_method_7_code 97 = .ok (.iload_n 2, 1) := by decide +kernel
theorem dC_copy_98 : decode prog_1_method_7_code 98 = .ok (.invokevirtual 120, 3) := by decide +kernel
theorem dC_copy_101 : decode prog_1_method_7_code 101 = .ok (.ifCond .eq 7, 3) := by decide +kernel
theorem dC_copy_104 : decode prog_1_method_7_code 104 = .ok (.iconst 1, 1) := by decide +kernel
theorem dC_copy_105 : decode prog_1_method_7_code 105 = .ok (.goto 4, 3) := by decide +kernel
theorem dC_copy_108 : decode prog_1_method_7_code 108 = .ok (.iconst 0, 1) := by decide +kernel
theorem dC_copy_109 : decode prog_1_method_7_code 109 = .ok (.invokestatic 77, 3) := by decide +kernel
theorem dC_copy_112 : decode prog_1_method_7_code 112 = .ok (.iconst 0, 1) := by decide +kernel
theorem dC_copy_113 : decode prog_1_method_7_code 113 = .ok (.istore 5, 2) := by decide +kernel
theorem dC_copy_115 : decode prog_1_method_7_code 115 = .ok (.iload 5, 2) := by decide +kernel
theorem dC_copy_117 : decode prog_1_method_7_code 117 = .ok (.bipush 6, 2) := by decide +kernel
theorem dC_copy_119 : decode prog_1_method_7_code 119 = .ok (.if_icmp .ge 18, 3) := by decide +kernel
theorem dC_copy_122 : decode prog_1_method_7_code 122 = .ok (.aload_n 0, 1) := by decide +kernel
theorem dC_copy_123 : decode prog_1_method_7_code 123 = .ok (.getfield 39, 3) := by decide +kernel
theorem dC_copy_126 : decode prog_1_method_7_code 126 = .ok (.iload 5, 2) := by decide +kernel
theorem dC_copy_128 : decode prog_1_method_7_code 128 = .ok (.iload 5, 2) := by decide +kernel
theorem dC_copy_130 : decode prog_1_method_7_code 130 = .ok (.iastore, 1) := by decide +kernel
theorem dC_copy_131 : decode prog_1_method_7_code 131 = .ok (.iinc 5 1, 3) := by decide +kernel
theorem dC_copy_134 : decode prog_1_method_7_code 134 = .ok (.goto (-19), 3) := by decide +kernel
theorem dC_copy_137 : decode prog_1_method_7_code 137 = .ok (.aload_n 0, 1) := by decide +kernel
theorem dC_copy_138 : decode prog_1_method_7_code 138 = .ok (.invokevirtual 80, 3) := by decide +kernel
theorem dC_copy_141 : decode prog_1_method_7_code 141 = .ok (.iload_n 1, 1) := by decide +kernel
theorem dC_copy_142 : decode prog_1_method_7_code 142 = .ok (.iload_n 2, 1) := by decide +kernel
theorem dC_copy_143 : decode prog_1_method_7_code 143 = .ok (.iload_n 3, 1) := by decide +kernel
theorem dC_copy_144 : decode prog_1_method_7_code 144 = .ok (.aload_n 0, 1) := by decide +kernel
theorem dC_copy_145 : decode prog_1_method_7_code 145 = .ok (.getfield 39, 3) := by decide +kernel
theorem dC_copy_148 : decode prog_1_method_7_code 148 = .ok (.invokevirtual 123, 3) := by decide +kernel
theorem dC_copy_151 : decode prog_1_method_7_code 151 = .ok (.ireturn, 1) := by decide +kernel
theorem dC_uncopy_0 : decode prog_1_method_8_code 0 = .ok (.aload_n 0, 1) := by decide +kernel
theorem dC_uncopy_1 : decode prog_1_method_8_code 1 = .ok (.invokevirtual 51, 3) := by decide +kernel
theorem dC_uncopy_4 : decode prog_1_method_8_code 4 = .ok (.iload_n 1, 1) := by decide +kernel
theorem dC_uncopy_5 : decode prog_1_method_8_code 5 = .ok (.iload_n 2, 1) := by decide +kernel
theorem dC_uncopy_6 : decode prog_1_method_8_code 6 = .ok (.invokevirtual 114, 3) := by decide +kernel
theorem dC_uncopy_9 : decode prog_1_method_8_code 9 = .ok (.invokestatic 59, 3) := by decide +kernel
theorem dC_uncopy_12 : decode prog_1_method_8_code 12 = .ok (.aload_n 0, 1) := by decide +kernel
theorem dC_uncopy_13 : decode prog_1_method_8_code 13 = .ok (.getfield 43, 3) := by decide +kernel
theorem dC_uncopy_16 : decode prog_1_method_8_code 16 = .ok (.ifCond .ne 16, 3) := by decide +kernel
theorem dC_uncopy_19 : decode prog_1_method_8_code 19 = .ok (.aload_n 0, 1) := by decide +kernel
theorem dC_uncopy_20 : decode prog_1_method_8_code 20 = .ok (.iload_n 1, 1) := by decide +kernel
theorem dC_uncopy_21 : decode prog_1_method_8_code 21 = .ok (.iload_n 2, 1) := by decide +kernel
theorem dC_uncopy_22 : decode prog_1_method_8_code 22 = .ok (.invokevirtual 127, 3) := by decide +kernel
theorem dC_uncopy_25 : decode prog_1_method_8_code 25 = .ok (.ifCond .eq 7, 3) := by decide +kernel
theorem dC_uncopy_28 : decode prog_1_method_8_code 28 = .ok (.iconst 1, 1) := by decide +kernel
theorem dC_uncopy_29 : decode prog_1_method_8_code 29 = .ok (.goto 4, 3) := by decide +kernel
theorem dC_uncopy_32 : decode prog_1_method_8_code 32 = .ok (.iconst 0, 1) := by decide +kernel
theorem dC_uncopy_33 : decode prog_1_method_8_code 33 = .ok (.invokestatic 66, 3) := by decide +kernel
theorem dC_uncopy_36 : decode prog_1_method_8_code 36 = .ok (.aload_n 0, 1) := by decide +kernel
theorem dC_uncopy_37 : decode prog_1_method_8_code 37 = .ok (.invokevirtual 69, 3) := by decide +kernel
theorem dC_uncopy_40 : decode prog_1_method_8_code 40 = .ok (.invokestatic 77, 3) := by decide +kernel
theorem dC_uncopy_43 : decode prog_1_method_8_code 43 = .ok (.aload_n 0, 1) := by decide +kernel
theorem dC_uncopy_44 : decode prog_1_method_8_code 44 = .ok (.invokevirtual 80, 3) := by decide +kernel
theorem dC_uncopy_47 : decode prog_1_method_8_code 47 = .ok (.iload_n 1, 1) := by decide +kernel
theorem dC_uncopy_48 : decode prog_1_method_8_code 48 = .ok (.iload_n 2, 1) := by decide +kernel
theorem dC_uncopy_49 : decode prog_1_method_8_code 49 = .ok (.invokevirtual 110, 3) := by decide +kernel
theorem dC_uncopy_52 : decode prog_1_method_8_code 52 = .ok (.aload_n 0, 1) := by decide +kernel
theorem dC_uncopy_53 : decode prog_1_method_8_code 53 = .ok (.getfield 47, 3) := by decide +kernel
theorem dC_uncopy_56 : decode prog_1_method_8_code 56 = .ok (.ireturn, 1) := by decide +kernel
theorem dC_wrap_0 : decode prog_1_method_9_code 0 = .ok (.aload_n 0, 1) := by decide +kernel
theorem dC_wrap_1 : decode prog_1_method_9_code 1 = .ok (.invokevirtual 51, 3) := by decide +kernel
theorem dC_wrap_4 : decode prog_1_method_9_code 4 = .ok (.astore_n 3, 1) := by decide +kernel
theorem dC_wrap_5 : decode prog_1_method_9_code 5 = .ok (.iload_n 1, 1) := by decide +kernel
theorem dC_wrap_6 : decode prog_1_method_9_code 6 = .ok (.iconst 2, 1) := by decide +kernel
theorem dC_wrap_7 : decode prog_1_method_9_code 7 = .ok (.if_icmp .ne 11, 3) := by decide +kernel
theorem dC_wrap_10 : decode prog_1_method_9_code 10 = .ok (.aload_n 3, 1) := by decide +kernel
theorem dC_wrap_11 : decode prog_1_method_9_code 11 = .ok (.iload_n 2, 1) := by decide +kernel
theorem dC_wrap_12 : decode prog_1_method_9_code 12 = .ok (.invokevirtual 55, 3) := by decide +kernel
theorem dC_wrap_15 : decode prog_1_method_9_code 15 = .ok (.goto 9, 3) := by decide +kernel
theorem dC_wrap_18 : decode prog_1_method_9_code 18 = .ok (.aload_n 3, 1) := by decide +kernel
theorem dC_wrap_19 : decode prog_1_method_9_code 19 = .ok (.iload_n 1, 1) := by decide +kernel
theorem dC_wrap_20 : decode prog_1_method_9_code 20 = .ok (.iload_n 2, 1) := by decide +kernel
theorem dC_wrap_21 : decode prog_1_method_9_code 21 = .ok (.invokevirtual 114, 3) := by decide +kernel
theorem dC_wrap_24 : decode prog_1_method_9_code 24 = .ok (.invokestatic 59, 3) := by decide +kernel
theorem dC_wrap_27 : decode prog_1_method_9_code 27 = .ok (.aload_n 0, 1) := by decide +kernel
theorem dC_wrap_28 : decode prog_1_method_9_code 28 = .ok (.getfield 43, 3) := by decide +kernel
theorem dC_wrap_31 : decode prog_1_method_9_code 31 = .ok (.ifCond .ne 7, 3) := by decide +kernel
theorem dC_wrap_34 : decode prog_1_method_9_code 34 = .ok (.iconst 1, 1) := by decide +kernel
theorem dC_wrap_35 : decode prog_1_method_9_code 35 = .ok (.goto 4, 3) := by decide +kernel
theorem dC_wrap_38 : decode prog_1_method_9_code 38 = .ok (.iconst 0, 1) := by decide +kernel
theorem dC_wrap_39 : decode prog_1_method_9_code 39 = .ok (.invokestatic 66, 3) := by decide +kernel
theorem dC_wrap_42 : decode prog_1_method_9_code 42 = .ok (.aload_n 0, 1) := by decide +kernel
theorem dC_wrap_43 : decode prog_1_method_9_code 43 = .ok (.invokevirtual 69, 3) := by decide +kernel
theorem dC_wrap_46 : decode prog_1_method_9_code 46 = .ok (.ifCond .eq 16, 3) := by decide +kernel
theorem dC_wrap_49 : decode prog_1_method_9_code 49 = .ok (.aload_n 3, 1) := by decide +kernel
theorem dC_wrap_50 : decode prog_1_method_9_code 50 = .ok (.iconst 1, 1) := by decide +kernel
theorem dC_wrap_51 : decode prog_1_method_9_code 51 = .ok (.invokevirtual 73, 3) := by decide +kernel
theorem dC_wrap_54 : decode prog_1_method_9_code 54 = .ok (.iconst 2, 1) := by decide +kernel
theorem dC_wrap_55 : decode prog_1_method_9_code 55 = .ok (.if_icmp .lt 7, 3) := by decide +kernel
theorem dC_wrap_58 : decode prog_1_method_9_code 58 = .ok (.iconst 1, 1) := by decide +kernel
theorem dC_wrap_59 : decode prog_1_method_9_code 59 = .ok (.goto 4, 3) := by decide +kernel
theorem dC_wrap_62 : decode prog_1_method_9_code 62 = .ok (.iconst 0, 1) := by decide +kernel
theorem dC_wrap_63 : decode prog_1_method_9_code 63 = .ok (.invokestatic 77, 3) := by decide +kernel
theorem dC_wrap_66 : decode prog_1_method_9_code 66 = .ok (.aload_n 0, 1) := by decide +kernel
theorem dC_wrap_67 : decode prog_1_method_9_code 67 = .ok (.invokevirtual 80, 3) := by decide +kernel
theorem dC_wrap_70 : decode prog_1_method_9_code 70 = .ok (.astore 4, 2) := by decide +kernel
theorem dC_wrap_72 : decode prog_1_method_9_code 72 = .ok (.aload 4, 2) := by decide +kernel
theorem dC_wrap_74 : decode prog_1_method_9_code 74 = .ok (.iconst 1, 1) := by decide +kernel
theorem dC_wrap_75 : decode prog_1_method_9_code 75 = .ok (.iload_n 1, 1) := by decide +kernel
theorem dC_wrap_76 : decode prog_1_method_9_code 76 = .ok (.iconst 2, 1) := by decide +kernel
theorem dC_wrap_77 : decode prog_1_method_9_code 77 = .ok (.if_icmp .ne 7, 3) := by decide +kernel
theorem dC_wrap_80 : decode prog_1_method_9_code 80 = .ok (.iload_n 2, 1) := by decide +kernel
theorem dC_wrap_81 : decode prog_1_method_9_code 81 = .ok (.goto 10, 3) := by decide +kernel
theorem dC_wrap_84 : decode prog_1_method_9_code 84 = .ok (.aload 4, 2) := by decide +kernel
theorem dC_wrap_86 : decode prog_1_method_9_code 86 = .ok (.iload_n 1, 1) := by decide +kernel
theorem dC_wrap_87 : decode prog_1_method_9_code 87 = .ok (.iload_n 2, 1) := by decide +kernel
theorem dC_wrap_88 : decode prog_1_method_9_code 88 = .ok (.invokevirtual 101, 3) := by decide +kernel
theorem dC_wrap_91 : decode prog_1_method_9_code 91 = .ok (.invokevirtual 83, 3) := by decide +kernel
theorem dC_wrap_94 : decode prog_1_method_9_code 94 = .ok (.istore 5, 2) := by decide +kernel
theorem dC_wrap_96 : decode prog_1_method_9_code 96 = .ok (.aload 4, 2) := by decide +kernel
theorem dC_wrap_98 : decode prog_1_method_9_code 98 = .ok (.iconst 1, 1) := by decide +kernel
theorem dC_wrap_99 : decode prog_1_method_9_code 99 = .ok (.iload 5, 2) := by decide +kernel
theorem dC_wrap_101 : decode prog_1_method_9_code 101 = .ok (.invokevirtual 83, 3) := by decide +kernel
theorem dC_wrap_104 : decode prog_1_method_9_code 104 = .ok (.istore 6, 2) := by decide +kernel
theorem dC_wrap_106 : decode prog_1_method_9_code 106 = .ok (.iload_n 1, 1) := by decide +kernel
theorem dC_wrap_107 : decode prog_1_method_9_code 107 = .ok (.iconst 2, 1) := by decide +kernel
theorem dC_wrap_108 : decode prog_1_method_9_code 108 = .ok (.if_icmp .eq 12, 3) := by decide +kernel
theorem dC_wrap_111 : decode prog_1_method_9_code 111 = .ok (.aload 4, 2) := by decide +kernel
theorem dC_wrap_113 : decode prog_1_method_9_code 113 = .ok (.iload_n 1, 1) := by decide +kernel
theorem dC_wrap_114 : decode prog_1_method_9_code 114 = .ok (.iload_n 2, 1) := by decide +kernel
theorem dC_wrap_115 : decode prog_1_method_9_code 115 = .ok (.iload 6, 2) := by decide +kernel
theorem dC_wrap_117 : decode prog_1_method_9_code 117 = .ok (.invokevirtual 130, 3) := by decide +kernel
theorem dC_wrap_120 : decode prog_1_method_9_code 120 = .ok (.iload 5, 2) := by decide +kernel
theorem dC_wrap_122 : decode prog_1_method_9_code 122 = .ok (.ireturn, 1) := by decide +kernel
theorem dC_unwrap_0 : decode prog_1_method_10_code 0 = .ok (.aload_n 0, 1) := by decide +kernel
theorem dC_unwrap_1 : decode prog_1_method_10_code 1 = .ok (.invokevirtual 51, 3) := by decide +kernel
theorem dC_unwrap_4 : decode prog_1_method_10_code 4 = .ok (.iconst 1, 1) := by decide +kernel
theorem dC_unwrap_5 : decode prog_1_method_10_code 5 = .ok (.iload_n 1, 1) := by decide +kernel
theorem dC_unwrap_6 : decode prog_1_method_10_code 6 = .ok (.invokevirtual 98, 3) := by decide +kernel
theorem dC_unwrap_9 : decode prog_1_method_10_code 9 = .ok (.invokestatic 59, 3) := by decide +kernel
theorem dC_unwrap_12 : decode prog_1_method_10_code 12 = .ok (.aload_n 0, 1) := by decide +kernel
theorem dC_unwrap_13 : decode prog_1_method_10_code 13 = .ok (.getfield 43, 3) := by decide +kernel
theorem dC_unwrap_16 : decode prog_1_method_10_code 16 = .ok (.ifCond .ne 18, 3) := by decide +kernel
theorem dC_unwrap_19 : decode prog_1_method_10_code 19 = .ok (.aload_n 0, 1) := by decide +kernel
theorem dC_unwrap_20 : decode prog_1_method_10_code 20 = .ok (.invokevirtual 51, 3) := by decide +kernel
theorem dC_unwrap_23 : decode prog_1_method_10_code 23 = .ok (.iload_n 1, 1) := by decide +kernel
theorem dC_unwrap_24 : decode prog_1_method_10_code 24 = .ok (.invokevirtual 134, 3) := by decide +kernel
theorem dC_unwrap_27 : decode prog_1_method_10_code 27 = .ok (.ifCond .eq 7, 3) := by decide +kernel
theorem dC_unwrap_30 : decode prog_1_method_10_code 30 = .ok (.iconst 1, 1) := by decide +kernel
theorem dC_unwrap_31 : decode prog_1_method_10_code 31 = .ok (.goto 4, 3) := by decide +kernel
theorem dC_unwrap_34 : decode prog_1_method_10_code 34 = .ok (.iconst 0, 1) := by decide +kernel
theorem dC_unwrap_35 : decode prog_1_method_10_code 35 = .ok (.invokestatic 66, 3) := by decide +kernel
theorem dC_unwrap_38 : decode prog_1_method_10_code 38 = .ok (.aload_n 0, 1) := by decide +kernel
theorem dC_unwrap_39 : decode prog_1_method_10_code 39 = .ok (.invokevirtual 69, 3) := by decide +kernel
theorem dC_unwrap_42 : decode prog_1_method_10_code 42 = .ok (.invokestatic 77, 3) := by decide +kernel
theorem dC_unwrap_45 : decode prog_1_method_10_code 45 = .ok (.aload_n 0, 1) := by decide +kernel
theorem dC_unwrap_46 : decode prog_1_method_10_code 46 = .ok (.invokevirtual 80, 3) := by decide +kernel
theorem dC_unwrap_49 : decode prog_1_method_10_code 49 = .ok (.iload_n 1, 1) := by decide +kernel
theorem dC_unwrap_50 : decode prog_1_method_10_code 50 = .ok (.invokevirtual 137, 3) := by decide +kernel
theorem dC_unwrap_53 : decode prog_1_method_10_code 53 = .ok (.aload_n 0, 1) := by decide +kernel
theorem dC_unwrap_54 : decode prog_1_method_10_code 54 = .ok (.getfield 47, 3) := by decide +kernel
theorem dC_unwrap_57 : decode prog_1_method_10_code 57 = .ok (.ireturn, 1) := by decide +kernel
theorem dC_join_0 : decode prog_1_method_11_code 0 = .ok (.aload_n 0, 1) := by decide +kernel
theorem dC_join_1 : decode prog_1_method_11_code 1 = .ok (.invokevirtual 51, 3) := by decide +kernel
theorem dC_join_4 : decode prog_1_method_11_code 4 = .ok (.astore_n 3, 1) := by decide +kernel
theorem dC_join_5 : decode prog_1_method_11_code 5 = .ok (.aload_n 3, 1) := by decide +kernel
theorem dC_join_6 : decode prog_1_method_11_code 6 = .ok (.iconst 2, 1) := by decide +kernel
theorem dC_join_7 : decode prog_1_method_11_code 7 = .ok (.iload_n 1, 1) := by decide +kernel
theorem dC_join_8 : decode prog_1_method_11_code 8 = .ok (.invokevirtual 98, 3) := by decide +kernel
theorem dC_join_11 : decode prog_1_method_11_code 11 = .ok (.ifCond .eq 21, 3) := by decide +kernel
theorem dC_join_14 : decode prog_1_method_11_code 14 = .ok (.aload_n 3, 1) := by decide +kernel
theorem dC_join_15 : decode prog_1_method_11_code 15 = .ok (.iconst 2, 1) := by decide +kernel
theorem dC_join_16 : decode prog_1_method_11_code 16 = .ok (.iload_n 2, 1) := by decide +kernel
theorem dC_join_17 : decode prog_1_method_11_code 17 = .ok (.invokevirtual 98, 3) := by decide +kernel
theorem dC_join_20 : decode prog_1_method_11_code 20 = .ok (.ifCond .eq 12, 3) := by decide +kernel
theorem dC_join_23 : decode prog_1_method_11_code 23 = .ok (.iload_n 1, 1) := by decide +kernel
theorem dC_join_24 : decode prog_1_method_11_code 24 = .ok (.iload_n 2, 1) := by decide +kernel
theorem dC_join_25 : decode prog_1_method_11_code 25 = .ok (.if_icmp .eq 7, 3) := by decide +kernel
theorem dC_join_28 : decode prog_1_method_11_code 28 = .ok (.iconst 1, 1) := by decide +kernel
theorem dC_join_29 : decode prog_1_method_11_code 29 = .ok (.goto 4, 3) := by decide +kernel
theorem dC_join_32 : decode prog_1_method_11_code 32 = .ok (.iconst 0, 1) := by decide +kernel
theorem dC_join_33 : decode prog_1_method_11_code 33 = .ok (.invokestatic 59, 3) := by decide +kernel
theorem dC_join_36 : decode prog_1_method_11_code 36 = .ok (.aload_n 3, 1) := by decide +kernel
theorem dC_join_37 : decode prog_1_method_11_code 37 = .ok (.iconst 2, 1) := by decide +kernel
theorem dC_join_38 : decode prog_1_method_11_code 38 = .ok (.iload_n 1, 1) := by decide +kernel
theorem dC_join_39 : decode prog_1_method_11_code 39 = .ok (.invokevirtual 101, 3) := by decide +kernel
theorem dC_join_42 : decode prog_1_method_11_code 42 = .ok (.istore 4, 2) := by decide +kernel
theorem dC_join_44 : decode prog_1_method_11_code 44 = .ok (.aload_n 0, 1) := by decide +kernel
theorem dC_join_45 : decode prog_1_method_11_code 45 = .ok (.getfield 43, 3) := by decide +kernel
theorem dC_join_48 : decode prog_1_method_11_code 48 = .ok (.ifCond .ne 26, 3) := by decide +kernel
theorem dC_join_51 : decode prog_1_method_11_code 51 = .ok (.aload_n 3, 1) := by decide +kernel
theorem dC_join_52 : decode prog_1_method_11_code 52 = .ok (.iload 4, 2) := by decide +kernel
theorem dC_join_54 : decode prog_1_method_11_code 54 = .ok (.invokevirtual 104, 3) := by decide +kernel
theorem dC_join_57 : decode prog_1_method_11_code 57 = .ok (.ifCond .eq 17, 3) := by decide +kernel
theorem dC_join_60 : decode prog_1_method_11_code 60 = .ok (.aload_n 3, 1) := by decide +kernel
theorem dC_join_61 : decode prog_1_method_11_code 61 = .ok (.iload_n 2, 1) := by decide +kernel
theorem dC_join_62 : decode prog_1_method_11_code 62 = .ok (.iload 4, 2) := by decide +kernel
theorem dC_join_64 : decode prog_1_method_11_code 64 = .ok (.invokevirtual 90, 3) := by decide +kernel
theorem dC_join_67 : decode prog_1_method_11_code 67 = .ok (.ifCond .eq 7, 3) := by decide +kernel
theorem dC_join_70 : decode prog_1_method_11_code 70 = .ok (.iconst 1, 1) := by decide +kernel
theorem dC_join_71 : decode prog_1_method_11_code 71 = .ok (.goto 4, 3) := by decide +kernel
theorem dC_join_74 : decode prog_1_method_11_code 74 = .ok (.iconst 0, 1) := by decide +kernel
theorem dC_join_75 : decode prog_1_method_11_code 75 = .ok (.invokestatic 66, 3) := by decide +kernel
theorem dC_join_78 : decode prog_1_method_11_code 78 = .ok (.aload_n 0, 1) := by decide +kernel
theorem dC_join_79 : decode prog_1_method_11_code 79 = .ok (.invokevirtual 69, 3) := by decide +kernel
theorem dC_join_82 : decode prog_1_method_11_code 82 = .ok (.invokestatic 77, 3) := by decide +kernel
theorem dC_join_85 : decode prog_1_method_11_code 85 = .ok (.aload_n 0, 1) := by decide +kernel
theorem dC_join_86 : decode prog_1_method_11_code 86 = .ok (.invokevirtual 80, 3) := by decide +kernel
theorem dC_join_89 : decode prog_1_method_11_code 89 = .ok (.astore 5, 2) := by decide +kernel
theorem dC_join_91 : decode prog_1_method_11_code 91 = .ok (.aload 5, 2) := by decide +kernel
theorem dC_join_93 : decode prog_1_method_11_code 93 = .ok (.iload_n 1, 1) := by decide +kernel
theorem dC_join_94 : decode prog_1_method_11_code 94 = .ok (.iload_n 2, 1) := by decide +kernel
theorem dC_join_95 : decode prog_1_method_11_code 95 = .ok (.iload 4, 2) := by decide +kernel
theorem dC_join_97 : decode prog_1_method_11_code 97 = .ok (.invokevirtual 141, 3) := by decide +kernel
theorem dC_join_100 : decode prog_1_method_11_code 100 = .ok (.aload 5, 2) := by decide +kernel
theorem dC_join_102 : decode prog_1_method_11_code 102 = .ok (.iconst 2, 1) := by decide +kernel
theorem dC_join_103 : decode prog_1_method_11_code 103 = .ok (.iload_n 1, 1) := by decide +kernel
theorem dC_join_104 : decode prog_1_method_11_code 104 = .ok (.invokevirtual 110, 3) := by decide +kernel
theorem dC_join_107 : decode prog_1_method_11_code 107 = .ok (.aload_n 0, 1) := by decide +kernel
theorem dC_join_108 : decode prog_1_method_11_code 108 = .ok (.getfield 47, 3) := by decide +kernel
theorem dC_join_111 : decode prog_1_method_11_code 111 = .ok (.ireturn, 1) := by decide +kernel
theorem dC_sever_0 : decode prog_1_method_12_code 0 = .ok (.aload_n 0, 1) := by decide +kernel
theorem dC_sever_1 : decode prog_1_method_12_code 1 = .ok (.invokevirtual 51, 3) := by decide +kernel
theorem dC_sever_4 : decode prog_1_method_12_code 4 = .ok (.astore_n 3, 1) := by decide +kernel
theorem dC_sever_5 : decode prog_1_method_12_code 5 = .ok (.aload_n 3, 1) := by decide +kernel
theorem dC_sever_6 : decode prog_1_method_12_code 6 = .ok (.iconst 2, 1) := by decide +kernel
theorem dC_sever_7 : decode prog_1_method_12_code 7 = .ok (.iload_n 1, 1) := by decide +kernel
theorem dC_sever_8 : decode prog_1_method_12_code 8 = .ok (.invokevirtual 98, 3) := by decide +kernel
theorem dC_sever_11 : decode prog_1_method_12_code 11 = .ok (.ifCond .eq 15, 3) := by decide +kernel
theorem dC_sever_14 : decode prog_1_method_12_code 14 = .ok (.aload_n 3, 1) := by decide +kernel
theorem dC_sever_15 : decode prog_1_method_12_code 15 = .ok (.iload_n 2, 1) := by decide +kernel
theorem dC_sever_16 : decode prog_1_method_12_code 16 = .ok (.invokevirtual 55, 3) := by decide +kernel
theorem dC_sever_19 : decode prog_1_method_12_code 19 = .ok (.ifCond .eq 7, 3) := by decide +kernel
theorem dC_sever_22 : decode prog_1_method_12_code 22 = .ok (.iconst 1, 1) := by decide +kernel
theorem dC_sever_23 : decode prog_1_method_12_code 23 = .ok (.goto 4, 3) := by decide +kernel
theorem dC_sever_26 : decode prog_1_method_12_code 26 = .ok (.iconst 0, 1) := by decide +kernel
theorem dC_sever_27 : decode prog_1_method_12_code 27 = .ok (.invokestatic 59, 3) := by decide +kernel
theorem dC_sever_30 : decode prog_1_method_12_code 30 = .ok (.aload_n 0, 1) := by decide +kernel
theorem dC_sever_31 : decode prog_1_method_12_code 31 = .ok (.getfield 43, 3) := by decide +kernel
theorem dC_sever_34 : decode prog_1_method_12_code 34 = .ok (.ifCond .ne 24, 3) := by decide +kernel
theorem dC_sever_37 : decode prog_1_method_12_code 37 = .ok (.aload_n 3, 1) := by decide +kernel
theorem dC_sever_38 : decode prog_1_method_12_code 38 = .ok (.iload_n 2, 1) := by decide +kernel
theorem dC_sever_39 : decode prog_1_method_12_code 39 = .ok (.invokevirtual 104, 3) := by decide +kernel
theorem dC_sever_42 : decode prog_1_method_12_code 42 = .ok (.ifCond .ne 16, 3) := by decide +kernel
theorem dC_sever_45 : decode prog_1_method_12_code 45 = .ok (.aload_n 3, 1) := by decide +kernel
theorem dC_sever_46 : decode prog_1_method_12_code 46 = .ok (.iload_n 1, 1) := by decide +kernel
theorem dC_sever_47 : decode prog_1_method_12_code 47 = .ok (.iload_n 2, 1) := by decide +kernel
theorem dC_sever_48 : decode prog_1_method_12_code 48 = .ok (.invokevirtual 90, 3) := by decide +kernel
theorem dC_sever_51 : decode prog_1_method_12_code 51 = .ok (.ifCond .eq 7, 3) := by decide +kernel
theorem dC_sever_54 : decode prog_1_method_12_code 54 = .ok (.iconst 1, 1) := by decide +kernel
theorem dC_sever_55 : decode prog_1_method_12_code 55 = .ok (.goto 4, 3) := by decide +kernel
theorem dC_sever_58 : decode prog_1_method_12_code 58 = .ok (.iconst 0, 1) := by decide +kernel
theorem dC_sever_59 : decode prog_1_method_12_code 59 = .ok (.invokestatic 66, 3) := by decide +kernel
theorem dC_sever_62 : decode prog_1_method_12_code 62 = .ok (.aload_n 0, 1) := by decide +kernel
theorem dC_sever_63 : decode prog_1_method_12_code 63 = .ok (.invokevirtual 69, 3) := by decide +kernel
theorem dC_sever_66 : decode prog_1_method_12_code 66 = .ok (.ifCond .eq 15, 3) := by decide +kernel
theorem dC_sever_69 : decode prog_1_method_12_code 69 = .ok (.aload_n 3, 1) := by decide +kernel
theorem dC_sever_70 : decode prog_1_method_12_code 70 = .ok (.iconst 2, 1) := by decide +kernel
theorem dC_sever_71 : decode prog_1_method_12_code 71 = .ok (.invokevirtual 73, 3) := by decide +kernel
theorem dC_sever_74 : decode prog_1_method_12_code 74 = .ok (.ifCond .le 7, 3) := by decide +kernel
theorem dC_sever_77 : decode prog_1_method_12_code 77 = .ok (.iconst 1, 1) := by decide +kernel
theorem dC_sever_78 : decode prog_1_method_12_code 78 = .ok (.goto 4, 3) := by decide +kernel
theorem dC_sever_81 : decode prog_1_method_12_code 81 = .ok (.iconst 0, 1) := by decide +kernel
theorem dC_sever_82 : decode prog_1_method_12_code 82 = .ok (.invokestatic 77, 3) := by decide +kernel
theorem dC_sever_85 : decode prog_1_method_12_code 85 = .ok (.aload_n 0, 1) := by decide +kernel
theorem dC_sever_86 : decode prog_1_method_12_code 86 = .ok (.invokevirtual 80, 3) := by decide +kernel
theorem dC_sever_89 : decode prog_1_method_12_code 89 = .ok (.astore 4, 2) := by decide +kernel
theorem dC_sever_91 : decode prog_1_method_12_code 91 = .ok (.aload 4, 2) := by decide +kernel
theorem dC_sever_93 : decode prog_1_method_12_code 93 = .ok (.iconst 2, 1) := by decide +kernel
theorem dC_sever_94 : decode prog_1_method_12_code 94 = .ok (.iload_n 2, 1) := by decide +kernel
theorem dC_sever_95 : decode prog_1_method_12_code 95 = .ok (.invokevirtual 83, 3) := by decide +kernel
theorem dC_sever_98 : decode prog_1_method_12_code 98 = .ok (.istore 5, 2) := by decide +kernel
theorem dC_sever_100 : decode prog_1_method_12_code 100 = .ok (.aload 4, 2) := by decide +kernel
theorem dC_sever_102 : decode prog_1_method_12_code 102 = .ok (.iload_n 1, 1) := by decide +kernel
theorem dC_sever_103 : decode prog_1_method_12_code 103 = .ok (.iload 5, 2) := by decide +kernel
theorem dC_sever_105 : decode prog_1_method_12_code 105 = .ok (.iload_n 2, 1) := by decide +kernel
theorem dC_sever_106 : decode prog_1_method_12_code 106 = .ok (.invokevirtual 141, 3) := by decide +kernel
theorem dC_sever_109 : decode prog_1_method_12_code 109 = .ok (.iload 5, 2) := by decide +kernel
theorem dC_sever_111 : decode prog_1_method_12_code 111 = .ok (.ireturn, 1) := by decide +kernel
theorem dC_back_0 : decode prog_1_method_13_code 0 = .ok (.aload_n 0, 1) := by decide +kernel
theorem dC_back_1 : decode prog_1_method_13_code 1 = .ok (.getfield 47, 3) := by decide +kernel
theorem dC_back_4 : decode prog_1_method_13_code 4 = .ok (.ifCond .le 7, 3) := by decide +kernel
theorem dC_back_7 : decode prog_1_method_13_code 7 = .ok (.iconst 1, 1) := by decide +kernel
theorem dC_back_8 : decode prog_1_method_13_code 8 = .ok (.goto 4, 3) := by decide +kernel
theorem dC_back_11 : decode prog_1_method_13_code 11 = .ok (.iconst 0, 1) := by decide +kernel
theorem dC_back_12 : decode prog_1_method_13_code 12 = .ok (.invokestatic 66, 3) := by decide +kernel
theorem dC_back_15 : decode prog_1_method_13_code 15 = .ok (.aload_n 0, 1) := by decide +kernel
theorem dC_back_16 : decode prog_1_method_13_code 16 = .ok (.dup, 1) := by decide +kernel
theorem dC_back_17 : decode prog_1_method_13_code 17 = .ok (.getfield 47, 3) := by decide +kernel
theorem dC_back_20 : decode prog_1_method_13_code 20 = .ok (.iconst 1, 1) := by decide +kernel
theorem dC_back_21 : decode prog_1_method_13_code 21 = .ok (.isub, 1) := by decide +kernel
theorem dC_back_22 : decode prog_1_method_13_code 22 = .ok (.putfield 47, 3) := by decide +kernel
theorem dC_back_25 : decode prog_1_method_13_code 25 = .ok (.aload_n 0, 1) := by decide +kernel
theorem dC_back_26 : decode prog_1_method_13_code 26 = .ok (.getfield 47, 3) := by decide +kernel
theorem dC_back_29 : decode prog_1_method_13_code 29 = .ok (.ireturn, 1) := by decide +kernel
theorem dC_depth_0 : decode prog_1_method_14_code 0 = .ok (.aload_n 0, 1) := by decide +kernel
theorem dC_depth_1 : decode prog_1_method_14_code 1 = .ok (.invokevirtual 51, 3) := by decide +kernel
theorem dC_depth_4 : decode prog_1_method_14_code 4 = .ok (.iload_n 1, 1) := by decide +kernel
theorem dC_depth_5 : decode prog_1_method_14_code 5 = .ok (.invokevirtual 55, 3) := by decide +kernel
theorem dC_depth_8 : decode prog_1_method_14_code 8 = .ok (.invokestatic 59, 3) := by decide +kernel
theorem dC_depth_11 : decode prog_1_method_14_code 11 = .ok (.aload_n 0, 1) := by decide +kernel
theorem dC_depth_12 : decode prog_1_method_14_code 12 = .ok (.invokevirtual 51, 3) := by decide +kernel
theorem dC_depth_15 : decode prog_1_method_14_code 15 = .ok (.iload_n 1, 1) := by decide +kernel
theorem dC_depth_16 : decode prog_1_method_14_code 16 = .ok (.invokevirtual 144, 3) := by decide +kernel
theorem dC_depth_19 : decode prog_1_method_14_code 19 = .ok (.ireturn, 1) := by decide +kernel
theorem dC_read_0 : decode prog_1_method_15_code 0 = .ok (.aload_n 0, 1) := by decide +kernel
theorem dC_read_1 : decode prog_1_method_15_code 1 = .ok (.invokevirtual 51, 3) := by decide +kernel
theorem dC_read_4 : decode prog_1_method_15_code 4 = .ok (.iload_n 1, 1) := by decide +kernel
theorem dC_read_5 : decode prog_1_method_15_code 5 = .ok (.invokevirtual 55, 3) := by decide +kernel
theorem dC_read_8 : decode prog_1_method_15_code 8 = .ok (.invokestatic 59, 3) := by decide +kernel
theorem dC_read_11 : decode prog_1_method_15_code 11 = .ok (.aload_n 0, 1) := by decide +kernel
theorem dC_read_12 : decode prog_1_method_15_code 12 = .ok (.getfield 19, 3) := by decide +kernel
theorem dC_read_15 : decode prog_1_method_15_code 15 = .ok (.aload_n 0, 1) := by decide +kernel
theorem dC_read_16 : decode prog_1_method_15_code 16 = .ok (.invokevirtual 51, 3) := by decide +kernel
theorem dC_read_19 : decode prog_1_method_15_code 19 = .ok (.iload_n 1, 1) := by decide +kernel
theorem dC_read_20 : decode prog_1_method_15_code 20 = .ok (.invokevirtual 147, 3) := by decide +kernel
theorem dC_read_23 : decode prog_1_method_15_code 23 = .ok (.aload_n 0, 1) := by decide +kernel
theorem dC_read_24 : decode prog_1_method_15_code 24 = .ok (.getfield 19, 3) := by decide +kernel
theorem dC_read_27 : decode prog_1_method_15_code 27 = .ok (.getfield 151, 3) := by decide +kernel
theorem dC_read_30 : decode prog_1_method_15_code 30 = .ok (.ireturn, 1) := by decide +kernel
theorem dC_token_0 : decode prog_1_method_16_code 0 = .ok (.iload_n 1, 1) := by decide +kernel
theorem dC_token_1 : decode prog_1_method_16_code 1 = .ok (.ifCond .lt 14, 3) := by decide +kernel
theorem dC_token_4 : decode prog_1_method_16_code 4 = .ok (.iload_n 1, 1) := by decide +kernel
theorem dC_token_5 : decode prog_1_method_16_code 5 = .ok (.aload_n 0, 1) := by decide +kernel
theorem dC_token_6 : decode prog_1_method_16_code 6 = .ok (.getfield 19, 3) := by decide +kernel
theorem dC_token_9 : decode prog_1_method_16_code 9 = .ok (.getfield 151, 3) := by decide +kernel
theorem dC_token_12 : decode prog_1_method_16_code 12 = .ok (.if_icmp .lt 11, 3) := by decide +kernel
theorem dC_token_15 : decode prog_1_method_16_code 15 = .ok (.new 154, 3) := by decide +kernel
theorem dC_token_18 : decode prog_1_method_16_code 18 = .ok (.dup, 1) := by decide +kernel
theorem dC_token_19 : decode prog_1_method_16_code 19 = .ok (.invokespecial 156, 3) := by decide +kernel
theorem dC_token_22 : decode prog_1_method_16_code 22 = .ok (.athrow, 1) := by decide +kernel
theorem dC_token_23 : decode prog_1_method_16_code 23 = .ok (.aload_n 0, 1) := by decide +kernel
theorem dC_token_24 : decode prog_1_method_16_code 24 = .ok (.getfield 19, 3) := by decide +kernel
theorem dC_token_27 : decode prog_1_method_16_code 27 = .ok (.getfield 157, 3) := by decide +kernel
theorem dC_token_30 : decode prog_1_method_16_code 30 = .ok (.iload_n 1, 1) := by decide +kernel
theorem dC_token_31 : decode prog_1_method_16_code 31 = .ok (.iaload, 1) := by decide +kernel
theorem dC_token_32 : decode prog_1_method_16_code 32 = .ok (.ireturn, 1) := by decide +kernel
theorem dC_holds_0 : decode prog_1_method_17_code 0 = .ok (.iload_n 2, 1) := by decide +kernel
theorem dC_holds_1 : decode prog_1_method_17_code 1 = .ok (.iconst 1, 1) := by decide +kernel
theorem dC_holds_2 : decode prog_1_method_17_code 2 = .ok (.if_icmp .lt 23, 3) := by decide +kernel
theorem dC_holds_5 : decode prog_1_method_17_code 5 = .ok (.iload_n 2, 1) := by decide +kernel
theorem dC_holds_6 : decode prog_1_method_17_code 6 = .ok (.iconst 3, 1) := by decide +kernel
theorem dC_holds_7 : decode prog_1_method_17_code 7 = .ok (.if_icmp .gt 18, 3) := by decide +kernel
theorem dC_holds_10 : decode prog_1_method_17_code 10 = .ok (.iload_n 3, 1) := by decide +kernel
theorem dC_holds_11 : decode prog_1_method_17_code 11 = .ok (.ifCond .lt 14, 3) := by decide +kernel
theorem dC_holds_14 : decode prog_1_method_17_code 14 = .ok (.iload_n 3, 1) := by decide +kernel
theorem dC_holds_15 : decode prog_1_method_17_code 15 = .ok (.sipush 16384, 3) := by decide +kernel
theorem dC_holds_18 : decode prog_1_method_17_code 18 = .ok (.if_icmp .ge 7, 3) := by decide +kernel
theorem dC_holds_21 : decode prog_1_method_17_code 21 = .ok (.iconst 1, 1) := by decide +kernel
theorem dC_holds_22 : decode prog_1_method_17_code 22 = .ok (.goto 4, 3) := by decide +kernel
theorem dC_holds_25 : decode prog_1_method_17_code 25 = .ok (.iconst 0, 1) := by decide +kernel
theorem dC_holds_26 : decode prog_1_method_17_code 26 = .ok (.invokestatic 59, 3) := by decide +kernel
theorem dC_holds_29 : decode prog_1_method_17_code 29 = .ok (.iload_n 1, 1) := by decide +kernel
theorem dC_holds_30 : decode prog_1_method_17_code 30 = .ok (.ifCond .eq 10, 3) := by decide +kernel
theorem dC_holds_33 : decode prog_1_method_17_code 33 = .ok (.aload_n 0, 1) := by decide +kernel
theorem dC_holds_34 : decode prog_1_method_17_code 34 = .ok (.getfield 43, 3) := by decide +kernel
theorem dC_holds_37 : decode prog_1_method_17_code 37 = .ok (.ifCond .ne 7, 3) := by decide +kernel
theorem dC_holds_40 : decode prog_1_method_17_code 40 = .ok (.iconst 1, 1) := by decide +kernel
theorem dC_holds_41 : decode prog_1_method_17_code 41 = .ok (.goto 4, 3) := by decide +kernel
theorem dC_holds_44 : decode prog_1_method_17_code 44 = .ok (.iconst 0, 1) := by decide +kernel
theorem dC_holds_45 : decode prog_1_method_17_code 45 = .ok (.invokestatic 66, 3) := by decide +kernel
theorem dC_holds_48 : decode prog_1_method_17_code 48 = .ok (.aload_n 0, 1) := by decide +kernel
theorem dC_holds_49 : decode prog_1_method_17_code 49 = .ok (.getfield 36, 3) := by decide +kernel
theorem dC_holds_52 : decode prog_1_method_17_code 52 = .ok (.iload_n 1, 1) := by decide +kernel
theorem dC_holds_53 : decode prog_1_method_17_code 53 = .ok (.ifCond .eq 12, 3) := by decide +kernel
theorem dC_holds_56 : decode prog_1_method_17_code 56 = .ok (.aload_n 0, 1) := by decide +kernel
theorem dC_holds_57 : decode prog_1_method_17_code 57 = .ok (.getfield 11, 3) := by decide +kernel
theorem dC_holds_60 : decode prog_1_method_17_code 60 = .ok (.iconst 0, 1) := by decide +kernel
theorem dC_holds_61 : decode prog_1_method_17_code 61 = .ok (.aaload, 1) := by decide +kernel
theorem dC_holds_62 : decode prog_1_method_17_code 62 = .ok (.goto 7, 3) := by decide +kernel
theorem dC_holds_65 : decode prog_1_method_17_code 65 = .ok (.aload_n 0, 1) := by decide +kernel
theorem dC_holds_66 : decode prog_1_method_17_code 66 = .ok (.invokevirtual 51, 3) := by decide +kernel
theorem dC_holds_69 : decode prog_1_method_17_code 69 = .ok (.invokevirtual 160, 3) := by decide +kernel
theorem dC_holds_72 : decode prog_1_method_17_code 72 = .ok (.aload_n 0, 1) := by decide +kernel
theorem dC_holds_73 : decode prog_1_method_17_code 73 = .ok (.getfield 36, 3) := by decide +kernel
theorem dC_holds_76 : decode prog_1_method_17_code 76 = .ok (.iload_n 2, 1) := by decide +kernel
theorem dC_holds_77 : decode prog_1_method_17_code 77 = .ok (.iload_n 3, 1) := by decide +kernel
theorem dC_holds_78 : decode prog_1_method_17_code 78 = .ok (.invokevirtual 164, 3) := by decide +kernel
theorem dC_holds_81 : decode prog_1_method_17_code 81 = .ok (.ireturn, 1) := by decide +kernel
theorem dC_refutes_0 : decode prog_1_method_18_code 0 = .ok (.iload_n 1, 1) := by decide +kernel
theorem dC_refutes_1 : decode prog_1_method_18_code 1 = .ok (.iconst 1, 1) := by decide +kernel
theorem dC_refutes_2 : decode prog_1_method_18_code 2 = .ok (.if_icmp .eq 8, 3) := by decide +kernel
theorem dC_refutes_5 : decode prog_1_method_18_code 5 = .ok (.iload_n 1, 1) := by decide +kernel
theorem dC_refutes_6 : decode prog_1_method_18_code 6 = .ok (.iconst 2, 1) := by decide +kernel
theorem dC_refutes_7 : decode prog_1_method_18_code 7 = .ok (.if_icmp .ne 7, 3) := by decide +kernel
theorem dC_refutes_10 : decode prog_1_method_18_code 10 = .ok (.iconst 1, 1) := by decide +kernel
theorem dC_refutes_11 : decode prog_1_method_18_code 11 = .ok (.goto 4, 3) := by decide +kernel
theorem dC_refutes_14 : decode prog_1_method_18_code 14 = .ok (.iconst 0, 1) := by decide +kernel
theorem dC_refutes_15 : decode prog_1_method_18_code 15 = .ok (.invokestatic 59, 3) := by decide +kernel
theorem dC_refutes_18 : decode prog_1_method_18_code 18 = .ok (.aload_n 0, 1) := by decide +kernel
theorem dC_refutes_19 : decode prog_1_method_18_code 19 = .ok (.getfield 43, 3) := by decide +kernel
theorem dC_refutes_22 : decode prog_1_method_18_code 22 = .ok (.ifCond .ne 7, 3) := by decide +kernel
theorem dC_refutes_25 : decode prog_1_method_18_code 25 = .ok (.iconst 1, 1) := by decide +kernel
theorem dC_refutes_26 : decode prog_1_method_18_code 26 = .ok (.goto 4, 3) := by decide +kernel
theorem dC_refutes_29 : decode prog_1_method_18_code 29 = .ok (.iconst 0, 1) := by decide +kernel
theorem dC_refutes_30 : decode prog_1_method_18_code 30 = .ok (.invokestatic 66, 3) := by decide +kernel
theorem dC_refutes_33 : decode prog_1_method_18_code 33 = .ok (.aload_n 0, 1) := by decide +kernel
theorem dC_refutes_34 : decode prog_1_method_18_code 34 = .ok (.getfield 32, 3) := by decide +kernel
theorem dC_refutes_37 : decode prog_1_method_18_code 37 = .ok (.aload_n 0, 1) := by decide +kernel
theorem dC_refutes_38 : decode prog_1_method_18_code 38 = .ok (.getfield 11, 3) := by decide +kernel
theorem dC_refutes_41 : decode prog_1_method_18_code 41 = .ok (.iconst 0, 1) := by decide +kernel
theorem dC_refutes_42 : decode prog_1_method_18_code 42 = .ok (.aaload, 1) := by decide +kernel
theorem dC_refutes_43 : decode prog_1_method_18_code 43 = .ok (.invokevirtual 160, 3) := by decide +kernel
theorem dC_refutes_46 : decode prog_1_method_18_code 46 = .ok (.aload_n 0, 1) := by decide +kernel
theorem dC_refutes_47 : decode prog_1_method_18_code 47 = .ok (.getfield 36, 3) := by decide +kernel
theorem dC_refutes_50 : decode prog_1_method_18_code 50 = .ok (.aload_n 0, 1) := by decide +kernel
theorem dC_refutes_51 : decode prog_1_method_18_code 51 = .ok (.invokevirtual 51, 3) := by decide +kernel
theorem dC_refutes_54 : decode prog_1_method_18_code 54 = .ok (.invokevirtual 160, 3) := by decide +kernel
theorem dC_refutes_57 : decode prog_1_method_18_code 57 = .ok (.iload_n 1, 1) := by decide +kernel
theorem dC_refutes_58 : decode prog_1_method_18_code 58 = .ok (.invokestatic 167, 3) := by decide +kernel
theorem dC_refutes_61 : decode prog_1_method_18_code 61 = .ok (.istore_n 2, 1) := by decide +kernel
theorem dC_refutes_62 : decode prog_1_method_18_code 62 = .ok (.iconst 0, 1) := by decide +kernel
theorem dC_refutes_63 : decode prog_1_method_18_code 63 = .ok (.istore_n 3, 1) := by decide +kernel
theorem dC_refutes_64 : decode prog_1_method_18_code 64 = .ok (.iload_n 3, 1) := by decide +kernel
theorem dC_refutes_65 : decode prog_1_method_18_code 65 = .ok (.iload_n 2, 1) := by decide +kernel
theorem dC_refutes_66 : decode prog_1_method_18_code 66 = .ok (.if_icmp .gt 43, 3) := by decide +kernel
theorem dC_refutes_69 : decode prog_1_method_18_code 69 = .ok (.iload_n 3, 1) := by decide +kernel
theorem dC_refutes_70 : decode prog_1_method_18_code 70 = .ok (.iload_n 2, 1) := by decide +kernel
theorem dC_refutes_71 : decode prog_1_method_18_code 71 = .ok (.iconst (-1), 1) := by decide +kernel
theorem dC_refutes_72 : decode prog_1_method_18_code 72 = .ok (.ixor, 1) := by decide +kernel
theorem dC_refutes_73 : decode prog_1_method_18_code 73 = .ok (.iand, 1) := by decide +kernel
theorem dC_refutes_74 : decode prog_1_method_18_code 74 = .ok (.ifCond .ne 29, 3) := by decide +kernel
theorem dC_refutes_77 : decode prog_1_method_18_code 77 = .ok (.aload_n 0, 1) := by decide +kernel
theorem dC_refutes_78 : decode prog_1_method_18_code 78 = .ok (.getfield 32, 3) := by decide +kernel
theorem dC_refutes_81 : decode prog_1_method_18_code 81 = .ok (.iload_n 1, 1) := by decide +kernel
theorem dC_refutes_82 : decode prog_1_method_18_code 82 = .ok (.iload_n 3, 1) := by decide +kernel
