/-! printed by wip/whole/gen_names.py: decode rows -/
theorem dM_noPart_1 : decode prog_7_method_24_code 1 = .ok (.ifCond .ne 19, 3) := by decide +kernel
theorem dM_noPart_4 : decode prog_7_method_24_code 4 = .ok (.aload_n 0, 1) := by decide +kernel
theorem dM_noPart_5 : decode prog_7_method_24_code 5 = .ok (.iload_n 2, 1) := by decide +kernel
theorem dM_noPart_6 : decode prog_7_method_24_code 6 = .ok (.invokevirtual 105, 3) := by decide +kernel
theorem dM_noPart_9 : decode prog_7_method_24_code 9 = .ok (.ifCond .ne 7, 3) := by decide +kernel
theorem dM_noPart_12 : decode prog_7_method_24_code 12 = .ok (.iconst 1, 1) := by decide +kernel
theorem dM_noPart_13 : decode prog_7_method_24_code 13 = .ok (.goto 25, 3) := by decide +kernel
theorem dM_noPart_16 : decode prog_7_method_24_code 16 = .ok (.iconst 0, 1) := by decide +kernel
theorem dM_noPart_17 : decode prog_7_method_24_code 17 = .ok (.goto 21, 3) := by decide +kernel
theorem dM_noPart_20 : decode prog_7_method_24_code 20 = .ok (.iload_n 1, 1) := by decide +kernel
theorem dM_noPart_21 : decode prog_7_method_24_code 21 = .ok (.iconst 1, 1) := by decide +kernel
theorem dM_noPart_22 : decode prog_7_method_24_code 22 = .ok (.if_icmp .ne 11, 3) := by decide +kernel
theorem dM_noPart_25 : decode prog_7_method_24_code 25 = .ok (.aload_n 0, 1) := by decide +kernel
theorem dM_noPart_26 : decode prog_7_method_24_code 26 = .ok (.iload_n 2, 1) := by decide +kernel
theorem dM_noPart_27 : decode prog_7_method_24_code 27 = .ok (.invokevirtual 112, 3) := by decide +kernel
theorem dM_noPart_30 : decode prog_7_method_24_code 30 = .ok (.ifCond .ne 7, 3) := by decide +kernel
theorem dM_noPart_33 : decode prog_7_method_24_code 33 = .ok (.iconst 1, 1) := by decide +kernel
theorem dM_noPart_34 : decode prog_7_method_24_code 34 = .ok (.goto 4, 3) := by decide +kernel
theorem dM_noPart_37 : decode prog_7_method_24_code 37 = .ok (.iconst 0, 1) := by decide +kernel
theorem dM_noPart_38 : decode prog_7_method_24_code 38 = .ok (.ireturn, 1) := by decide +kernel
theorem dM_areaOf_0 : decode prog_7_method_25_code 0 = .ok (.iload_n 1, 1) := by decide +kernel
theorem dM_areaOf_1 : decode prog_7_method_25_code 1 = .ok (.ifCond .ne 15, 3) := by decide +kernel
theorem dM_areaOf_4 : decode prog_7_method_25_code 4 = .ok (.aload_n 0, 1) := by decide +kernel
theorem dM_areaOf_5 : decode prog_7_method_25_code 5 = .ok (.getfield 7, 3) := by decide +kernel
theorem dM_areaOf_8 : decode prog_7_method_25_code 8 = .ok (.bipush 19, 2) := by decide +kernel
theorem dM_areaOf_10 : decode prog_7_method_25_code 10 = .ok (.iload_n 2, 1) := by decide +kernel
theorem dM_areaOf_11 : decode prog_7_method_25_code 11 = .ok (.iadd, 1) := by decide +kernel
theorem dM_areaOf_12 : decode prog_7_method_25_code 12 = .ok (.iaload, 1) := by decide +kernel
theorem dM_areaOf_13 : decode prog_7_method_25_code 13 = .ok (.goto 26, 3) := by decide +kernel
theorem dM_areaOf_16 : decode prog_7_method_25_code 16 = .ok (.iload_n 1, 1) := by decide +kernel
theorem dM_areaOf_17 : decode prog_7_method_25_code 17 = .ok (.iconst 1, 1) := by decide +kernel
theorem dM_areaOf_18 : decode prog_7_method_25_code 18 = .ok (.if_icmp .ne 12, 3) := by decide +kernel
theorem dM_areaOf_21 : decode prog_7_method_25_code 21 = .ok (.aload_n 0, 1) := by decide +kernel
theorem dM_areaOf_22 : decode prog_7_method_25_code 22 = .ok (.getfield 7, 3) := by decide +kernel
theorem dM_areaOf_25 : decode prog_7_method_25_code 25 = .ok (.iload_n 2, 1) := by decide +kernel
theorem dM_areaOf_26 : decode prog_7_method_25_code 26 = .ok (.iaload, 1) := by decide +kernel
theorem dM_areaOf_27 : decode prog_7_method_25_code 27 = .ok (.goto 12, 3) := by decide +kernel
theorem dM_areaOf_30 : decode prog_7_method_25_code 30 = .ok (.aload_n 0, 1) := by decide +kernel
theorem dM_areaOf_31 : decode prog_7_method_25_code 31 = .ok (.getfield 7, 3) := by decide +kernel
theorem dM_areaOf_34 : decode prog_7_method_25_code 34 = .ok (.bipush 13, 2) := by decide +kernel
theorem dM_areaOf_36 : decode prog_7_method_25_code 36 = .ok (.iload_n 2, 1) := by decide +kernel
theorem dM_areaOf_37 : decode prog_7_method_25_code 37 = .ok (.iadd, 1) := by decide +kernel
theorem dM_areaOf_38 : decode prog_7_method_25_code 38 = .ok (.iaload, 1) := by decide +kernel
theorem dM_areaOf_39 : decode prog_7_method_25_code 39 = .ok (.ireturn, 1) := by decide +kernel
theorem dM_late_0 : decode prog_7_method_26_code 0 = .ok (.aload_n 0, 1) := by decide +kernel
theorem dM_late_1 : decode prog_7_method_26_code 1 = .ok (.getfield 68, 3) := by decide +kernel
theorem dM_late_4 : decode prog_7_method_26_code 4 = .ok (.bipush 20, 2) := by decide +kernel
theorem dM_late_6 : decode prog_7_method_26_code 6 = .ok (.if_icmp .ne 7, 3) := by decide +kernel
theorem dM_late_9 : decode prog_7_method_26_code 9 = .ok (.iconst 3, 1) := by decide +kernel
theorem dM_late_10 : decode prog_7_method_26_code 10 = .ok (.goto 4, 3) := by decide +kernel
theorem dM_late_13 : decode prog_7_method_26_code 13 = .ok (.iconst 0, 1) := by decide +kernel
theorem dM_late_14 : decode prog_7_method_26_code 14 = .ok (.ireturn, 1) := by decide +kernel
theorem dM_erase_0 : decode prog_7_method_27_code 0 = .ok (.iload_n 1, 1) := by decide +kernel
theorem dM_erase_1 : decode prog_7_method_27_code 1 = .ok (.iconst 2, 1) := by decide +kernel
theorem dM_erase_2 : decode prog_7_method_27_code 2 = .ok (.if_icmp .ne 19, 3) := by decide +kernel
theorem dM_erase_5 : decode prog_7_method_27_code 5 = .ok (.aload_n 0, 1) := by decide +kernel
theorem dM_erase_6 : decode prog_7_method_27_code 6 = .ok (.iload_n 2, 1) := by decide +kernel
theorem dM_erase_7 : decode prog_7_method_27_code 7 = .ok (.invokevirtual 89, 3) := by decide +kernel
theorem dM_erase_10 : decode prog_7_method_27_code 10 = .ok (.ifCond .ne 7, 3) := by decide +kernel
theorem dM_erase_13 : decode prog_7_method_27_code 13 = .ok (.iconst 1, 1) := by decide +kernel
theorem dM_erase_14 : decode prog_7_method_27_code 14 = .ok (.goto 13, 3) := by decide +kernel
theorem dM_erase_17 : decode prog_7_method_27_code 17 = .ok (.iconst 0, 1) := by decide +kernel
theorem dM_erase_18 : decode prog_7_method_27_code 18 = .ok (.goto 9, 3) := by decide +kernel
theorem dM_erase_21 : decode prog_7_method_27_code 21 = .ok (.aload_n 0, 1) := by decide +kernel
theorem dM_erase_22 : decode prog_7_method_27_code 22 = .ok (.iload_n 1, 1) := by decide +kernel
theorem dM_erase_23 : decode prog_7_method_27_code 23 = .ok (.iload_n 2, 1) := by decide +kernel
theorem dM_erase_24 : decode prog_7_method_27_code 24 = .ok (.invokevirtual 115, 3) := by decide +kernel
theorem dM_erase_27 : decode prog_7_method_27_code 27 = .ok (.istore_n 3, 1) := by decide +kernel
theorem dM_erase_28 : decode prog_7_method_27_code 28 = .ok (.aload_n 0, 1) := by decide +kernel
theorem dM_erase_29 : decode prog_7_method_27_code 29 = .ok (.iload_n 3, 1) := by decide +kernel
theorem dM_erase_30 : decode prog_7_method_27_code 30 = .ok (.ifCond .eq 7, 3) := by decide +kernel
theorem dM_erase_33 : decode prog_7_method_27_code 33 = .ok (.iconst 1, 1) := by decide +kernel
theorem dM_erase_34 : decode prog_7_method_27_code 34 = .ok (.goto 47, 3) := by decide +kernel
theorem dM_erase_37 : decode prog_7_method_27_code 37 = .ok (.aload_n 0, 1) := by decide +kernel
theorem dM_erase_38 : decode prog_7_method_27_code 38 = .ok (.getfield 64, 3) := by decide +kernel
theorem dM_erase_41 : decode prog_7_method_27_code 41 = .ok (.ifCond .eq 32, 3) := by decide +kernel
theorem dM_erase_44 : decode prog_7_method_27_code 44 = .ok (.aload_n 0, 1) := by decide +kernel
theorem dM_erase_45 : decode prog_7_method_27_code 45 = .ok (.aload_n 0, 1) := by decide +kernel
theorem dM_erase_46 : decode prog_7_method_27_code 46 = .ok (.iload_n 1, 1) := by decide +kernel
theorem dM_erase_47 : decode prog_7_method_27_code 47 = .ok (.iload_n 2, 1) := by decide +kernel
theorem dM_erase_48 : decode prog_7_method_27_code 48 = .ok (.invokevirtual 118, 3) := by decide +kernel
theorem dM_erase_51 : decode prog_7_method_27_code 51 = .ok (.invokevirtual 71, 3) := by decide +kernel
theorem dM_erase_54 : decode prog_7_method_27_code 54 = .ok (.iconst 2, 1) := by decide +kernel
theorem dM_erase_55 : decode prog_7_method_27_code 55 = .ok (.irem, 1) := by decide +kernel
theorem dM_erase_56 : decode prog_7_method_27_code 56 = .ok (.iconst 1, 1) := by decide +kernel
theorem dM_erase_57 : decode prog_7_method_27_code 57 = .ok (.if_icmp .eq 16, 3) := by decide +kernel
theorem dM_erase_60 : decode prog_7_method_27_code 60 = .ok (.iload_n 1, 1) := by decide +kernel
theorem dM_erase_61 : decode prog_7_method_27_code 61 = .ok (.iconst 2, 1) := by decide +kernel
theorem dM_erase_62 : decode prog_7_method_27_code 62 = .ok (.if_icmp .ne 15, 3) := by decide +kernel
theorem dM_erase_65 : decode prog_7_method_27_code 65 = .ok (.aload_n 0, 1) := by decide +kernel
theorem dM_erase_66 : decode prog_7_method_27_code 66 = .ok (.iload_n 2, 1) := by decide +kernel
theorem dM_erase_67 : decode prog_7_method_27_code 67 = .ok (.invokevirtual 122, 3) := by decide +kernel
theorem dM_erase_70 : decode prog_7_method_27_code 70 = .ok (.ifCond .eq 7, 3) := by decide +kernel
theorem dM_erase_73 : decode prog_7_method_27_code 73 = .ok (.iconst 2, 1) := by decide +kernel
theorem dM_erase_74 : decode prog_7_method_27_code 74 = .ok (.goto 7, 3) := by decide +kernel
theorem dM_erase_77 : decode prog_7_method_27_code 77 = .ok (.aload_n 0, 1) := by decide +kernel
theorem dM_erase_78 : decode prog_7_method_27_code 78 = .ok (.invokevirtual 125, 3) := by decide +kernel
theorem dM_erase_81 : decode prog_7_method_27_code 81 = .ok (.putfield 56, 3) := by decide +kernel
theorem dM_erase_84 : decode prog_7_method_27_code 84 = .ok (.aload_n 0, 1) := by decide +kernel
theorem dM_erase_85 : decode prog_7_method_27_code 85 = .ok (.getfield 56, 3) := by decide +kernel
theorem dM_erase_88 : decode prog_7_method_27_code 88 = .ok (.ifCond .eq 5, 3) := by decide +kernel
theorem dM_erase_91 : decode prog_7_method_27_code 91 = .ok (.iconst 0, 1) := by decide +kernel
theorem dM_erase_92 : decode prog_7_method_27_code 92 = .ok (.ireturn, 1) := by decide +kernel
theorem dM_erase_93 : decode prog_7_method_27_code 93 = .ok (.aload_n 0, 1) := by decide +kernel
theorem dM_erase_94 : decode prog_7_method_27_code 94 = .ok (.invokevirtual 83, 3) := by decide +kernel
theorem dM_erase_97 : decode prog_7_method_27_code 97 = .ok (.iload_n 1, 1) := by decide +kernel
theorem dM_erase_98 : decode prog_7_method_27_code 98 = .ok (.ifCond .ne 11, 3) := by decide +kernel
theorem dM_erase_101 : decode prog_7_method_27_code 101 = .ok (.aload_n 0, 1) := by decide +kernel
theorem dM_erase_102 : decode prog_7_method_27_code 102 = .ok (.iload_n 2, 1) := by decide +kernel
theorem dM_erase_103 : decode prog_7_method_27_code 103 = .ok (.invokevirtual 108, 3) := by decide +kernel
theorem dM_erase_106 : decode prog_7_method_27_code 106 = .ok (.goto 26, 3) := by decide +kernel
theorem dM_erase_109 : decode prog_7_method_27_code 109 = .ok (.iload_n 1, 1) := by decide +kernel
theorem dM_erase_110 : decode prog_7_method_27_code 110 = .ok (.iconst 1, 1) := by decide +kernel
theorem dM_erase_111 : decode prog_7_method_27_code 111 = .ok (.if_icmp .ne 11, 3) := by decide +kernel
theorem dM_erase_114 : decode prog_7_method_27_code 114 = .ok (.aload_n 0, 1) := by decide +kernel
theorem dM_erase_115 : decode prog_7_method_27_code 115 = .ok (.iload_n 2, 1) := by decide +kernel
theorem dM_erase_116 : decode prog_7_method_27_code 116 = .ok (.invokevirtual 128, 3) := by decide +kernel
theorem dM_erase_119 : decode prog_7_method_27_code 119 = .ok (.goto 13, 3) := by decide +kernel
theorem dM_erase_122 : decode prog_7_method_27_code 122 = .ok (.aload_n 0, 1) := by decide +kernel
theorem dM_erase_123 : decode prog_7_method_27_code 123 = .ok (.getfield 7, 3) := by decide +kernel
theorem dM_erase_126 : decode prog_7_method_27_code 126 = .ok (.bipush 13, 2) := by decide +kernel
theorem dM_erase_128 : decode prog_7_method_27_code 128 = .ok (.iload_n 2, 1) := by decide +kernel
theorem dM_erase_129 : decode prog_7_method_27_code 129 = .ok (.iadd, 1) := by decide +kernel
theorem dM_erase_130 : decode prog_7_method_27_code 130 = .ok (.iconst (-1), 1) := by decide +kernel
theorem dM_erase_131 : decode prog_7_method_27_code 131 = .ok (.iastore, 1) := by decide +kernel
theorem dM_erase_132 : decode prog_7_method_27_code 132 = .ok (.aload_n 0, 1) := by decide +kernel
theorem dM_erase_133 : decode prog_7_method_27_code 133 = .ok (.getfield 68, 3) := by decide +kernel
theorem dM_erase_136 : decode prog_7_method_27_code 136 = .ok (.ireturn, 1) := by decide +kernel
theorem dM_copySpot_0 : decode prog_7_method_28_code 0 = .ok (.aload_n 0, 1) := by decide +kernel
theorem dM_copySpot_1 : decode prog_7_method_28_code 1 = .ok (.invokevirtual 102, 3) := by decide +kernel
theorem dM_copySpot_4 : decode prog_7_method_28_code 4 = .ok (.istore_n 3, 1) := by decide +kernel
theorem dM_copySpot_5 : decode prog_7_method_28_code 5 = .ok (.aload_n 0, 1) := by decide +kernel
theorem dM_copySpot_6 : decode prog_7_method_28_code 6 = .ok (.getfield 7, 3) := by decide +kernel
theorem dM_copySpot_9 : decode prog_7_method_28_code 9 = .ok (.bipush 19, 2) := by decide +kernel
theorem dM_copySpot_11 : decode prog_7_method_28_code 11 = .ok (.iload_n 3, 1) := by decide +kernel
theorem dM_copySpot_12 : decode prog_7_method_28_code 12 = .ok (.iadd, 1) := by decide +kernel
theorem dM_copySpot_13 : decode prog_7_method_28_code 13 = .ok (.iload_n 2, 1) := by decide +kernel
theorem dM_copySpot_14 : decode prog_7_method_28_code 14 = .ok (.iastore, 1) := by decide +kernel
theorem dM_copySpot_15 : decode prog_7_method_28_code 15 = .ok (.aload_n 0, 1) := by decide +kernel
theorem dM_copySpot_16 : decode prog_7_method_28_code 16 = .ok (.getfield 7, 3) := by decide +kernel
theorem dM_copySpot_19 : decode prog_7_method_28_code 19 = .ok (.bipush 31, 2) := by decide +kernel
theorem dM_copySpot_21 : decode prog_7_method_28_code 21 = .ok (.iload_n 3, 1) := by decide +kernel
theorem dM_copySpot_22 : decode prog_7_method_28_code 22 = .ok (.iadd, 1) := by decide +kernel
theorem dM_copySpot_23 : decode prog_7_method_28_code 23 = .ok (.aload_n 0, 1) := by decide +kernel
theorem dM_copySpot_24 : decode prog_7_method_28_code 24 = .ok (.getfield 7, 3) := by decide +kernel
theorem dM_copySpot_27 : decode prog_7_method_28_code 27 = .ok (.bipush 31, 2) := by decide +kernel
theorem dM_copySpot_29 : decode prog_7_method_28_code 29 = .ok (.iload_n 1, 1) := by decide +kernel
theorem dM_copySpot_30 : decode prog_7_method_28_code 30 = .ok (.iadd, 1) := by decide +kernel
theorem dM_copySpot_31 : decode prog_7_method_28_code 31 = .ok (.iaload, 1) := by decide +kernel
theorem dM_copySpot_32 : decode prog_7_method_28_code 32 = .ok (.iastore, 1) := by decide +kernel
theorem dM_copySpot_33 : decode prog_7_method_28_code 33 = .ok (.iconst 0, 1) := by decide +kernel
theorem dM_copySpot_34 : decode prog_7_method_28_code 34 = .ok (.istore 4, 2) := by decide +kernel
theorem dM_copySpot_36 : decode prog_7_method_28_code 36 = .ok (.iload 4, 2) := by decide +kernel
theorem dM_copySpot_38 : decode prog_7_method_28_code 38 = .ok (.iconst 2, 1) := by decide +kernel
theorem dM_copySpot_39 : decode prog_7_method_28_code 39 = .ok (.if_icmp .ge 68, 3) := by decide +kernel
theorem dM_copySpot_42 : decode prog_7_method_28_code 42 = .ok (.aload_n 0, 1) := by decide +kernel
theorem dM_copySpot_43 : decode prog_7_method_28_code 43 = .ok (.getfield 7, 3) := by decide +kernel
theorem dM_copySpot_46 : decode prog_7_method_28_code 46 = .ok (.bipush 43, 2) := by decide +kernel
theorem dM_copySpot_48 : decode prog_7_method_28_code 48 = .ok (.iconst 2, 1) := by decide +kernel
theorem dM_copySpot_49 : decode prog_7_method_28_code 49 = .ok (.iload_n 1, 1) := by decide +kernel
theorem dM_copySpot_50 : decode prog_7_method_28_code 50 = .ok (.imul, 1) := by decide +kernel
theorem dM_copySpot_51 : decode prog_7_method_28_code 51 = .ok (.iadd, 1) := by decide +kernel
theorem dM_copySpot_52 : decode prog_7_method_28_code 52 = .ok (.iload 4, 2) := by decide +kernel
theorem dM_copySpot_54 : decode prog_7_method_28_code 54 = .ok (.iadd, 1) := by decide +kernel
theorem dM_copySpot_55 : decode prog_7_method_28_code 55 = .ok (.iaload, 1) := by decide +kernel
theorem dM_copySpot_56 : decode prog_7_method_28_code 56 = .ok (.istore 5, 2) := by decide +kernel
theorem dM_copySpot_58 : decode prog_7_method_28_code 58 = .ok (.aload_n 0, 1) := by decide +kernel
theorem dM_copySpot_59 : decode prog_7_method_28_code 59 = .ok (.getfield 7, 3) := by decide +kernel
theorem dM_copySpot_62 : decode prog_7_method_28_code 62 = .ok (.bipush 43, 2) := by decide +kernel
theorem dM_copySpot_64 : decode prog_7_method_28_code 64 = .ok (.iconst 2, 1) := by decide +kernel
theorem dM_copySpot_65 : decode prog_7_method_28_code 65 = .ok (.iload_n 3, 1) := by decide +kernel
theorem dM_copySpot_66 : decode prog_7_method_28_code 66 = .ok (.imul, 1) := by decide +kernel
theorem dM_copySpot_67 : decode prog_7_method_28_code 67 = .ok (.iadd, 1) := by decide +kernel
theorem dM_copySpot_68 : decode prog_7_method_28_code 68 = .ok (.iload 4, 2) := by decide +kernel
theorem dM_copySpot_70 : decode prog_7_method_28_code 70 = .ok (.iadd, 1) := by decide +kernel
theorem dM_copySpot_71 : decode prog_7_method_28_code 71 = .ok (.iload 5, 2) := by decide +kernel
theorem dM_copySpot_73 : decode prog_7_method_28_code 73 = .ok (.iconst (-1), 1) := by decide +kernel
theorem dM_copySpot_74 : decode prog_7_method_28_code 74 = .ok (.if_icmp .eq 24, 3) := by decide +kernel
theorem dM_copySpot_77 : decode prog_7_method_28_code 77 = .ok (.aload_n 0, 1) := by decide +kernel
theorem dM_copySpot_78 : decode prog_7_method_28_code 78 = .ok (.getfield 38, 3) := by decide +kernel
theorem dM_copySpot_81 : decode prog_7_method_28_code 81 = .ok (.iload 5, 2) := by decide +kernel
theorem dM_copySpot_83 : decode prog_7_method_28_code 83 = .ok (.iaload, 1) := by decide +kernel
theorem dM_copySpot_84 : decode prog_7_method_28_code 84 = .ok (.iconst (-1), 1) := by decide +kernel
theorem dM_copySpot_85 : decode prog_7_method_28_code 85 = .ok (.if_icmp .eq 13, 3) := by decide +kernel
theorem dM_copySpot_88 : decode prog_7_method_28_code 88 = .ok (.aload_n 0, 1) := by decide +kernel
theorem dM_copySpot_89 : decode prog_7_method_28_code 89 = .ok (.getfield 38, 3) := by decide +kernel
theorem dM_copySpot_92 : decode prog_7_method_28_code 92 = .ok (.iload 5, 2) := by decide +kernel
theorem dM_copySpot_94 : decode prog_7_method_28_code 94 = .ok (.iaload, 1) := by decide +kernel
theorem dM_copySpot_95 : decode prog_7_method_28_code 95 = .ok (.goto 5, 3) := by decide +kernel
theorem dM_copySpot_98 : decode prog_7_method_28_code 98 = .ok (.iload 5, 2) := by decide +kernel
theorem dM_copySpot_100 : decode prog_7_method_28_code 100 = .ok (.iastore, 1) := by decide +kernel
theorem dM_copySpot_101 : decode prog_7_method_28_code 101 = .ok (.iinc 4 1, 3) := by decide +kernel
theorem dM_copySpot_104 : decode prog_7_method_28_code 104 = .ok (.goto (-68), 3) := by decide +kernel
theorem dM_copySpot_107 : decode prog_7_method_28_code 107 = .ok (.return_, 1) := by decide +kernel
theorem dM_copyArea_0 : decode prog_7_method_29_code 0 = .ok (.iconst 0, 1) := by decide +kernel
theorem dM_copyArea_1 : decode prog_7_method_29_code 1 = .ok (.istore 4, 2) := by decide +kernel
theorem dM_copyArea_3 : decode prog_7_method_29_code 3 = .ok (.iload 4, 2) := by decide +kernel
theorem dM_copyArea_5 : decode prog_7_method_29_code 5 = .ok (.bipush 6, 2) := by decide +kernel
theorem dM_copyArea_7 : decode prog_7_method_29_code 7 = .ok (.if_icmp .ge 52, 3) := by decide +kernel
theorem dM_copyArea_10 : decode prog_7_method_29_code 10 = .ok (.aload_n 0, 1) := by decide +kernel
theorem dM_copyArea_11 : decode prog_7_method_29_code 11 = .ok (.getfield 13, 3) := by decide +kernel
theorem dM_copyArea_14 : decode prog_7_method_29_code 14 = .ok (.iload_n 3, 1) := by decide +kernel
theorem dM_copyArea_15 : decode prog_7_method_29_code 15 = .ok (.bipush 13, 2) := by decide +kernel
theorem dM_copyArea_17 : decode prog_7_method_29_code 17 = .ok (.iadd, 1) := by decide +kernel
theorem dM_copyArea_18 : decode prog_7_method_29_code 18 = .ok (.iload 4, 2) := by decide +kernel
theorem dM_copyArea_20 : decode prog_7_method_29_code 20 = .ok (.iadd, 1) := by decide +kernel
theorem dM_copyArea_21 : decode prog_7_method_29_code 21 = .ok (.iaload, 1) := by decide +kernel
theorem dM_copyArea_22 : decode prog_7_method_29_code 22 = .ok (.iload_n 1, 1) := by decide +kernel
theorem dM_copyArea_23 : decode prog_7_method_29_code 23 = .ok (.if_icmp .ne 30, 3) := by decide +kernel
theorem dM_copyArea_26 : decode prog_7_method_29_code 26 = .ok (.aload_n 0, 1) := by decide +kernel
theorem dM_copyArea_27 : decode prog_7_method_29_code 27 = .ok (.getfield 38, 3) := by decide +kernel
theorem dM_copyArea_30 : decode prog_7_method_29_code 30 = .ok (.iload 4, 2) := by decide +kernel
theorem dM_copyArea_32 : decode prog_7_method_29_code 32 = .ok (.aload_n 0, 1) := by decide +kernel
theorem dM_copyArea_33 : decode prog_7_method_29_code 33 = .ok (.invokevirtual 86, 3) := by decide +kernel
theorem dM_copyArea_36 : decode prog_7_method_29_code 36 = .ok (.iastore, 1) := by decide +kernel
theorem dM_copyArea_37 : decode prog_7_method_29_code 37 = .ok (.aload_n 0, 1) := by decide +kernel
theorem dM_copyArea_38 : decode prog_7_method_29_code 38 = .ok (.getfield 7, 3) := by decide +kernel
theorem dM_copyArea_41 : decode prog_7_method_29_code 41 = .ok (.bipush 13, 2) := by decide +kernel
theorem dM_copyArea_43 : decode prog_7_method_29_code 43 = .ok (.aload_n 0, 1) := by decide +kernel
theorem dM_copyArea_44 : decode prog_7_method_29_code 44 = .ok (.getfield 38, 3) := by decide +kernel
theorem dM_copyArea_47 : decode prog_7_method_29_code 47 = .ok (.iload 4, 2) := by decide +kernel
theorem dM_copyArea_49 : decode prog_7_method_29_code 49 = .ok (.iaload, 1) := by decide +kernel
theorem dM_copyArea_50 : decode prog_7_method_29_code 50 = .ok (.iadd, 1) := by decide +kernel
theorem dM_copyArea_51 : decode prog_7_method_29_code 51 = .ok (.iload_n 2, 1) := by decide +kernel
theorem dM_copyArea_52 : decode prog_7_method_29_code 52 = .ok (.iastore, 1) := by decide +kernel
theorem dM_copyArea_53 : decode prog_7_method_29_code 53 = .ok (.iinc 4 1, 3) := by decide +kernel
theorem dM_copyArea_56 : decode prog_7_method_29_code 56 = .ok (.goto (-53), 3) := by decide +kernel
theorem dM_copyArea_59 : decode prog_7_method_29_code 59 = .ok (.iconst 0, 1) := by decide +kernel
theorem dM_copyArea_60 : decode prog_7_method_29_code 60 = .ok (.istore 4, 2) := by decide +kernel
theorem dM_copyArea_62 : decode prog_7_method_29_code 62 = .ok (.iload 4, 2) := by decide +kernel
theorem dM_copyArea_64 : decode prog_7_method_29_code 64 = .ok (.bipush 12, 2) := by decide +kernel
theorem dM_copyArea_66 : decode prog_7_method_29_code 66 = .ok (.if_icmp .ge 32, 3) := by decide +kernel
theorem dM_copyArea_69 : decode prog_7_method_29_code 69 = .ok (.aload_n 0, 1) := by decide +kernel
theorem dM_copyArea_70 : decode prog_7_method_29_code 70 = .ok (.getfield 13, 3) := by decide +kernel
theorem dM_copyArea_73 : decode prog_7_method_29_code 73 = .ok (.iload_n 3, 1) := by decide +kernel
theorem dM_copyArea_74 : decode prog_7_method_29_code 74 = .ok (.bipush 19, 2) := by decide +kernel
theorem dM_copyArea_76 : decode prog_7_method_29_code 76 = .ok (.iadd, 1) := by decide +kernel
theorem dM_copyArea_77 : decode prog_7_method_29_code 77 = .ok (.iload 4, 2) := by decide +kernel
theorem dM_copyArea_79 : decode prog_7_method_29_code 79 = .ok (.iadd, 1) := by decide +kernel
theorem dM_copyArea_80 : decode prog_7_method_29_code 80 = .ok (.iaload, 1) := by decide +kernel
theorem dM_copyArea_81 : decode prog_7_method_29_code 81 = .ok (.iload_n 1, 1) := by decide +kernel
theorem dM_copyArea_82 : decode prog_7_method_29_code 82 = .ok (.if_icmp .ne 10, 3) := by decide +kernel
theorem dM_copyArea_85 : decode prog_7_method_29_code 85 = .ok (.aload_n 0, 1) := by decide +kernel
theorem dM_copyArea_86 : decode prog_7_method_29_code 86 = .ok (.iload 4, 2) := by decide +kernel
theorem dM_copyArea_88 : decode prog_7_method_29_code 88 = .ok (.iload_n 2, 1) := by decide +kernel
theorem dM_copyArea_89 : decode prog_7_method_29_code 89 = .ok (.invokevirtual 131, 3) := by decide +kernel
theorem dM_copyArea_92 : decode prog_7_method_29_code 92 = .ok (.iinc 4 1, 3) := by decide +kernel
theorem dM_copyArea_95 : decode prog_7_method_29_code 95 = .ok (.goto (-33), 3) := by decide +kernel
theorem dM_copyArea_98 : decode prog_7_method_29_code 98 = .ok (.return_, 1) := by decide +kernel
theorem dM_copyCut_0 : decode prog_7_method_30_code 0 = .ok (.bipush 67, 2) := by decide +kernel
theorem dM_copyCut_2 : decode prog_7_method_30_code 2 = .ok (.aload_n 0, 1) := by decide +kernel
theorem dM_copyCut_3 : decode prog_7_method_30_code 3 = .ok (.getfield 68, 3) := by decide +kernel
theorem dM_copyCut_6 : decode prog_7_method_30_code 6 = .ok (.iconst 1, 1) := by decide +kernel
theorem dM_copyCut_7 : decode prog_7_method_30_code 7 = .ok (.isub, 1) := by decide +kernel
theorem dM_copyCut_8 : decode prog_7_method_30_code 8 = .ok (.imul, 1) := by decide +kernel
theorem dM_copyCut_9 : decode prog_7_method_30_code 9 = .ok (.istore_n 3, 1) := by decide +kernel
theorem dM_copyCut_10 : decode prog_7_method_30_code 10 = .ok (.aload_n 0, 1) := by decide +kernel
theorem dM_copyCut_11 : decode prog_7_method_30_code 11 = .ok (.invokevirtual 75, 3) := by decide +kernel
theorem dM_copyCut_14 : decode prog_7_method_30_code 14 = .ok (.istore 4, 2) := by decide +kernel
theorem dM_copyCut_16 : decode prog_7_method_30_code 16 = .ok (.aload_n 0, 1) := by decide +kernel
theorem dM_copyCut_17 : decode prog_7_method_30_code 17 = .ok (.getfield 7, 3) := by decide +kernel
theorem dM_copyCut_20 : decode prog_7_method_30_code 20 = .ok (.iload 4, 2) := by decide +kernel
theorem dM_copyCut_22 : decode prog_7_method_30_code 22 = .ok (.iload_n 2, 1) := by decide +kernel
theorem dM_copyCut_23 : decode prog_7_method_30_code 23 = .ok (.iastore, 1) := by decide +kernel
theorem dM_copyCut_24 : decode prog_7_method_30_code 24 = .ok (.aload_n 0, 1) := by decide +kernel
theorem dM_copyCut_25 : decode prog_7_method_30_code 25 = .ok (.iload_n 1, 1) := by decide +kernel
theorem dM_copyCut_26 : decode prog_7_method_30_code 26 = .ok (.iload 4, 2) := by decide +kernel
theorem dM_copyCut_28 : decode prog_7_method_30_code 28 = .ok (.iload_n 3, 1) := by decide +kernel
theorem dM_copyCut_29 : decode prog_7_method_30_code 29 = .ok (.invokevirtual 135, 3) := by decide +kernel
theorem dM_copyCut_32 : decode prog_7_method_30_code 32 = .ok (.aload_n 0, 1) := by decide +kernel
theorem dM_copyCut_33 : decode prog_7_method_30_code 33 = .ok (.iconst 1, 1) := by decide +kernel
theorem dM_copyCut_34 : decode prog_7_method_30_code 34 = .ok (.putfield 139, 3) := by decide +kernel
theorem dM_copyCut_37 : decode prog_7_method_30_code 37 = .ok (.aload_n 0, 1) := by decide +kernel
theorem dM_copyCut_38 : decode prog_7_method_30_code 38 = .ok (.getfield 25, 3) := by decide +kernel
theorem dM_copyCut_41 : decode prog_7_method_30_code 41 = .ok (.iconst 0, 1) := by decide +kernel
theorem dM_copyCut_42 : decode prog_7_method_30_code 42 = .ok (.iload_n 1, 1) := by decide +kernel
theorem dM_copyCut_43 : decode prog_7_method_30_code 43 = .ok (.iastore, 1) := by decide +kernel
theorem dM_copyCut_44 : decode prog_7_method_30_code 44 = .ok (.aload_n 0, 1) := by decide +kernel
theorem dM_copyCut_45 : decode prog_7_method_30_code 45 = .ok (.getfield 35, 3) := by decide +kernel
theorem dM_copyCut_48 : decode prog_7_method_30_code 48 = .ok (.iload_n 1, 1) := by decide +kernel
theorem dM_copyCut_49 : decode prog_7_method_30_code 49 = .ok (.iload 4, 2) := by decide +kernel
theorem dM_copyCut_51 : decode prog_7_method_30_code 51 = .ok (.iastore, 1) := by decide +kernel
theorem dM_copyCut_52 : decode prog_7_method_30_code 52 = .ok (.aload_n 0, 1) := by decide +kernel
theorem dM_copyCut_53 : decode prog_7_method_30_code 53 = .ok (.getfield 28, 3) := by decide +kernel
theorem dM_copyCut_56 : decode prog_7_method_30_code 56 = .ok (.iconst 0, 1) := by decide +kernel
theorem dM_copyCut_57 : decode prog_7_method_30_code 57 = .ok (.iconst 0, 1) := by decide +kernel
theorem dM_copyCut_58 : decode prog_7_method_30_code 58 = .ok (.iastore, 1) := by decide +kernel
theorem dM_copyCut_59 : decode prog_7_method_30_code 59 = .ok (.aload_n 0, 1) := by decide +kernel
theorem dM_copyCut_60 : decode prog_7_method_30_code 60 = .ok (.getfield 139, 3) := by decide +kernel
theorem dM_copyCut_63 : decode prog_7_method_30_code 63 = .ok (.ifCond .le 163, 3) := by decide +kernel
theorem dM_copyCut_66 : decode prog_7_method_30_code 66 = .ok (.aload_n 0, 1) := by decide +kernel
theorem dM_copyCut_67 : decode prog_7_method_30_code 67 = .ok (.getfield 25, 3) := by decide +kernel
theorem dM_copyCut_70 : decode prog_7_method_30_code 70 = .ok (.aload_n 0, 1) := by decide +kernel
theorem dM_copyCut_71 : decode prog_7_method_30_code 71 = .ok (.getfield 139, 3) := by decide +kernel
theorem dM_copyCut_74 : decode prog_7_method_30_code 74 = .ok (.iconst 1, 1) := by decide +kernel
theorem dM_copyCut_75 : decode prog_7_method_30_code 75 = .ok (.isub, 1) := by decide +kernel
theorem dM_copyCut_76 : decode prog_7_method_30_code 76 = .ok (.iaload, 1) := by decide +kernel
theorem dM_copyCut_77 : decode prog_7_method_30_code 77 = .ok (.istore 5, 2) := by decide +kernel
theorem dM_copyCut_79 : decode prog_7_method_30_code 79 = .ok (.aload_n 0, 1) := by decide +kernel
theorem dM_copyCut_80 : decode prog_7_method_30_code 80 = .ok (.getfield 28, 3) := by decide +kernel
theorem dM_copyCut_83 : decode prog_7_method_30_code 83 = .ok (.aload_n 0, 1) := by decide +kernel
theorem dM_copyCut_84 : decode prog_7_method_30_code 84 = .ok (.getfield 139, 3) := by decide +kernel
theorem dM_copyCut_87 : decode prog_7_method_30_code 87 = .ok (.iconst 1, 1) := by decide +kernel
theorem dM_copyCut_88 : decode prog_7_method_30_code 88 = .ok (.isub, 1) := by decide +kernel
theorem dM_copyCut_89 : decode prog_7_method_30_code 89 = .ok (.iaload, 1) := by decide +kernel
theorem dM_copyCut_90 : decode prog_7_method_30_code 90 = .ok (.iconst 1, 1) := by decide +kernel
theorem dM_copyCut_91 : decode prog_7_method_30_code 91 = .ok (.iadd, 1) := by decide +kernel
theorem dM_copyCut_92 : decode prog_7_method_30_code 92 = .ok (.istore 6, 2) := by decide +kernel
theorem dM_copyCut_94 : decode prog_7_method_30_code 94 = .ok (.iload 6, 2) := by decide +kernel
theorem dM_copyCut_96 : decode prog_7_method_30_code 96 = .ok (.bipush 13, 2) := by decide +kernel
theorem dM_copyCut_98 : decode prog_7_method_30_code 98 = .ok (.if_icmp .ge 23, 3) := by decide +kernel
theorem dM_copyCut_101 : decode prog_7_method_30_code 101 = .ok (.aload_n 0, 1) := by decide +kernel
theorem dM_copyCut_102 : decode prog_7_method_30_code 102 = .ok (.getfield 13, 3) := by decide +kernel
theorem dM_copyCut_105 : decode prog_7_method_30_code 105 = .ok (.iload_n 3, 1) := by decide +kernel
theorem dM_copyCut_106 : decode prog_7_method_30_code 106 = .ok (.iload 6, 2) := by decide +kernel
theorem dM_copyCut_108 : decode prog_7_method_30_code 108 = .ok (.iadd, 1) := by decide +kernel
theorem dM_copyCut_109 : decode prog_7_method_30_code 109 = .ok (.iaload, 1) := by decide +kernel
theorem dM_copyCut_110 : decode prog_7_method_30_code 110 = .ok (.iload 5, 2) := by decide +kernel
theorem dM_copyCut_112 : decode prog_7_method_30_code 112 = .ok (.if_icmp .eq 9, 3) := by decide +kernel
theorem dM_copyCut_115 : decode prog_7_method_30_code 115 = .ok (.iinc 6 1, 3) := by decide +kernel
theorem dM_copyCut_118 : decode prog_7_method_30_code 118 = .ok (.goto (-24), 3) := by decide +kernel
theorem dM_copyCut_121 : decode prog_7_method_30_code 121 = .ok (.aload_n 0, 1) := by decide +kernel
theorem dM_copyCut_122 : decode prog_7_method_30_code 122 = .ok (.getfield 28, 3) := by decide +kernel
theorem dM_copyCut_125 : decode prog_7_method_30_code 125 = .ok (.aload_n 0, 1) := by decide +kernel
theorem dM_copyCut_126 : decode prog_7_method_30_code 126 = .ok (.getfield 139, 3) := by decide +kernel
theorem dM_copyCut_129 : decode prog_7_method_30_code 129 = .ok (.iconst 1, 1) := by decide +kernel
theorem dM_copyCut_130 : decode prog_7_method_30_code 130 = .ok (.isub, 1) := by decide +kernel
theorem dM_copyCut_131 : decode prog_7_method_30_code 131 = .ok (.iload 6, 2) := by decide +kernel
theorem dM_copyCut_133 : decode prog_7_method_30_code 133 = .ok (.iastore, 1) := by decide +kernel
theorem dM_copyCut_134 : decode prog_7_method_30_code 134 = .ok (.iload 6, 2) := by decide +kernel
theorem dM_copyCut_136 : decode prog_7_method_30_code 136 = .ok (.bipush 13, 2) := by decide +kernel
theorem dM_copyCut_138 : decode prog_7_method_30_code 138 = .ok (.if_icmp .ne 16, 3) := by decide +kernel
theorem dM_copyCut_141 : decode prog_7_method_30_code 141 = .ok (.aload_n 0, 1) := by decide +kernel
theorem dM_copyCut_142 : decode prog_7_method_30_code 142 = .ok (.dup, 1) := by decide +kernel
theorem dM_copyCut_143 : decode prog_7_method_30_code 143 = .ok (.getfield 139, 3) := by decide +kernel
theorem dM_copyCut_146 : decode prog_7_method_30_code 146 = .ok (.iconst 1, 1) := by decide +kernel
theorem dM_copyCut_147 : decode prog_7_method_30_code 147 = .ok (.isub, 1) := by decide +kernel
theorem dM_copyCut_148 : decode prog_7_method_30_code 148 = .ok (.putfield 139, 3) := by decide +kernel
theorem dM_copyCut_151 : decode prog_7_method_30_code 151 = .ok (.goto 72, 3) := by decide +kernel
theorem dM_copyCut_154 : decode prog_7_method_30_code 154 = .ok (.aload_n 0, 1) := by decide +kernel
theorem dM_copyCut_155 : decode prog_7_method_30_code 155 = .ok (.invokevirtual 75, 3) := by decide +kernel
theorem dM_copyCut_158 : decode prog_7_method_30_code 158 = .ok (.istore 7, 2) := by decide +kernel
theorem dM_copyCut_160 : decode prog_7_method_30_code 160 = .ok (.aload_n 0, 1) := by decide +kernel
theorem dM_copyCut_161 : decode prog_7_method_30_code 161 = .ok (.getfield 7, 3) := by decide +kernel
theorem dM_copyCut_164 : decode prog_7_method_30_code 164 = .ok (.iload 7, 2) := by decide +kernel
theorem dM_copyCut_166 : decode prog_7_method_30_code 166 = .ok (.aload_n 0, 1) := by decide +kernel
theorem dM_copyCut_167 : decode prog_7_method_30_code 167 = .ok (.getfield 35, 3) := by decide +kernel
theorem dM_copyCut_170 : decode prog_7_method_30_code 170 = .ok (.iload 5, 2) := by decide +kernel
theorem dM_copyCut_172 : decode prog_7_method_30_code 172 = .ok (.iaload, 1) := by decide +kernel
theorem dM_copyCut_173 : decode prog_7_method_30_code 173 = .ok (.iastore, 1) := by decide +kernel
theorem dM_copyCut_174 : decode prog_7_method_30_code 174 = .ok (.aload_n 0, 1) := by decide +kernel
theorem dM_copyCut_175 : decode prog_7_method_30_code 175 = .ok (.getfield 35, 3) := by decide +kernel
theorem dM_copyCut_178 : decode prog_7_method_30_code 178 = .ok (.iload 6, 2) := by decide +kernel
theorem dM_copyCut_180 : decode prog_7_method_30_code 180 = .ok (.iload 7, 2) := by decide +kernel
theorem dM_copyCut_182 : decode prog_7_method_30_code 182 = .ok (.iastore, 1) := by decide +kernel
theorem dM_copyCut_183 : decode prog_7_method_30_code 183 = .ok (.aload_n 0, 1) := by decide +kernel
theorem dM_copyCut_184 : decode prog_7_method_30_code 184 = .ok (.iload 6, 2) := by decide +kernel
theorem dM_copyCut_186 : decode prog_7_method_30_code 186 = .ok (.iload 7, 2) := by decide +kernel
theorem dM_copyCut_188 : decode prog_7_method_30_code 188 = .ok (.iload_n 3, 1) := by decide +kernel
theorem dM_copyCut_189 : decode prog_7_method_30_code 189 = .ok (.invokevirtual 135, 3) := by decide +kernel
theorem dM_copyCut_192 : decode prog_7_method_30_code 192 = .ok (.aload_n 0, 1) := by decide +kernel
theorem dM_copyCut_193 : decode prog_7_method_30_code 193 = .ok (.getfield 25, 3) := by decide +kernel
theorem dM_copyCut_196 : decode prog_7_method_30_code 196 = .ok (.aload_n 0, 1) := by decide +kernel
theorem dM_copyCut_197 : decode prog_7_method_30_code 197 = .ok (.getfield 139, 3) := by decide +kernel
theorem dM_copyCut_200 : decode prog_7_method_30_code 200 = .ok (.iload 6, 2) := by decide +kernel
theorem dM_copyCut_202 : decode prog_7_method_30_code 202 = .ok (.iastore, 1) := by decide +kernel
theorem dM_copyCut_203 : decode prog_7_method_30_code 203 = .ok (.aload_n 0, 1) := by decide +kernel
theorem dM_copyCut_204 : decode prog_7_method_30_code 204 = .ok (.getfield 28, 3) := by decide +kernel
theorem dM_copyCut_207 : decode prog_7_method_30_code 207 = .ok (.aload_n 0, 1) := by decide +kernel
theorem dM_copyCut_208 : decode prog_7_method_30_code 208 = .ok (.getfield 139, 3) := by decide +kernel
theorem dM_copyCut_211 : decode prog_7_method_30_code 211 = .ok (.iconst 0, 1) := by decide +kernel
theorem dM_copyCut_212 : decode prog_7_method_30_code 212 = .ok (.iastore, 1) := by decide +kernel
theorem dM_copyCut_213 : decode prog_7_method_30_code 213 = .ok (.aload_n 0, 1) := by decide +kernel
theorem dM_copyCut_214 : decode prog_7_method_30_code 214 = .ok (.dup, 1) := by decide +kernel
theorem dM_copyCut_215 : decode prog_7_method_30_code 215 = .ok (.getfield 139, 3) := by decide +kernel
theorem dM_copyCut_218 : decode prog_7_method_30_code 218 = .ok (.iconst 1, 1) := by decide +kernel
theorem dM_copyCut_219 : decode prog_7_method_30_code 219 = .ok (.iadd, 1) := by decide +kernel
theorem dM_copyCut_220 : decode prog_7_method_30_code 220 = .ok (.putfield 139, 3) := by decide +kernel
theorem dM_copyCut_223 : decode prog_7_method_30_code 223 = .ok (.goto (-164), 3) := by decide +kernel
theorem dM_copyCut_226 : decode prog_7_method_30_code 226 = .ok (.iload 4, 2) := by decide +kernel
theorem dM_copyCut_228 : decode prog_7_method_30_code 228 = .ok (.ireturn, 1) := by decide +kernel
theorem dM_isRoomFor_0 : decode prog_7_method_31_code 0 = .ok (.bipush 12, 2) := by decide +kernel
theorem dM_isRoomFor_2 : decode prog_7_method_31_code 2 = .ok (.aload_n 0, 1) := by decide +kernel
theorem dM_isRoomFor_3 : decode prog_7_method_31_code 3 = .ok (.iconst 1, 1) := by decide +kernel
theorem dM_isRoomFor_4 : decode prog_7_method_31_code 4 = .ok (.bipush 13, 2) := by decide +kernel
theorem dM_isRoomFor_6 : decode prog_7_method_31_code 6 = .ok (.invokevirtual 142, 3) := by decide +kernel
theorem dM_isRoomFor_9 : decode prog_7_method_31_code 9 = .ok (.isub, 1) := by decide +kernel
theorem dM_isRoomFor_10 : decode prog_7_method_31_code 10 = .ok (.istore_n 2, 1) := by decide +kernel
theorem dM_isRoomFor_11 : decode prog_7_method_31_code 11 = .ok (.bipush 6, 2) := by decide +kernel
theorem dM_isRoomFor_13 : decode prog_7_method_31_code 13 = .ok (.aload_n 0, 1) := by decide +kernel
theorem dM_isRoomFor_14 : decode prog_7_method_31_code 14 = .ok (.bipush 13, 2) := by decide +kernel
theorem dM_isRoomFor_16 : decode prog_7_method_31_code 16 = .ok (.bipush 19, 2) := by decide +kernel
theorem dM_isRoomFor_18 : decode prog_7_method_31_code 18 = .ok (.invokevirtual 142, 3) := by decide +kernel
theorem dM_isRoomFor_21 : decode prog_7_method_31_code 21 = .ok (.isub, 1) := by decide +kernel
theorem dM_isRoomFor_22 : decode prog_7_method_31_code 22 = .ok (.istore_n 3, 1) := by decide +kernel
theorem dM_isRoomFor_23 : decode prog_7_method_31_code 23 = .ok (.bipush 12, 2) := by decide +kernel
theorem dM_isRoomFor_25 : decode prog_7_method_31_code 25 = .ok (.aload_n 0, 1) := by decide +kernel
theorem dM_isRoomFor_26 : decode prog_7_method_31_code 26 = .ok (.bipush 19, 2) := by decide +kernel
theorem dM_isRoomFor_28 : decode prog_7_method_31_code 28 = .ok (.bipush 31, 2) := by decide +kernel
theorem dM_isRoomFor_30 : decode prog_7_method_31_code 30 = .ok (.invokevirtual 142, 3) := by decide +kernel
theorem dM_isRoomFor_33 : decode prog_7_method_31_code 33 = .ok (.isub, 1) := by decide +kernel
theorem dM_isRoomFor_34 : decode prog_7_method_31_code 34 = .ok (.istore 4, 2) := by decide +kernel
theorem dM_isRoomFor_36 : decode prog_7_method_31_code 36 = .ok (.iconst 1, 1) := by decide +kernel
theorem dM_isRoomFor_37 : decode prog_7_method_31_code 37 = .ok (.istore 5, 2) := by decide +kernel
theorem dM_isRoomFor_39 : decode prog_7_method_31_code 39 = .ok (.iload 5, 2) := by decide +kernel
theorem dM_isRoomFor_41 : decode prog_7_method_31_code 41 = .ok (.bipush 13, 2) := by decide +kernel
theorem dM_isRoomFor_43 : decode prog_7_method_31_code 43 = .ok (.if_icmp .ge 36, 3) := by decide +kernel
theorem dM_isRoomFor_46 : decode prog_7_method_31_code 46 = .ok (.iload_n 2, 1) := by decide +kernel
theorem dM_isRoomFor_47 : decode prog_7_method_31_code 47 = .ok (.aload_n 0, 1) := by decide +kernel
theorem dM_isRoomFor_48 : decode prog_7_method_31_code 48 = .ok (.iload 5, 2) := by decide +kernel
theorem dM_isRoomFor_50 : decode prog_7_method_31_code 50 = .ok (.invokevirtual 112, 3) := by decide +kernel
theorem dM_isRoomFor_53 : decode prog_7_method_31_code 53 = .ok (.ifCond .eq 17, 3) := by decide +kernel
theorem dM_isRoomFor_56 : decode prog_7_method_31_code 56 = .ok (.aload_n 0, 1) := by decide +kernel
theorem dM_isRoomFor_57 : decode prog_7_method_31_code 57 = .ok (.iload 5, 2) := by decide +kernel
theorem dM_isRoomFor_59 : decode prog_7_method_31_code 59 = .ok (.iload_n 1, 1) := by decide +kernel
theorem dM_isRoomFor_60 : decode prog_7_method_31_code 60 = .ok (.invokevirtual 92, 3) := by decide +kernel
theorem dM_isRoomFor_63 : decode prog_7_method_31_code 63 = .ok (.ifCond .eq 7, 3) := by decide +kernel
theorem dM_isRoomFor_66 : decode prog_7_method_31_code 66 = .ok (.iconst 1, 1) := by decide +kernel
theorem dM_isRoomFor_67 : decode prog_7_method_31_code 67 = .ok (.goto 4, 3) := by decide +kernel
theorem dM_isRoomFor_70 : decode prog_7_method_31_code 70 = .ok (.iconst 0, 1) := by decide +kernel
theorem dM_isRoomFor_71 : decode prog_7_method_31_code 71 = .ok (.isub, 1) := by decide +kernel
theorem dM_isRoomFor_72 : decode prog_7_method_31_code 72 = .ok (.istore_n 2, 1) := by decide +kernel
theorem dM_isRoomFor_73 : decode prog_7_method_31_code 73 = .ok (.iinc 5 1, 3) := by decide +kernel
theorem dM_isRoomFor_76 : decode prog_7_method_31_code 76 = .ok (.goto (-37), 3) := by decide +kernel
theorem dM_isRoomFor_79 : decode prog_7_method_31_code 79 = .ok (.iconst 0, 1) := by decide +kernel
theorem dM_isRoomFor_80 : decode prog_7_method_31_code 80 = .ok (.istore 5, 2) := by decide +kernel
theorem dM_isRoomFor_82 : decode prog_7_method_31_code 82 = .ok (.iload 5, 2) := by decide +kernel
theorem dM_isRoomFor_84 : decode prog_7_method_31_code 84 = .ok (.bipush 6, 2) := by decide +kernel
theorem dM_isRoomFor_86 : decode prog_7_method_31_code 86 = .ok (.if_icmp .ge 44, 3) := by decide +kernel
theorem dM_isRoomFor_89 : decode prog_7_method_31_code 89 = .ok (.iload_n 3, 1) := by decide +kernel
theorem dM_isRoomFor_90 : decode prog_7_method_31_code 90 = .ok (.aload_n 0, 1) := by decide +kernel
theorem dM_isRoomFor_91 : decode prog_7_method_31_code 91 = .ok (.iload 5, 2) := by decide +kernel
theorem dM_isRoomFor_93 : decode prog_7_method_31_code 93 = .ok (.invokevirtual 89, 3) := by decide +kernel
theorem dM_isRoomFor_96 : decode prog_7_method_31_code 96 = .ok (.ifCond .eq 25, 3) := by decide +kernel
theorem dM_isRoomFor_99 : decode prog_7_method_31_code 99 = .ok (.aload_n 0, 1) := by decide +kernel
theorem dM_isRoomFor_100 : decode prog_7_method_31_code 100 = .ok (.aload_n 0, 1) := by decide +kernel
theorem dM_isRoomFor_101 : decode prog_7_method_31_code 101 = .ok (.getfield 7, 3) := by decide +kernel
theorem dM_isRoomFor_104 : decode prog_7_method_31_code 104 = .ok (.bipush 13, 2) := by decide +kernel
theorem dM_isRoomFor_106 : decode prog_7_method_31_code 106 = .ok (.iload 5, 2) := by decide +kernel
theorem dM_isRoomFor_108 : decode prog_7_method_31_code 108 = .ok (.iadd, 1) := by decide +kernel
theorem dM_isRoomFor_109 : decode prog_7_method_31_code 109 = .ok (.iaload, 1) := by decide +kernel
theorem dM_isRoomFor_110 : decode prog_7_method_31_code 110 = .ok (.iload_n 1, 1) := by decide +kernel
theorem dM_isRoomFor_111 : decode prog_7_method_31_code 111 = .ok (.invokevirtual 92, 3) := by decide +kernel
theorem dM_isRoomFor_114 : decode prog_7_method_31_code 114 = .ok (.ifCond .eq 7, 3) := by decide +kernel
theorem dM_isRoomFor_117 : decode prog_7_method_31_code 117 = .ok (.iconst 1, 1) := by decide +kernel
theorem dM_isRoomFor_118 : decode prog_7_method_31_code 118 = .ok (.goto 4, 3) := by decide +kernel
theorem dM_isRoomFor_121 : decode prog_7_method_31_code 121 = .ok (.iconst 0, 1) := by decide +kernel
theorem dM_isRoomFor_122 : decode prog_7_method_31_code 122 = .ok (.isub, 1) := by decide +kernel
theorem dM_isRoomFor_123 : decode prog_7_method_31_code 123 = .ok (.istore_n 3, 1) := by decide +kernel
theorem dM_isRoomFor_124 : decode prog_7_method_31_code 124 = .ok (.iinc 5 1, 3) := by decide +kernel
theorem dM_isRoomFor_127 : decode prog_7_method_31_code 127 = .ok (.goto (-45), 3) := by decide +kernel
theorem dM_isRoomFor_130 : decode prog_7_method_31_code 130 = .ok (.iconst 0, 1) := by decide +kernel
theorem dM_isRoomFor_131 : decode prog_7_method_31_code 131 = .ok (.istore 5, 2) := by decide +kernel
theorem dM_isRoomFor_133 : decode prog_7_method_31_code 133 = .ok (.iload 5, 2) := by decide +kernel
theorem dM_isRoomFor_135 : decode prog_7_method_31_code 135 = .ok (.bipush 12, 2) := by decide +kernel
theorem dM_isRoomFor_137 : decode prog_7_method_31_code 137 = .ok (.if_icmp .ge 46, 3) := by decide +kernel
theorem dM_isRoomFor_140 : decode prog_7_method_31_code 140 = .ok (.iload 4, 2) := by decide +kernel
theorem dM_isRoomFor_142 : decode prog_7_method_31_code 142 = .ok (.aload_n 0, 1) := by decide +kernel
theorem dM_isRoomFor_143 : decode prog_7_method_31_code 143 = .ok (.iload 5, 2) := by decide +kernel
theorem dM_isRoomFor_145 : decode prog_7_method_31_code 145 = .ok (.invokevirtual 105, 3) := by decide +kernel
theorem dM_isRoomFor_148 : decode prog_7_method_31_code 148 = .ok (.ifCond .eq 25, 3) := by decide +kernel
theorem dM_isRoomFor_151 : decode prog_7_method_31_code 151 = .ok (.aload_n 0, 1) := by decide +kernel
theorem dM_isRoomFor_152 : decode prog_7_method_31_code 152 = .ok (.aload_n 0, 1) := by decide +kernel
theorem dM_isRoomFor_153 : decode prog_7_method_31_code 153 = .ok (.getfield 7, 3) := by decide +kernel
theorem dM_isRoomFor_156 : decode prog_7_method_31_code 156 = .ok (.bipush 19, 2) := by decide +kernel
theorem dM_isRoomFor_158 : decode prog_7_method_31_code 158 = .ok (.iload 5, 2) := by decide +kernel
theorem dM_isRoomFor_160 : decode prog_7_method_31_code 160 = .ok (.iadd, 1) := by decide +kernel
theorem dM_isRoomFor_161 : decode prog_7_method_31_code 161 = .ok (.iaload, 1) := by decide +kernel
theorem dM_isRoomFor_162 : decode prog_7_method_31_code 162 = .ok (.iload_n 1, 1) := by decide +kernel
theorem dM_isRoomFor_163 : decode prog_7_method_31_code 163 = .ok (.invokevirtual 92, 3) := by decide +kernel
theorem dM_isRoomFor_166 : decode prog_7_method_31_code 166 = .ok (.ifCond .eq 7, 3) := by decide +kernel
theorem dM_isRoomFor_169 : decode prog_7_method_31_code 169 = .ok (.iconst 1, 1) := by decide +kernel
theorem dM_isRoomFor_170 : decode prog_7_method_31_code 170 = .ok (.goto 4, 3) := by decide +kernel
theorem dM_isRoomFor_173 : decode prog_7_method_31_code 173 = .ok (.iconst 0, 1) := by decide +kernel
theorem dM_isRoomFor_174 : decode prog_7_method_31_code 174 = .ok (.isub, 1) := by decide +kernel
theorem dM_isRoomFor_175 : decode prog_7_method_31_code 175 = .ok (.istore 4, 2) := by decide +kernel
theorem dM_isRoomFor_177 : decode prog_7_method_31_code 177 = .ok (.iinc 5 1, 3) := by decide +kernel
theorem dM_isRoomFor_180 : decode prog_7_method_31_code 180 = .ok (.goto (-47), 3) := by decide +kernel
theorem dM_isRoomFor_183 : decode prog_7_method_31_code 183 = .ok (.iload_n 2, 1) := by decide +kernel
theorem dM_isRoomFor_184 : decode prog_7_method_31_code 184 = .ok (.ifCond .lt 16, 3) := by decide +kernel
theorem dM_isRoomFor_187 : decode prog_7_method_31_code 187 = .ok (.iload_n 3, 1) := by decide +kernel
theorem dM_isRoomFor_188 : decode prog_7_method_31_code 188 = .ok (.ifCond .lt 12, 3) := by decide +kernel
theorem dM_isRoomFor_191 : decode prog_7_method_31_code 191 = .ok (.iload 4, 2) := by decide +kernel
theorem dM_isRoomFor_193 : decode prog_7_method_31_code 193 = .ok (.ifCond .lt 7, 3) := by decide +kernel
theorem dM_isRoomFor_196 : decode prog_7_method_31_code 196 = .ok (.iconst 1, 1) := by decide +kernel
theorem dM_isRoomFor_197 : decode prog_7_method_31_code 197 = .ok (.goto 4, 3) := by decide +kernel
theorem dM_isRoomFor_200 : decode prog_7_method_31_code 200 = .ok (.iconst 0, 1) := by decide +kernel
theorem dM_isRoomFor_201 : decode prog_7_method_31_code 201 = .ok (.ireturn, 1) := by decide +kernel
theorem dM_copy_0 : decode prog_7_method_32_code 0 = .ok (.aload_n 0, 1) := by decide +kernel
theorem dM_copy_1 : decode prog_7_method_32_code 1 = .ok (.aload_n 0, 1) := by decide +kernel
theorem dM_copy_2 : decode prog_7_method_32_code 2 = .ok (.iload_n 1, 1) := by decide +kernel
theorem dM_copy_3 : decode prog_7_method_32_code 3 = .ok (.iload_n 2, 1) := by decide +kernel
theorem dM_copy_4 : decode prog_7_method_32_code 4 = .ok (.invokevirtual 115, 3) := by decide +kernel
theorem dM_copy_7 : decode prog_7_method_32_code 7 = .ok (.ifCond .ne 11, 3) := by decide +kernel
theorem dM_copy_10 : decode prog_7_method_32_code 10 = .ok (.aload_n 0, 1) := by decide +kernel
theorem dM_copy_11 : decode prog_7_method_32_code 11 = .ok (.iload_n 3, 1) := by decide +kernel
theorem dM_copy_12 : decode prog_7_method_32_code 12 = .ok (.invokevirtual 60, 3) := by decide +kernel
theorem dM_copy_15 : decode prog_7_method_32_code 15 = .ok (.ifCond .ne 7, 3) := by decide +kernel
theorem dM_copy_18 : decode prog_7_method_32_code 18 = .ok (.iconst 1, 1) := by decide +kernel
theorem dM_copy_19 : decode prog_7_method_32_code 19 = .ok (.goto 4, 3) := by decide +kernel
theorem dM_copy_22 : decode prog_7_method_32_code 22 = .ok (.iconst 0, 1) := by decide +kernel
theorem dM_copy_23 : decode prog_7_method_32_code 23 = .ok (.putfield 56, 3) := by decide +kernel
theorem dM_copy_26 : decode prog_7_method_32_code 26 = .ok (.aload_n 0, 1) := by decide +kernel
theorem dM_copy_27 : decode prog_7_method_32_code 27 = .ok (.getfield 56, 3) := by decide +kernel
theorem dM_copy_30 : decode prog_7_method_32_code 30 = .ok (.ifCond .eq 5, 3) := by decide +kernel
theorem dM_copy_33 : decode prog_7_method_32_code 33 = .ok (.iconst 0, 1) := by decide +kernel
theorem dM_copy_34 : decode prog_7_method_32_code 34 = .ok (.ireturn, 1) := by decide +kernel
theorem dM_copy_35 : decode prog_7_method_32_code 35 = .ok (.aload_n 0, 1) := by decide +kernel
theorem dM_copy_36 : decode prog_7_method_32_code 36 = .ok (.getfield 64, 3) := by decide +kernel
theorem dM_copy_39 : decode prog_7_method_32_code 39 = .ok (.ifCond .eq 35, 3) := by decide +kernel
theorem dM_copy_42 : decode prog_7_method_32_code 42 = .ok (.aload_n 0, 1) := by decide +kernel
theorem dM_copy_43 : decode prog_7_method_32_code 43 = .ok (.iload_n 3, 1) := by decide +kernel
theorem dM_copy_44 : decode prog_7_method_32_code 44 = .ok (.aload_n 0, 1) := by decide +kernel
theorem dM_copy_45 : decode prog_7_method_32_code 45 = .ok (.iload_n 1, 1) := by decide +kernel
theorem dM_copy_46 : decode prog_7_method_32_code 46 = .ok (.iload_n 2, 1) := by decide +kernel
theorem dM_copy_47 : decode prog_7_method_32_code 47 = .ok (.invokevirtual 118, 3) := by decide +kernel
theorem dM_copy_50 : decode prog_7_method_32_code 50 = .ok (.invokevirtual 92, 3) := by decide +kernel
theorem dM_copy_53 : decode prog_7_method_32_code 53 = .ok (.ifCond .eq 21, 3) := by decide +kernel
theorem dM_copy_56 : decode prog_7_method_32_code 56 = .ok (.iload_n 1, 1) := by decide +kernel
theorem dM_copy_57 : decode prog_7_method_32_code 57 = .ok (.iconst 1, 1) := by decide +kernel
theorem dM_copy_58 : decode prog_7_method_32_code 58 = .ok (.if_icmp .ne 12, 3) := by decide +kernel
theorem dM_copy_61 : decode prog_7_method_32_code 61 = .ok (.aload_n 0, 1) := by decide +kernel
theorem dM_copy_62 : decode prog_7_method_32_code 62 = .ok (.iload_n 3, 1) := by decide +kernel
theorem dM_copy_63 : decode prog_7_method_32_code 63 = .ok (.iload_n 2, 1) := by decide +kernel
theorem dM_copy_64 : decode prog_7_method_32_code 64 = .ok (.invokevirtual 92, 3) := by decide +kernel
theorem dM_copy_67 : decode prog_7_method_32_code 67 = .ok (.ifCond .ne 7, 3) := by decide +kernel
theorem dM_copy_70 : decode prog_7_method_32_code 70 = .ok (.iconst 1, 1) := by decide +kernel
theorem dM_copy_71 : decode prog_7_method_32_code 71 = .ok (.goto 4, 3) := by decide +kernel
theorem dM_copy_74 : decode prog_7_method_32_code 74 = .ok (.iconst 0, 1) := by decide +kernel
theorem dM_copy_75 : decode prog_7_method_32_code 75 = .ok (.istore 4, 2) := by decide +kernel
theorem dM_copy_77 : decode prog_7_method_32_code 77 = .ok (.iload_n 1, 1) := by decide +kernel
theorem dM_copy_78 : decode prog_7_method_32_code 78 = .ok (.ifCond .ne 20, 3) := by decide +kernel
theorem dM_copy_81 : decode prog_7_method_32_code 81 = .ok (.aload_n 0, 1) := by decide +kernel
theorem dM_copy_82 : decode prog_7_method_32_code 82 = .ok (.invokevirtual 102, 3) := by decide +kernel
theorem dM_copy_85 : decode prog_7_method_32_code 85 = .ok (.bipush 12, 2) := by decide +kernel
theorem dM_copy_87 : decode prog_7_method_32_code 87 = .ok (.if_icmp .ge 7, 3) := by decide +kernel
theorem dM_copy_90 : decode prog_7_method_32_code 90 = .ok (.iconst 1, 1) := by decide +kernel
theorem dM_copy_91 : decode prog_7_method_32_code 91 = .ok (.goto 12, 3) := by decide +kernel
theorem dM_copy_94 : decode prog_7_method_32_code 94 = .ok (.iconst 0, 1) := by decide +kernel
theorem dM_copy_95 : decode prog_7_method_32_code 95 = .ok (.goto 8, 3) := by decide +kernel
theorem dM_copy_98 : decode prog_7_method_32_code 98 = .ok (.aload_n 0, 1) := by decide +kernel
theorem dM_copy_99 : decode prog_7_method_32_code 99 = .ok (.iload_n 2, 1) := by decide +kernel
theorem dM_copy_100 : decode prog_7_method_32_code 100 = .ok (.invokevirtual 145, 3) := by decide +kernel
theorem dM_copy_103 : decode prog_7_method_32_code 103 = .ok (.istore 5, 2) := by decide +kernel
theorem dM_copy_105 : decode prog_7_method_32_code 105 = .ok (.aload_n 0, 1) := by decide +kernel
theorem dM_copy_106 : decode prog_7_method_32_code 106 = .ok (.iload 4, 2) := by decide +kernel
theorem dM_copy_108 : decode prog_7_method_32_code 108 = .ok (.ifCond .ne 7, 3) := by decide +kernel
theorem dM_copy_111 : decode prog_7_method_32_code 111 = .ok (.iconst 2, 1) := by decide +kernel
theorem dM_copy_112 : decode prog_7_method_32_code 112 = .ok (.goto 16, 3) := by decide +kernel
theorem dM_copy_115 : decode prog_7_method_32_code 115 = .ok (.iload 5, 2) := by decide +kernel
theorem dM_copy_117 : decode prog_7_method_32_code 117 = .ok (.ifCond .ne 7, 3) := by decide +kernel
theorem dM_copy_120 : decode prog_7_method_32_code 120 = .ok (.iconst 3, 1) := by decide +kernel
theorem dM_copy_121 : decode prog_7_method_32_code 121 = .ok (.goto 7, 3) := by decide +kernel
theorem dM_copy_124 : decode prog_7_method_32_code 124 = .ok (.aload_n 0, 1) := by decide +kernel
theorem dM_copy_125 : decode prog_7_method_32_code 125 = .ok (.invokevirtual 125, 3) := by decide +kernel
theorem dM_copy_128 : decode prog_7_method_32_code 128 = .ok (.putfield 56, 3) := by decide +kernel
theorem dM_copy_131 : decode prog_7_method_32_code 131 = .ok (.aload_n 0, 1) := by decide +kernel
theorem dM_copy_132 : decode prog_7_method_32_code 132 = .ok (.getfield 56, 3) := by decide +kernel
theorem dM_copy_135 : decode prog_7_method_32_code 135 = .ok (.ifCond .eq 5, 3) := by decide +kernel
theorem dM_copy_138 : decode prog_7_method_32_code 138 = .ok (.iconst 0, 1) := by decide +kernel
theorem dM_copy_139 : decode prog_7_method_32_code 139 = .ok (.ireturn, 1) := by decide +kernel
theorem dM_copy_140 : decode prog_7_method_32_code 140 = .ok (.aload_n 0, 1) := by decide +kernel
theorem dM_copy_141 : decode prog_7_method_32_code 141 = .ok (.invokevirtual 83, 3) := by decide +kernel
theorem dM_copy_144 : decode prog_7_method_32_code 144 = .ok (.iconst 0, 1) := by decide +kernel
theorem dM_copy_145 : decode prog_7_method_32_code 145 = .ok (.istore 6, 2) := by decide +kernel
theorem dM_copy_147 : decode prog_7_method_32_code 147 = .ok (.iload 6, 2) := by decide +kernel
theorem dM_copy_149 : decode prog_7_method_32_code 149 = .ok (.bipush 6, 2) := by decide +kernel
theorem dM_copy_151 : decode prog_7_method_32_code 151 = .ok (.if_icmp .ge 17, 3) := by decide +kernel
theorem dM_copy_154 : decode prog_7_method_32_code 154 = .ok (.aload_n 0, 1) := by decide +kernel
theorem dM_copy_155 : decode prog_7_method_32_code 155 = .ok (.getfield 38, 3) := by decide +kernel
theorem dM_copy_158 : decode prog_7_method_32_code 158 = .ok (.iload 6, 2) := by decide +kernel
theorem dM_copy_160 : decode prog_7_method_32_code 160 = .ok (.iconst (-1), 1) := by decide +kernel
theorem dM_copy_161 : decode prog_7_method_32_code 161 = .ok (.iastore, 1) := by decide +kernel
theorem dM_copy_162 : decode prog_7_method_32_code 162 = .ok (.iinc 6 1, 3) := by decide +kernel
theorem dM_copy_165 : decode prog_7_method_32_code 165 = .ok (.goto (-18), 3) := by decide +kernel
theorem dM_copy_168 : decode prog_7_method_32_code 168 = .ok (.iload_n 1, 1) := by decide +kernel
theorem dM_copy_169 : decode prog_7_method_32_code 169 = .ok (.iconst 1, 1) := by decide +kernel
theorem dM_copy_170 : decode prog_7_method_32_code 170 = .ok (.if_icmp .ne 10, 3) := by decide +kernel
theorem dM_copy_173 : decode prog_7_method_32_code 173 = .ok (.aload_n 0, 1) := by decide +kernel
theorem dM_copy_174 : decode prog_7_method_32_code 174 = .ok (.iload_n 2, 1) := by decide +kernel
theorem dM_copy_175 : decode prog_7_method_32_code 175 = .ok (.iload_n 3, 1) := by decide +kernel
theorem dM_copy_176 : decode prog_7_method_32_code 176 = .ok (.invokevirtual 148, 3) := by decide +kernel
theorem dM_copy_179 : decode prog_7_method_32_code 179 = .ok (.ireturn, 1) := by decide +kernel
theorem dM_copy_180 : decode prog_7_method_32_code 180 = .ok (.aload_n 0, 1) := by decide +kernel
theorem dM_copy_181 : decode prog_7_method_32_code 181 = .ok (.invokevirtual 102, 3) := by decide +kernel
theorem dM_copy_184 : decode prog_7_method_32_code 184 = .ok (.istore 6, 2) := by decide +kernel
theorem dM_copy_186 : decode prog_7_method_32_code 186 = .ok (.aload_n 0, 1) := by decide +kernel
theorem dM_copy_187 : decode prog_7_method_32_code 187 = .ok (.iload_n 2, 1) := by decide +kernel
theorem dM_copy_188 : decode prog_7_method_32_code 188 = .ok (.iload_n 3, 1) := by decide +kernel
theorem dM_copy_189 : decode prog_7_method_32_code 189 = .ok (.invokevirtual 131, 3) := by decide +kernel
theorem dM_copy_192 : decode prog_7_method_32_code 192 = .ok (.iload 6, 2) := by decide +kernel
theorem dM_copy_194 : decode prog_7_method_32_code 194 = .ok (.ireturn, 1) := by decide +kernel
theorem dM_add_0 : decode prog_7_method_33_code 0 = .ok (.aload_n 0, 1) := by decide +kernel
theorem dM_add_1 : decode prog_7_method_33_code 1 = .ok (.getfield 16, 3) := by decide +kernel
theorem dM_add_4 : decode prog_7_method_33_code 4 = .ok (.aload_n 0, 1) := by decide +kernel
theorem dM_add_5 : decode prog_7_method_33_code 5 = .ok (.getfield 151, 3) := by decide +kernel
theorem dM_add_8 : decode prog_7_method_33_code 8 = .ok (.iload_n 1, 1) := by decide +kernel
theorem dM_add_9 : decode prog_7_method_33_code 9 = .ok (.iastore, 1) := by decide +kernel
theorem dM_add_10 : decode prog_7_method_33_code 10 = .ok (.aload_n 0, 1) := by decide +kernel
theorem dM_add_11 : decode prog_7_method_33_code 11 = .ok (.dup, 1) := by decide +kernel
theorem dM_add_12 : decode prog_7_method_33_code 12 = .ok (.getfield 151, 3) := by decide +kernel
theorem dM_add_15 : decode prog_7_method_33_code 15 = .ok (.iconst 1, 1) := by decide +kernel
theorem dM_add_16 : decode prog_7_method_33_code 16 = .ok (.iadd, 1) := by decide +kernel
theorem dM_add_17 : decode prog_7_method_33_code 17 = .ok (.putfield 151, 3) := by decide +kernel
theorem dM_add_20 : decode prog_7_method_33_code 20 = .ok (.return_, 1) := by decide +kernel
theorem dM_readOwn_0 : decode prog_7_method_34_code 0 = .ok (.iconst 0, 1) := by decide +kernel
theorem dM_readOwn_1 : decode prog_7_method_34_code 1 = .ok (.istore_n 2, 1) := by decide +kernel
theorem dM_readOwn_2 : decode prog_7_method_34_code 2 = .ok (.iload_n 2, 1) := by decide +kernel
theorem dM_readOwn_3 : decode prog_7_method_34_code 3 = .ok (.bipush 6, 2) := by decide +kernel
theorem dM_readOwn_5 : decode prog_7_method_34_code 5 = .ok (.if_icmp .ge 30, 3) := by decide +kernel
theorem dM_readOwn_8 : decode prog_7_method_34_code 8 = .ok (.aload_n 0, 1) := by decide +kernel
theorem dM_readOwn_9 : decode prog_7_method_34_code 9 = .ok (.getfield 7, 3) := by decide +kernel
theorem dM_readOwn_12 : decode prog_7_method_34_code 12 = .ok (.bipush 13, 2) := by decide +kernel
theorem dM_readOwn_14 : decode prog_7_method_34_code 14 = .ok (.iload_n 2, 1) := by decide +kernel
theorem dM_readOwn_15 : decode prog_7_method_34_code 15 = .ok (.iadd, 1) := by decide +kernel
theorem dM_readOwn_16 : decode prog_7_method_34_code 16 = .ok (.iaload, 1) := by decide +kernel
theorem dM_readOwn_17 : decode prog_7_method_34_code 17 = .ok (.iload_n 1, 1) := by decide +kernel
theorem dM_readOwn_18 : decode prog_7_method_34_code 18 = .ok (.if_icmp .ne 11, 3) := by decide +kernel
theorem dM_readOwn_21 : decode prog_7_method_34_code 21 = .ok (.aload_n 0, 1) := by decide +kernel
theorem dM_readOwn_22 : decode prog_7_method_34_code 22 = .ok (.bipush 100, 2) := by decide +kernel
theorem dM_readOwn_24 : decode prog_7_method_34_code 24 = .ok (.iload_n 2, 1) := by decide +kernel
theorem dM_readOwn_25 : decode prog_7_method_34_code 25 = .ok (.iadd, 1) := by decide +kernel
theorem dM_readOwn_26 : decode prog_7_method_34_code 26 = .ok (.invokevirtual 154, 3) := by decide +kernel
theorem dM_readOwn_29 : decode prog_7_method_34_code 29 = .ok (.iinc 2 1, 3) := by decide +kernel
theorem dM_readOwn_32 : decode prog_7_method_34_code 32 = .ok (.goto (-30), 3) := by decide +kernel
theorem dM_readOwn_35 : decode prog_7_method_34_code 35 = .ok (.iconst 0, 1) := by decide +kernel
theorem dM_readOwn_36 : decode prog_7_method_34_code 36 = .ok (.istore_n 2, 1) := by decide +kernel
theorem dM_readOwn_37 : decode prog_7_method_34_code 37 = .ok (.iload_n 2, 1) := by decide +kernel
theorem dM_readOwn_38 : decode prog_7_method_34_code 38 = .ok (.bipush 12, 2) := by decide +kernel
theorem dM_readOwn_40 : decode prog_7_method_34_code 40 = .ok (.if_icmp .ge 27, 3) := by decide +kernel
theorem dM_readOwn_43 : decode prog_7_method_34_code 43 = .ok (.aload_n 0, 1) := by decide +kernel
theorem dM_readOwn_44 : decode prog_7_method_34_code 44 = .ok (.getfield 7, 3) := by decide +kernel
theorem dM_readOwn_47 : decode prog_7_method_34_code 47 = .ok (.bipush 19, 2) := by decide +kernel
theorem dM_readOwn_49 : decode prog_7_method_34_code 49 = .ok (.iload_n 2, 1) := by decide +kernel
theorem dM_readOwn_50 : decode prog_7_method_34_code 50 = .ok (.iadd, 1) := by decide +kernel
theorem dM_readOwn_51 : decode prog_7_method_34_code 51 = .ok (.iaload, 1) := by decide +kernel
theorem dM_readOwn_52 : decode prog_7_method_34_code 52 = .ok (.iload_n 1, 1) := by decide +kernel
theorem dM_readOwn_53 : decode prog_7_method_34_code 53 = .ok (.if_icmp .ne 8, 3) := by decide +kernel
theorem dM_readOwn_56 : decode prog_7_method_34_code 56 = .ok (.aload_n 0, 1) := by decide +kernel
theorem dM_readOwn_57 : decode prog_7_method_34_code 57 = .ok (.iload_n 2, 1) := by decide +kernel
theorem dM_readOwn_58 : decode prog_7_method_34_code 58 = .ok (.invokevirtual 157, 3) := by decide +kernel
theorem dM_readOwn_61 : decode prog_7_method_34_code 61 = .ok (.iinc 2 1, 3) := by decide +kernel
theorem dM_readOwn_64 : decode prog_7_method_34_code 64 = .ok (.goto (-27), 3) := by decide +kernel
theorem dM_readOwn_67 : decode prog_7_method_34_code 67 = .ok (.return_, 1) := by decide +kernel
theorem dM_readSpot_0 : decode prog_7_method_35_code 0 = .ok (.aload_n 0, 1) := by decide +kernel
theorem dM_readSpot_1 : decode prog_7_method_35_code 1 = .ok (.getfield 7, 3) := by decide +kernel
theorem dM_readSpot_4 : decode prog_7_method_35_code 4 = .ok (.bipush 31, 2) := by decide +kernel
theorem dM_readSpot_6 : decode prog_7_method_35_code 6 = .ok (.iload_n 1, 1) := by decide +kernel
theorem dM_readSpot_7 : decode prog_7_method_35_code 7 = .ok (.iadd, 1) := by decide +kernel
theorem dM_readSpot_8 : decode prog_7_method_35_code 8 = .ok (.iaload, 1) := by decide +kernel
theorem dM_readSpot_9 : decode prog_7_method_35_code 9 = .ok (.istore_n 2, 1) := by decide +kernel
theorem dM_readSpot_10 : decode prog_7_method_35_code 10 = .ok (.aload_n 0, 1) := by decide +kernel
theorem dM_readSpot_11 : decode prog_7_method_35_code 11 = .ok (.bipush 10, 2) := by decide +kernel
theorem dM_readSpot_13 : decode prog_7_method_35_code 13 = .ok (.iload_n 2, 1) := by decide +kernel
theorem dM_readSpot_14 : decode prog_7_method_35_code 14 = .ok (.iadd, 1) := by decide +kernel
theorem dM_readSpot_15 : decode prog_7_method_35_code 15 = .ok (.invokevirtual 154, 3) := by decide +kernel
theorem dM_readSpot_18 : decode prog_7_method_35_code 18 = .ok (.iconst 0, 1) := by decide +kernel
theorem dM_readSpot_19 : decode prog_7_method_35_code 19 = .ok (.istore_n 3, 1) := by decide +kernel
theorem dM_readSpot_20 : decode prog_7_method_35_code 20 = .ok (.iload_n 3, 1) := by decide +kernel
theorem dM_readSpot_21 : decode prog_7_method_35_code 21 = .ok (.aload_n 0, 1) := by decide +kernel
theorem dM_readSpot_22 : decode prog_7_method_35_code 22 = .ok (.iload_n 2, 1) := by decide +kernel
theorem dM_readSpot_23 : decode prog_7_method_35_code 23 = .ok (.invokevirtual 96, 3) := by decide +kernel
theorem dM_readSpot_26 : decode prog_7_method_35_code 26 = .ok (.if_icmp .ge 29, 3) := by decide +kernel
theorem dM_readSpot_29 : decode prog_7_method_35_code 29 = .ok (.aload_n 0, 1) := by decide +kernel
theorem dM_readSpot_30 : decode prog_7_method_35_code 30 = .ok (.bipush 100, 2) := by decide +kernel
theorem dM_readSpot_32 : decode prog_7_method_35_code 32 = .ok (.aload_n 0, 1) := by decide +kernel
theorem dM_readSpot_33 : decode prog_7_method_35_code 33 = .ok (.getfield 7, 3) := by decide +kernel
theorem dM_readSpot_36 : decode prog_7_method_35_code 36 = .ok (.bipush 43, 2) := by decide +kernel
theorem dM_readSpot_38 : decode prog_7_method_35_code 38 = .ok (.iconst 2, 1) := by decide +kernel
theorem dM_readSpot_39 : decode prog_7_method_35_code 39 = .ok (.iload_n 1, 1) := by decide +kernel
theorem dM_readSpot_40 : decode prog_7_method_35_code 40 = .ok (.imul, 1) := by decide +kernel
theorem dM_readSpot_41 : decode prog_7_method_35_code 41 = .ok (.iadd, 1) := by decide +kernel
theorem dM_readSpot_42 : decode prog_7_method_35_code 42 = .ok (.iload_n 3, 1) := by decide +kernel
theorem dM_readSpot_43 : decode prog_7_method_35_code 43 = .ok (.iadd, 1) := by decide +kernel
theorem dM_readSpot_44 : decode prog_7_method_35_code 44 = .ok (.iaload, 1) := by decide +kernel
theorem dM_readSpot_45 : decode prog_7_method_35_code 45 = .ok (.iadd, 1) := by decide +kernel
theorem dM_readSpot_46 : decode prog_7_method_35_code 46 = .ok (.invokevirtual 154, 3) := by decide +kernel
theorem dM_readSpot_49 : decode prog_7_method_35_code 49 = .ok (.iinc 3 1, 3) := by decide +kernel
theorem dM_readSpot_52 : decode prog_7_method_35_code 52 = .ok (.goto (-32), 3) := by decide +kernel
theorem dM_readSpot_55 : decode prog_7_method_35_code 55 = .ok (.return_, 1) := by decide +kernel
theorem dM_readArea_0 : decode prog_7_method_36_code 0 = .ok (.aload_n 0, 1) := by decide +kernel
theorem dM_readArea_1 : decode prog_7_method_36_code 1 = .ok (.iconst 0, 1) := by decide +kernel
theorem dM_readArea_2 : decode prog_7_method_36_code 2 = .ok (.putfield 151, 3) := by decide +kernel
theorem dM_readArea_5 : decode prog_7_method_36_code 5 = .ok (.aload_n 0, 1) := by decide +kernel
theorem dM_readArea_6 : decode prog_7_method_36_code 6 = .ok (.iload_n 1, 1) := by decide +kernel
theorem dM_readArea_7 : decode prog_7_method_36_code 7 = .ok (.invokevirtual 160, 3) := by decide +kernel
theorem dM_readArea_10 : decode prog_7_method_36_code 10 = .ok (.aload_n 0, 1) := by decide +kernel
theorem dM_readArea_11 : decode prog_7_method_36_code 11 = .ok (.iconst 1, 1) := by decide +kernel
theorem dM_readArea_12 : decode prog_7_method_36_code 12 = .ok (.putfield 139, 3) := by decide +kernel
theorem dM_readArea_15 : decode prog_7_method_36_code 15 = .ok (.aload_n 0, 1) := by decide +kernel
theorem dM_readArea_16 : decode prog_7_method_36_code 16 = .ok (.getfield 25, 3) := by decide +kernel
theorem dM_readArea_19 : decode prog_7_method_36_code 19 = .ok (.iconst 0, 1) := by decide +kernel
theorem dM_readArea_20 : decode prog_7_method_36_code 20 = .ok (.iload_n 1, 1) := by decide +kernel
theorem dM_readArea_21 : decode prog_7_method_36_code 21 = .ok (.iastore, 1) := by decide +kernel
theorem dM_readArea_22 : decode prog_7_method_36_code 22 = .ok (.aload_n 0, 1) := by decide +kernel
theorem dM_readArea_23 : decode prog_7_method_36_code 23 = .ok (.getfield 28, 3) := by decide +kernel
theorem dM_readArea_26 : decode prog_7_method_36_code 26 = .ok (.iconst 0, 1) := by decide +kernel
theorem dM_readArea_27 : decode prog_7_method_36_code 27 = .ok (.iconst 0, 1) := by decide +kernel
theorem dM_readArea_28 : decode prog_7_method_36_code 28 = .ok (.iastore, 1) := by decide +kernel
theorem dM_readArea_29 : decode prog_7_method_36_code 29 = .ok (.aload_n 0, 1) := by decide +kernel
