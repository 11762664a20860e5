/-! printed by wip/whole/gen_names.py: decode rows -/
theorem dM_readArea_30 : decode prog_7_method_36_code 30 = .ok (.getfield 139, 3) := by decide +kernel
theorem dM_readArea_33 : decode prog_7_method_36_code 33 = .ok (.ifCond .le 137, 3) := by decide +kernel
theorem dM_readArea_36 : decode prog_7_method_36_code 36 = .ok (.aload_n 0, 1) := by decide +kernel
theorem dM_readArea_37 : decode prog_7_method_36_code 37 = .ok (.getfield 25, 3) := by decide +kernel
theorem dM_readArea_40 : decode prog_7_method_36_code 40 = .ok (.aload_n 0, 1) := by decide +kernel
theorem dM_readArea_41 : decode prog_7_method_36_code 41 = .ok (.getfield 139, 3) := by decide +kernel
theorem dM_readArea_44 : decode prog_7_method_36_code 44 = .ok (.iconst 1, 1) := by decide +kernel
theorem dM_readArea_45 : decode prog_7_method_36_code 45 = .ok (.isub, 1) := by decide +kernel
theorem dM_readArea_46 : decode prog_7_method_36_code 46 = .ok (.iaload, 1) := by decide +kernel
theorem dM_readArea_47 : decode prog_7_method_36_code 47 = .ok (.istore_n 2, 1) := by decide +kernel
theorem dM_readArea_48 : decode prog_7_method_36_code 48 = .ok (.aload_n 0, 1) := by decide +kernel
theorem dM_readArea_49 : decode prog_7_method_36_code 49 = .ok (.getfield 28, 3) := by decide +kernel
theorem dM_readArea_52 : decode prog_7_method_36_code 52 = .ok (.aload_n 0, 1) := by decide +kernel
theorem dM_readArea_53 : decode prog_7_method_36_code 53 = .ok (.getfield 139, 3) := by decide +kernel
theorem dM_readArea_56 : decode prog_7_method_36_code 56 = .ok (.iconst 1, 1) := by decide +kernel
theorem dM_readArea_57 : decode prog_7_method_36_code 57 = .ok (.isub, 1) := by decide +kernel
theorem dM_readArea_58 : decode prog_7_method_36_code 58 = .ok (.iaload, 1) := by decide +kernel
theorem dM_readArea_59 : decode prog_7_method_36_code 59 = .ok (.iconst 1, 1) := by decide +kernel
theorem dM_readArea_60 : decode prog_7_method_36_code 60 = .ok (.iadd, 1) := by decide +kernel
theorem dM_readArea_61 : decode prog_7_method_36_code 61 = .ok (.istore_n 3, 1) := by decide +kernel
theorem dM_readArea_62 : decode prog_7_method_36_code 62 = .ok (.iload_n 3, 1) := by decide +kernel
theorem dM_readArea_63 : decode prog_7_method_36_code 63 = .ok (.bipush 13, 2) := by decide +kernel
theorem dM_readArea_65 : decode prog_7_method_36_code 65 = .ok (.if_icmp .ge 19, 3) := by decide +kernel
theorem dM_readArea_68 : decode prog_7_method_36_code 68 = .ok (.aload_n 0, 1) := by decide +kernel
theorem dM_readArea_69 : decode prog_7_method_36_code 69 = .ok (.getfield 7, 3) := by decide +kernel
theorem dM_readArea_72 : decode prog_7_method_36_code 72 = .ok (.iload_n 3, 1) := by decide +kernel
theorem dM_readArea_73 : decode prog_7_method_36_code 73 = .ok (.iaload, 1) := by decide +kernel
theorem dM_readArea_74 : decode prog_7_method_36_code 74 = .ok (.iload_n 2, 1) := by decide +kernel
theorem dM_readArea_75 : decode prog_7_method_36_code 75 = .ok (.if_icmp .eq 9, 3) := by decide +kernel
theorem dM_readArea_78 : decode prog_7_method_36_code 78 = .ok (.iinc 3 1, 3) := by decide +kernel
theorem dM_readArea_81 : decode prog_7_method_36_code 81 = .ok (.goto (-19), 3) := by decide +kernel
theorem dM_readArea_84 : decode prog_7_method_36_code 84 = .ok (.aload_n 0, 1) := by decide +kernel
theorem dM_readArea_85 : decode prog_7_method_36_code 85 = .ok (.getfield 28, 3) := by decide +kernel
theorem dM_readArea_88 : decode prog_7_method_36_code 88 = .ok (.aload_n 0, 1) := by decide +kernel
theorem dM_readArea_89 : decode prog_7_method_36_code 89 = .ok (.getfield 139, 3) := by decide +kernel
theorem dM_readArea_92 : decode prog_7_method_36_code 92 = .ok (.iconst 1, 1) := by decide +kernel
theorem dM_readArea_93 : decode prog_7_method_36_code 93 = .ok (.isub, 1) := by decide +kernel
theorem dM_readArea_94 : decode prog_7_method_36_code 94 = .ok (.iload_n 3, 1) := by decide +kernel
theorem dM_readArea_95 : decode prog_7_method_36_code 95 = .ok (.iastore, 1) := by decide +kernel
theorem dM_readArea_96 : decode prog_7_method_36_code 96 = .ok (.iload_n 3, 1) := by decide +kernel
theorem dM_readArea_97 : decode prog_7_method_36_code 97 = .ok (.bipush 13, 2) := by decide +kernel
theorem dM_readArea_99 : decode prog_7_method_36_code 99 = .ok (.if_icmp .ne 28, 3) := by decide +kernel
theorem dM_readArea_102 : decode prog_7_method_36_code 102 = .ok (.aload_n 0, 1) := by decide +kernel
theorem dM_readArea_103 : decode prog_7_method_36_code 103 = .ok (.dup, 1) := by decide +kernel
theorem dM_readArea_104 : decode prog_7_method_36_code 104 = .ok (.getfield 139, 3) := by decide +kernel
theorem dM_readArea_107 : decode prog_7_method_36_code 107 = .ok (.iconst 1, 1) := by decide +kernel
theorem dM_readArea_108 : decode prog_7_method_36_code 108 = .ok (.isub, 1) := by decide +kernel
theorem dM_readArea_109 : decode prog_7_method_36_code 109 = .ok (.putfield 139, 3) := by decide +kernel
theorem dM_readArea_112 : decode prog_7_method_36_code 112 = .ok (.aload_n 0, 1) := by decide +kernel
theorem dM_readArea_113 : decode prog_7_method_36_code 113 = .ok (.getfield 139, 3) := by decide +kernel
theorem dM_readArea_116 : decode prog_7_method_36_code 116 = .ok (.ifCond .le 51, 3) := by decide +kernel
theorem dM_readArea_119 : decode prog_7_method_36_code 119 = .ok (.aload_n 0, 1) := by decide +kernel
theorem dM_readArea_120 : decode prog_7_method_36_code 120 = .ok (.iconst 2, 1) := by decide +kernel
theorem dM_readArea_121 : decode prog_7_method_36_code 121 = .ok (.invokevirtual 154, 3) := by decide +kernel
theorem dM_readArea_124 : decode prog_7_method_36_code 124 = .ok (.goto 43, 3) := by decide +kernel
theorem dM_readArea_127 : decode prog_7_method_36_code 127 = .ok (.aload_n 0, 1) := by decide +kernel
theorem dM_readArea_128 : decode prog_7_method_36_code 128 = .ok (.iconst 1, 1) := by decide +kernel
theorem dM_readArea_129 : decode prog_7_method_36_code 129 = .ok (.invokevirtual 154, 3) := by decide +kernel
theorem dM_readArea_132 : decode prog_7_method_36_code 132 = .ok (.aload_n 0, 1) := by decide +kernel
theorem dM_readArea_133 : decode prog_7_method_36_code 133 = .ok (.iload_n 3, 1) := by decide +kernel
theorem dM_readArea_134 : decode prog_7_method_36_code 134 = .ok (.invokevirtual 160, 3) := by decide +kernel
theorem dM_readArea_137 : decode prog_7_method_36_code 137 = .ok (.aload_n 0, 1) := by decide +kernel
theorem dM_readArea_138 : decode prog_7_method_36_code 138 = .ok (.getfield 25, 3) := by decide +kernel
theorem dM_readArea_141 : decode prog_7_method_36_code 141 = .ok (.aload_n 0, 1) := by decide +kernel
theorem dM_readArea_142 : decode prog_7_method_36_code 142 = .ok (.getfield 139, 3) := by decide +kernel
theorem dM_readArea_145 : decode prog_7_method_36_code 145 = .ok (.iload_n 3, 1) := by decide +kernel
theorem dM_readArea_146 : decode prog_7_method_36_code 146 = .ok (.iastore, 1) := by decide +kernel
theorem dM_readArea_147 : decode prog_7_method_36_code 147 = .ok (.aload_n 0, 1) := by decide +kernel
theorem dM_readArea_148 : decode prog_7_method_36_code 148 = .ok (.getfield 28, 3) := by decide +kernel
theorem dM_readArea_151 : decode prog_7_method_36_code 151 = .ok (.aload_n 0, 1) := by decide +kernel
theorem dM_readArea_152 : decode prog_7_method_36_code 152 = .ok (.getfield 139, 3) := by decide +kernel
theorem dM_readArea_155 : decode prog_7_method_36_code 155 = .ok (.iconst 0, 1) := by decide +kernel
theorem dM_readArea_156 : decode prog_7_method_36_code 156 = .ok (.iastore, 1) := by decide +kernel
theorem dM_readArea_157 : decode prog_7_method_36_code 157 = .ok (.aload_n 0, 1) := by decide +kernel
theorem dM_readArea_158 : decode prog_7_method_36_code 158 = .ok (.dup, 1) := by decide +kernel
theorem dM_readArea_159 : decode prog_7_method_36_code 159 = .ok (.getfield 139, 3) := by decide +kernel
theorem dM_readArea_162 : decode prog_7_method_36_code 162 = .ok (.iconst 1, 1) := by decide +kernel
theorem dM_readArea_163 : decode prog_7_method_36_code 163 = .ok (.iadd, 1) := by decide +kernel
theorem dM_readArea_164 : decode prog_7_method_36_code 164 = .ok (.putfield 139, 3) := by decide +kernel
theorem dM_readArea_167 : decode prog_7_method_36_code 167 = .ok (.goto (-138), 3) := by decide +kernel
theorem dM_readArea_170 : decode prog_7_method_36_code 170 = .ok (.return_, 1) := by decide +kernel
theorem dM_readPart_0 : decode prog_7_method_37_code 0 = .ok (.iload_n 1, 1) := by decide +kernel
theorem dM_readPart_1 : decode prog_7_method_37_code 1 = .ok (.ifCond .ne 14, 3) := by decide +kernel
theorem dM_readPart_4 : decode prog_7_method_37_code 4 = .ok (.aload_n 0, 1) := by decide +kernel
theorem dM_readPart_5 : decode prog_7_method_37_code 5 = .ok (.iconst 0, 1) := by decide +kernel
theorem dM_readPart_6 : decode prog_7_method_37_code 6 = .ok (.putfield 151, 3) := by decide +kernel
theorem dM_readPart_9 : decode prog_7_method_37_code 9 = .ok (.aload_n 0, 1) := by decide +kernel
theorem dM_readPart_10 : decode prog_7_method_37_code 10 = .ok (.iload_n 2, 1) := by decide +kernel
theorem dM_readPart_11 : decode prog_7_method_37_code 11 = .ok (.invokevirtual 157, 3) := by decide +kernel
theorem dM_readPart_14 : decode prog_7_method_37_code 14 = .ok (.return_, 1) := by decide +kernel
theorem dM_readPart_15 : decode prog_7_method_37_code 15 = .ok (.aload_n 0, 1) := by decide +kernel
theorem dM_readPart_16 : decode prog_7_method_37_code 16 = .ok (.iload_n 2, 1) := by decide +kernel
theorem dM_readPart_17 : decode prog_7_method_37_code 17 = .ok (.invokevirtual 163, 3) := by decide +kernel
theorem dM_readPart_20 : decode prog_7_method_37_code 20 = .ok (.iconst 0, 1) := by decide +kernel
theorem dM_readPart_21 : decode prog_7_method_37_code 21 = .ok (.istore_n 3, 1) := by decide +kernel
theorem dM_readPart_22 : decode prog_7_method_37_code 22 = .ok (.iconst 0, 1) := by decide +kernel
theorem dM_readPart_23 : decode prog_7_method_37_code 23 = .ok (.istore 4, 2) := by decide +kernel
theorem dM_readPart_25 : decode prog_7_method_37_code 25 = .ok (.iload 4, 2) := by decide +kernel
theorem dM_readPart_27 : decode prog_7_method_37_code 27 = .ok (.bipush 6, 2) := by decide +kernel
theorem dM_readPart_29 : decode prog_7_method_37_code 29 = .ok (.if_icmp .ge 17, 3) := by decide +kernel
theorem dM_readPart_32 : decode prog_7_method_37_code 32 = .ok (.aload_n 0, 1) := by decide +kernel
theorem dM_readPart_33 : decode prog_7_method_37_code 33 = .ok (.getfield 22, 3) := by decide +kernel
theorem dM_readPart_36 : decode prog_7_method_37_code 36 = .ok (.iload 4, 2) := by decide +kernel
theorem dM_readPart_38 : decode prog_7_method_37_code 38 = .ok (.iconst (-1), 1) := by decide +kernel
theorem dM_readPart_39 : decode prog_7_method_37_code 39 = .ok (.iastore, 1) := by decide +kernel
theorem dM_readPart_40 : decode prog_7_method_37_code 40 = .ok (.iinc 4 1, 3) := by decide +kernel
theorem dM_readPart_43 : decode prog_7_method_37_code 43 = .ok (.goto (-18), 3) := by decide +kernel
theorem dM_readPart_46 : decode prog_7_method_37_code 46 = .ok (.iconst 0, 1) := by decide +kernel
theorem dM_readPart_47 : decode prog_7_method_37_code 47 = .ok (.istore 4, 2) := by decide +kernel
theorem dM_readPart_49 : decode prog_7_method_37_code 49 = .ok (.iload 4, 2) := by decide +kernel
theorem dM_readPart_51 : decode prog_7_method_37_code 51 = .ok (.aload_n 0, 1) := by decide +kernel
theorem dM_readPart_52 : decode prog_7_method_37_code 52 = .ok (.getfield 151, 3) := by decide +kernel
theorem dM_readPart_55 : decode prog_7_method_37_code 55 = .ok (.if_icmp .ge 84, 3) := by decide +kernel
theorem dM_readPart_58 : decode prog_7_method_37_code 58 = .ok (.aload_n 0, 1) := by decide +kernel
theorem dM_readPart_59 : decode prog_7_method_37_code 59 = .ok (.getfield 16, 3) := by decide +kernel
theorem dM_readPart_62 : decode prog_7_method_37_code 62 = .ok (.iload 4, 2) := by decide +kernel
theorem dM_readPart_64 : decode prog_7_method_37_code 64 = .ok (.iaload, 1) := by decide +kernel
theorem dM_readPart_65 : decode prog_7_method_37_code 65 = .ok (.bipush 100, 2) := by decide +kernel
theorem dM_readPart_67 : decode prog_7_method_37_code 67 = .ok (.isub, 1) := by decide +kernel
theorem dM_readPart_68 : decode prog_7_method_37_code 68 = .ok (.istore 5, 2) := by decide +kernel
theorem dM_readPart_70 : decode prog_7_method_37_code 70 = .ok (.iload 5, 2) := by decide +kernel
theorem dM_readPart_72 : decode prog_7_method_37_code 72 = .ok (.ifCond .lt 61, 3) := by decide +kernel
theorem dM_readPart_75 : decode prog_7_method_37_code 75 = .ok (.aload_n 0, 1) := by decide +kernel
theorem dM_readPart_76 : decode prog_7_method_37_code 76 = .ok (.aload_n 0, 1) := by decide +kernel
theorem dM_readPart_77 : decode prog_7_method_37_code 77 = .ok (.getfield 7, 3) := by decide +kernel
theorem dM_readPart_80 : decode prog_7_method_37_code 80 = .ok (.bipush 13, 2) := by decide +kernel
theorem dM_readPart_82 : decode prog_7_method_37_code 82 = .ok (.iload 5, 2) := by decide +kernel
theorem dM_readPart_84 : decode prog_7_method_37_code 84 = .ok (.iadd, 1) := by decide +kernel
theorem dM_readPart_85 : decode prog_7_method_37_code 85 = .ok (.iaload, 1) := by decide +kernel
theorem dM_readPart_86 : decode prog_7_method_37_code 86 = .ok (.iload_n 2, 1) := by decide +kernel
theorem dM_readPart_87 : decode prog_7_method_37_code 87 = .ok (.invokevirtual 92, 3) := by decide +kernel
theorem dM_readPart_90 : decode prog_7_method_37_code 90 = .ok (.ifCond .eq 43, 3) := by decide +kernel
theorem dM_readPart_93 : decode prog_7_method_37_code 93 = .ok (.aload_n 0, 1) := by decide +kernel
theorem dM_readPart_94 : decode prog_7_method_37_code 94 = .ok (.getfield 22, 3) := by decide +kernel
theorem dM_readPart_97 : decode prog_7_method_37_code 97 = .ok (.iload 5, 2) := by decide +kernel
theorem dM_readPart_99 : decode prog_7_method_37_code 99 = .ok (.iaload, 1) := by decide +kernel
theorem dM_readPart_100 : decode prog_7_method_37_code 100 = .ok (.iconst (-1), 1) := by decide +kernel
theorem dM_readPart_101 : decode prog_7_method_37_code 101 = .ok (.if_icmp .ne 14, 3) := by decide +kernel
theorem dM_readPart_104 : decode prog_7_method_37_code 104 = .ok (.aload_n 0, 1) := by decide +kernel
theorem dM_readPart_105 : decode prog_7_method_37_code 105 = .ok (.getfield 22, 3) := by decide +kernel
theorem dM_readPart_108 : decode prog_7_method_37_code 108 = .ok (.iload 5, 2) := by decide +kernel
theorem dM_readPart_110 : decode prog_7_method_37_code 110 = .ok (.iload_n 3, 1) := by decide +kernel
theorem dM_readPart_111 : decode prog_7_method_37_code 111 = .ok (.iastore, 1) := by decide +kernel
theorem dM_readPart_112 : decode prog_7_method_37_code 112 = .ok (.iinc 3 1, 3) := by decide +kernel
theorem dM_readPart_115 : decode prog_7_method_37_code 115 = .ok (.aload_n 0, 1) := by decide +kernel
theorem dM_readPart_116 : decode prog_7_method_37_code 116 = .ok (.getfield 16, 3) := by decide +kernel
theorem dM_readPart_119 : decode prog_7_method_37_code 119 = .ok (.iload 4, 2) := by decide +kernel
theorem dM_readPart_121 : decode prog_7_method_37_code 121 = .ok (.sipush 200, 3) := by decide +kernel
theorem dM_readPart_124 : decode prog_7_method_37_code 124 = .ok (.aload_n 0, 1) := by decide +kernel
theorem dM_readPart_125 : decode prog_7_method_37_code 125 = .ok (.getfield 22, 3) := by decide +kernel
theorem dM_readPart_128 : decode prog_7_method_37_code 128 = .ok (.iload 5, 2) := by decide +kernel
theorem dM_readPart_130 : decode prog_7_method_37_code 130 = .ok (.iaload, 1) := by decide +kernel
theorem dM_readPart_131 : decode prog_7_method_37_code 131 = .ok (.iadd, 1) := by decide +kernel
theorem dM_readPart_132 : decode prog_7_method_37_code 132 = .ok (.iastore, 1) := by decide +kernel
theorem dM_readPart_133 : decode prog_7_method_37_code 133 = .ok (.iinc 4 1, 3) := by decide +kernel
theorem dM_readPart_136 : decode prog_7_method_37_code 136 = .ok (.goto (-87), 3) := by decide +kernel
theorem dM_readPart_139 : decode prog_7_method_37_code 139 = .ok (.return_, 1) := by decide +kernel
theorem dM_isAlike_0 : decode prog_7_method_38_code 0 = .ok (.aload_n 0, 1) := by decide +kernel
theorem dM_isAlike_1 : decode prog_7_method_38_code 1 = .ok (.iload_n 1, 1) := by decide +kernel
theorem dM_isAlike_2 : decode prog_7_method_38_code 2 = .ok (.iload_n 2, 1) := by decide +kernel
theorem dM_isAlike_3 : decode prog_7_method_38_code 3 = .ok (.invokevirtual 166, 3) := by decide +kernel
theorem dM_isAlike_6 : decode prog_7_method_38_code 6 = .ok (.aload_n 0, 1) := by decide +kernel
theorem dM_isAlike_7 : decode prog_7_method_38_code 7 = .ok (.getfield 151, 3) := by decide +kernel
theorem dM_isAlike_10 : decode prog_7_method_38_code 10 = .ok (.aload_n 0, 1) := by decide +kernel
theorem dM_isAlike_11 : decode prog_7_method_38_code 11 = .ok (.getfield 169, 3) := by decide +kernel
theorem dM_isAlike_14 : decode prog_7_method_38_code 14 = .ok (.if_icmp .ne 7, 3) := by decide +kernel
theorem dM_isAlike_17 : decode prog_7_method_38_code 17 = .ok (.iconst 1, 1) := by decide +kernel
theorem dM_isAlike_18 : decode prog_7_method_38_code 18 = .ok (.goto 4, 3) := by decide +kernel
theorem dM_isAlike_21 : decode prog_7_method_38_code 21 = .ok (.iconst 0, 1) := by decide +kernel
theorem dM_isAlike_22 : decode prog_7_method_38_code 22 = .ok (.istore_n 3, 1) := by decide +kernel
theorem dM_isAlike_23 : decode prog_7_method_38_code 23 = .ok (.iconst 0, 1) := by decide +kernel
theorem dM_isAlike_24 : decode prog_7_method_38_code 24 = .ok (.istore 4, 2) := by decide +kernel
theorem dM_isAlike_26 : decode prog_7_method_38_code 26 = .ok (.iload 4, 2) := by decide +kernel
theorem dM_isAlike_28 : decode prog_7_method_38_code 28 = .ok (.aload_n 0, 1) := by decide +kernel
theorem dM_isAlike_29 : decode prog_7_method_38_code 29 = .ok (.getfield 151, 3) := by decide +kernel
theorem dM_isAlike_32 : decode prog_7_method_38_code 32 = .ok (.if_icmp .ge 36, 3) := by decide +kernel
theorem dM_isAlike_35 : decode prog_7_method_38_code 35 = .ok (.iload_n 3, 1) := by decide +kernel
theorem dM_isAlike_36 : decode prog_7_method_38_code 36 = .ok (.ifCond .eq 32, 3) := by decide +kernel
theorem dM_isAlike_39 : decode prog_7_method_38_code 39 = .ok (.aload_n 0, 1) := by decide +kernel
theorem dM_isAlike_40 : decode prog_7_method_38_code 40 = .ok (.getfield 16, 3) := by decide +kernel
theorem dM_isAlike_43 : decode prog_7_method_38_code 43 = .ok (.iload 4, 2) := by decide +kernel
theorem dM_isAlike_45 : decode prog_7_method_38_code 45 = .ok (.iaload, 1) := by decide +kernel
theorem dM_isAlike_46 : decode prog_7_method_38_code 46 = .ok (.aload_n 0, 1) := by decide +kernel
theorem dM_isAlike_47 : decode prog_7_method_38_code 47 = .ok (.getfield 19, 3) := by decide +kernel
theorem dM_isAlike_50 : decode prog_7_method_38_code 50 = .ok (.iload 4, 2) := by decide +kernel
theorem dM_isAlike_52 : decode prog_7_method_38_code 52 = .ok (.iaload, 1) := by decide +kernel
theorem dM_isAlike_53 : decode prog_7_method_38_code 53 = .ok (.if_icmp .ne 7, 3) := by decide +kernel
theorem dM_isAlike_56 : decode prog_7_method_38_code 56 = .ok (.iconst 1, 1) := by decide +kernel
theorem dM_isAlike_57 : decode prog_7_method_38_code 57 = .ok (.goto 4, 3) := by decide +kernel
theorem dM_isAlike_60 : decode prog_7_method_38_code 60 = .ok (.iconst 0, 1) := by decide +kernel
theorem dM_isAlike_61 : decode prog_7_method_38_code 61 = .ok (.istore_n 3, 1) := by decide +kernel
theorem dM_isAlike_62 : decode prog_7_method_38_code 62 = .ok (.iinc 4 1, 3) := by decide +kernel
theorem dM_isAlike_65 : decode prog_7_method_38_code 65 = .ok (.goto (-39), 3) := by decide +kernel
theorem dM_isAlike_68 : decode prog_7_method_38_code 68 = .ok (.iload_n 3, 1) := by decide +kernel
theorem dM_isAlike_69 : decode prog_7_method_38_code 69 = .ok (.ireturn, 1) := by decide +kernel
theorem dM_hasOther_0 : decode prog_7_method_39_code 0 = .ok (.aload_n 0, 1) := by decide +kernel
theorem dM_hasOther_1 : decode prog_7_method_39_code 1 = .ok (.iload_n 1, 1) := by decide +kernel
theorem dM_hasOther_2 : decode prog_7_method_39_code 2 = .ok (.iload_n 2, 1) := by decide +kernel
theorem dM_hasOther_3 : decode prog_7_method_39_code 3 = .ok (.invokevirtual 166, 3) := by decide +kernel
theorem dM_hasOther_6 : decode prog_7_method_39_code 6 = .ok (.aload_n 0, 1) := by decide +kernel
theorem dM_hasOther_7 : decode prog_7_method_39_code 7 = .ok (.aload_n 0, 1) := by decide +kernel
theorem dM_hasOther_8 : decode prog_7_method_39_code 8 = .ok (.getfield 151, 3) := by decide +kernel
theorem dM_hasOther_11 : decode prog_7_method_39_code 11 = .ok (.putfield 169, 3) := by decide +kernel
theorem dM_hasOther_14 : decode prog_7_method_39_code 14 = .ok (.iconst 0, 1) := by decide +kernel
theorem dM_hasOther_15 : decode prog_7_method_39_code 15 = .ok (.istore_n 3, 1) := by decide +kernel
theorem dM_hasOther_16 : decode prog_7_method_39_code 16 = .ok (.iload_n 3, 1) := by decide +kernel
theorem dM_hasOther_17 : decode prog_7_method_39_code 17 = .ok (.aload_n 0, 1) := by decide +kernel
theorem dM_hasOther_18 : decode prog_7_method_39_code 18 = .ok (.getfield 151, 3) := by decide +kernel
theorem dM_hasOther_21 : decode prog_7_method_39_code 21 = .ok (.if_icmp .ge 21, 3) := by decide +kernel
theorem dM_hasOther_24 : decode prog_7_method_39_code 24 = .ok (.aload_n 0, 1) := by decide +kernel
theorem dM_hasOther_25 : decode prog_7_method_39_code 25 = .ok (.getfield 19, 3) := by decide +kernel
theorem dM_hasOther_28 : decode prog_7_method_39_code 28 = .ok (.iload_n 3, 1) := by decide +kernel
theorem dM_hasOther_29 : decode prog_7_method_39_code 29 = .ok (.aload_n 0, 1) := by decide +kernel
theorem dM_hasOther_30 : decode prog_7_method_39_code 30 = .ok (.getfield 16, 3) := by decide +kernel
theorem dM_hasOther_33 : decode prog_7_method_39_code 33 = .ok (.iload_n 3, 1) := by decide +kernel
theorem dM_hasOther_34 : decode prog_7_method_39_code 34 = .ok (.iaload, 1) := by decide +kernel
theorem dM_hasOther_35 : decode prog_7_method_39_code 35 = .ok (.iastore, 1) := by decide +kernel
theorem dM_hasOther_36 : decode prog_7_method_39_code 36 = .ok (.iinc 3 1, 3) := by decide +kernel
theorem dM_hasOther_39 : decode prog_7_method_39_code 39 = .ok (.goto (-23), 3) := by decide +kernel
theorem dM_hasOther_42 : decode prog_7_method_39_code 42 = .ok (.aload_n 0, 1) := by decide +kernel
theorem dM_hasOther_43 : decode prog_7_method_39_code 43 = .ok (.iload_n 1, 1) := by decide +kernel
theorem dM_hasOther_44 : decode prog_7_method_39_code 44 = .ok (.iload_n 2, 1) := by decide +kernel
theorem dM_hasOther_45 : decode prog_7_method_39_code 45 = .ok (.invokevirtual 118, 3) := by decide +kernel
theorem dM_hasOther_48 : decode prog_7_method_39_code 48 = .ok (.istore_n 3, 1) := by decide +kernel
theorem dM_hasOther_49 : decode prog_7_method_39_code 49 = .ok (.iconst 0, 1) := by decide +kernel
theorem dM_hasOther_50 : decode prog_7_method_39_code 50 = .ok (.istore 4, 2) := by decide +kernel
theorem dM_hasOther_52 : decode prog_7_method_39_code 52 = .ok (.iload_n 1, 1) := by decide +kernel
theorem dM_hasOther_53 : decode prog_7_method_39_code 53 = .ok (.istore 5, 2) := by decide +kernel
theorem dM_hasOther_55 : decode prog_7_method_39_code 55 = .ok (.iload 5, 2) := by decide +kernel
theorem dM_hasOther_57 : decode prog_7_method_39_code 57 = .ok (.iload_n 1, 1) := by decide +kernel
theorem dM_hasOther_58 : decode prog_7_method_39_code 58 = .ok (.ifCond .ne 8, 3) := by decide +kernel
theorem dM_hasOther_61 : decode prog_7_method_39_code 61 = .ok (.bipush 12, 2) := by decide +kernel
theorem dM_hasOther_63 : decode prog_7_method_39_code 63 = .ok (.goto 5, 3) := by decide +kernel
theorem dM_hasOther_66 : decode prog_7_method_39_code 66 = .ok (.bipush 13, 2) := by decide +kernel
theorem dM_hasOther_68 : decode prog_7_method_39_code 68 = .ok (.if_icmp .ge 78, 3) := by decide +kernel
theorem dM_hasOther_71 : decode prog_7_method_39_code 71 = .ok (.iload_n 1, 1) := by decide +kernel
theorem dM_hasOther_72 : decode prog_7_method_39_code 72 = .ok (.ifCond .ne 12, 3) := by decide +kernel
theorem dM_hasOther_75 : decode prog_7_method_39_code 75 = .ok (.aload_n 0, 1) := by decide +kernel
theorem dM_hasOther_76 : decode prog_7_method_39_code 76 = .ok (.iload 5, 2) := by decide +kernel
theorem dM_hasOther_78 : decode prog_7_method_39_code 78 = .ok (.invokevirtual 105, 3) := by decide +kernel
theorem dM_hasOther_81 : decode prog_7_method_39_code 81 = .ok (.goto 9, 3) := by decide +kernel
theorem dM_hasOther_84 : decode prog_7_method_39_code 84 = .ok (.aload_n 0, 1) := by decide +kernel
theorem dM_hasOther_85 : decode prog_7_method_39_code 85 = .ok (.iload 5, 2) := by decide +kernel
theorem dM_hasOther_87 : decode prog_7_method_39_code 87 = .ok (.invokevirtual 112, 3) := by decide +kernel
theorem dM_hasOther_90 : decode prog_7_method_39_code 90 = .ok (.istore 6, 2) := by decide +kernel
theorem dM_hasOther_92 : decode prog_7_method_39_code 92 = .ok (.iload 4, 2) := by decide +kernel
theorem dM_hasOther_94 : decode prog_7_method_39_code 94 = .ok (.ifCond .ne 39, 3) := by decide +kernel
theorem dM_hasOther_97 : decode prog_7_method_39_code 97 = .ok (.iload 6, 2) := by decide +kernel
theorem dM_hasOther_99 : decode prog_7_method_39_code 99 = .ok (.ifCond .eq 38, 3) := by decide +kernel
theorem dM_hasOther_102 : decode prog_7_method_39_code 102 = .ok (.iload 5, 2) := by decide +kernel
theorem dM_hasOther_104 : decode prog_7_method_39_code 104 = .ok (.iload_n 2, 1) := by decide +kernel
theorem dM_hasOther_105 : decode prog_7_method_39_code 105 = .ok (.if_icmp .eq 32, 3) := by decide +kernel
theorem dM_hasOther_108 : decode prog_7_method_39_code 108 = .ok (.aload_n 0, 1) := by decide +kernel
theorem dM_hasOther_109 : decode prog_7_method_39_code 109 = .ok (.iload_n 3, 1) := by decide +kernel
theorem dM_hasOther_110 : decode prog_7_method_39_code 110 = .ok (.aload_n 0, 1) := by decide +kernel
theorem dM_hasOther_111 : decode prog_7_method_39_code 111 = .ok (.iload_n 1, 1) := by decide +kernel
theorem dM_hasOther_112 : decode prog_7_method_39_code 112 = .ok (.iload 5, 2) := by decide +kernel
theorem dM_hasOther_114 : decode prog_7_method_39_code 114 = .ok (.invokevirtual 118, 3) := by decide +kernel
theorem dM_hasOther_117 : decode prog_7_method_39_code 117 = .ok (.invokevirtual 92, 3) := by decide +kernel
theorem dM_hasOther_120 : decode prog_7_method_39_code 120 = .ok (.ifCond .eq 17, 3) := by decide +kernel
theorem dM_hasOther_123 : decode prog_7_method_39_code 123 = .ok (.aload_n 0, 1) := by decide +kernel
theorem dM_hasOther_124 : decode prog_7_method_39_code 124 = .ok (.iload_n 1, 1) := by decide +kernel
theorem dM_hasOther_125 : decode prog_7_method_39_code 125 = .ok (.iload 5, 2) := by decide +kernel
theorem dM_hasOther_127 : decode prog_7_method_39_code 127 = .ok (.invokevirtual 172, 3) := by decide +kernel
theorem dM_hasOther_130 : decode prog_7_method_39_code 130 = .ok (.ifCond .eq 7, 3) := by decide +kernel
theorem dM_hasOther_133 : decode prog_7_method_39_code 133 = .ok (.iconst 1, 1) := by decide +kernel
theorem dM_hasOther_134 : decode prog_7_method_39_code 134 = .ok (.goto 4, 3) := by decide +kernel
theorem dM_hasOther_137 : decode prog_7_method_39_code 137 = .ok (.iconst 0, 1) := by decide +kernel
theorem dM_hasOther_138 : decode prog_7_method_39_code 138 = .ok (.istore 4, 2) := by decide +kernel
theorem dM_hasOther_140 : decode prog_7_method_39_code 140 = .ok (.iinc 5 1, 3) := by decide +kernel
theorem dM_hasOther_143 : decode prog_7_method_39_code 143 = .ok (.goto (-88), 3) := by decide +kernel
theorem dM_hasOther_146 : decode prog_7_method_39_code 146 = .ok (.iload 4, 2) := by decide +kernel
theorem dM_hasOther_148 : decode prog_7_method_39_code 148 = .ok (.ireturn, 1) := by decide +kernel
theorem dM_uncopy_0 : decode prog_7_method_40_code 0 = .ok (.aload_n 0, 1) := by decide +kernel
theorem dM_uncopy_1 : decode prog_7_method_40_code 1 = .ok (.aload_n 0, 1) := by decide +kernel
theorem dM_uncopy_2 : decode prog_7_method_40_code 2 = .ok (.iload_n 1, 1) := by decide +kernel
theorem dM_uncopy_3 : decode prog_7_method_40_code 3 = .ok (.iload_n 2, 1) := by decide +kernel
theorem dM_uncopy_4 : decode prog_7_method_40_code 4 = .ok (.invokevirtual 115, 3) := by decide +kernel
theorem dM_uncopy_7 : decode prog_7_method_40_code 7 = .ok (.ifCond .eq 7, 3) := by decide +kernel
theorem dM_uncopy_10 : decode prog_7_method_40_code 10 = .ok (.iconst 1, 1) := by decide +kernel
theorem dM_uncopy_11 : decode prog_7_method_40_code 11 = .ok (.goto 4, 3) := by decide +kernel
theorem dM_uncopy_14 : decode prog_7_method_40_code 14 = .ok (.iconst 0, 1) := by decide +kernel
theorem dM_uncopy_15 : decode prog_7_method_40_code 15 = .ok (.putfield 56, 3) := by decide +kernel
theorem dM_uncopy_18 : decode prog_7_method_40_code 18 = .ok (.aload_n 0, 1) := by decide +kernel
theorem dM_uncopy_19 : decode prog_7_method_40_code 19 = .ok (.getfield 56, 3) := by decide +kernel
theorem dM_uncopy_22 : decode prog_7_method_40_code 22 = .ok (.ifCond .eq 5, 3) := by decide +kernel
theorem dM_uncopy_25 : decode prog_7_method_40_code 25 = .ok (.iconst 0, 1) := by decide +kernel
theorem dM_uncopy_26 : decode prog_7_method_40_code 26 = .ok (.ireturn, 1) := by decide +kernel
theorem dM_uncopy_27 : decode prog_7_method_40_code 27 = .ok (.aload_n 0, 1) := by decide +kernel
theorem dM_uncopy_28 : decode prog_7_method_40_code 28 = .ok (.getfield 151, 3) := by decide +kernel
theorem dM_uncopy_31 : decode prog_7_method_40_code 31 = .ok (.istore_n 3, 1) := by decide +kernel
theorem dM_uncopy_32 : decode prog_7_method_40_code 32 = .ok (.iconst 0, 1) := by decide +kernel
theorem dM_uncopy_33 : decode prog_7_method_40_code 33 = .ok (.istore 4, 2) := by decide +kernel
theorem dM_uncopy_35 : decode prog_7_method_40_code 35 = .ok (.iload 4, 2) := by decide +kernel
theorem dM_uncopy_37 : decode prog_7_method_40_code 37 = .ok (.iload_n 3, 1) := by decide +kernel
theorem dM_uncopy_38 : decode prog_7_method_40_code 38 = .ok (.if_icmp .ge 23, 3) := by decide +kernel
theorem dM_uncopy_41 : decode prog_7_method_40_code 41 = .ok (.aload_n 0, 1) := by decide +kernel
theorem dM_uncopy_42 : decode prog_7_method_40_code 42 = .ok (.getfield 41, 3) := by decide +kernel
theorem dM_uncopy_45 : decode prog_7_method_40_code 45 = .ok (.iload 4, 2) := by decide +kernel
theorem dM_uncopy_47 : decode prog_7_method_40_code 47 = .ok (.aload_n 0, 1) := by decide +kernel
theorem dM_uncopy_48 : decode prog_7_method_40_code 48 = .ok (.getfield 16, 3) := by decide +kernel
theorem dM_uncopy_51 : decode prog_7_method_40_code 51 = .ok (.iload 4, 2) := by decide +kernel
theorem dM_uncopy_53 : decode prog_7_method_40_code 53 = .ok (.iaload, 1) := by decide +kernel
theorem dM_uncopy_54 : decode prog_7_method_40_code 54 = .ok (.iastore, 1) := by decide +kernel
theorem dM_uncopy_55 : decode prog_7_method_40_code 55 = .ok (.iinc 4 1, 3) := by decide +kernel
theorem dM_uncopy_58 : decode prog_7_method_40_code 58 = .ok (.goto (-23), 3) := by decide +kernel
theorem dM_uncopy_61 : decode prog_7_method_40_code 61 = .ok (.aload_n 0, 1) := by decide +kernel
theorem dM_uncopy_62 : decode prog_7_method_40_code 62 = .ok (.getfield 64, 3) := by decide +kernel
theorem dM_uncopy_65 : decode prog_7_method_40_code 65 = .ok (.ifCond .eq 16, 3) := by decide +kernel
theorem dM_uncopy_68 : decode prog_7_method_40_code 68 = .ok (.aload_n 0, 1) := by decide +kernel
theorem dM_uncopy_69 : decode prog_7_method_40_code 69 = .ok (.iload_n 1, 1) := by decide +kernel
theorem dM_uncopy_70 : decode prog_7_method_40_code 70 = .ok (.iload_n 2, 1) := by decide +kernel
theorem dM_uncopy_71 : decode prog_7_method_40_code 71 = .ok (.invokevirtual 175, 3) := by decide +kernel
theorem dM_uncopy_74 : decode prog_7_method_40_code 74 = .ok (.ifCond .eq 7, 3) := by decide +kernel
theorem dM_uncopy_77 : decode prog_7_method_40_code 77 = .ok (.iconst 1, 1) := by decide +kernel
theorem dM_uncopy_78 : decode prog_7_method_40_code 78 = .ok (.goto 4, 3) := by decide +kernel
theorem dM_uncopy_81 : decode prog_7_method_40_code 81 = .ok (.iconst 0, 1) := by decide +kernel
theorem dM_uncopy_82 : decode prog_7_method_40_code 82 = .ok (.istore 4, 2) := by decide +kernel
theorem dM_uncopy_84 : decode prog_7_method_40_code 84 = .ok (.aload_n 0, 1) := by decide +kernel
theorem dM_uncopy_85 : decode prog_7_method_40_code 85 = .ok (.iload_n 3, 1) := by decide +kernel
theorem dM_uncopy_86 : decode prog_7_method_40_code 86 = .ok (.putfield 151, 3) := by decide +kernel
theorem dM_uncopy_89 : decode prog_7_method_40_code 89 = .ok (.iconst 0, 1) := by decide +kernel
theorem dM_uncopy_90 : decode prog_7_method_40_code 90 = .ok (.istore 5, 2) := by decide +kernel
theorem dM_uncopy_92 : decode prog_7_method_40_code 92 = .ok (.iload 5, 2) := by decide +kernel
theorem dM_uncopy_94 : decode prog_7_method_40_code 94 = .ok (.iload_n 3, 1) := by decide +kernel
theorem dM_uncopy_95 : decode prog_7_method_40_code 95 = .ok (.if_icmp .ge 23, 3) := by decide +kernel
theorem dM_uncopy_98 : decode prog_7_method_40_code 98 = .ok (.aload_n 0, 1) := by decide +kernel
theorem dM_uncopy_99 : decode prog_7_method_40_code 99 = .ok (.getfield 16, 3) := by decide +kernel
theorem dM_uncopy_102 : decode prog_7_method_40_code 102 = .ok (.iload 5, 2) := by decide +kernel
theorem dM_uncopy_104 : decode prog_7_method_40_code 104 = .ok (.aload_n 0, 1) := by decide +kernel
theorem dM_uncopy_105 : decode prog_7_method_40_code 105 = .ok (.getfield 41, 3) := by decide +kernel
theorem dM_uncopy_108 : decode prog_7_method_40_code 108 = .ok (.iload 5, 2) := by decide +kernel
theorem dM_uncopy_110 : decode prog_7_method_40_code 110 = .ok (.iaload, 1) := by decide +kernel
theorem dM_uncopy_111 : decode prog_7_method_40_code 111 = .ok (.iastore, 1) := by decide +kernel
theorem dM_uncopy_112 : decode prog_7_method_40_code 112 = .ok (.iinc 5 1, 3) := by decide +kernel
theorem dM_uncopy_115 : decode prog_7_method_40_code 115 = .ok (.goto (-23), 3) := by decide +kernel
theorem dM_uncopy_118 : decode prog_7_method_40_code 118 = .ok (.aload_n 0, 1) := by decide +kernel
theorem dM_uncopy_119 : decode prog_7_method_40_code 119 = .ok (.iload 4, 2) := by decide +kernel
theorem dM_uncopy_121 : decode prog_7_method_40_code 121 = .ok (.ifCond .ne 7, 3) := by decide +kernel
theorem dM_uncopy_124 : decode prog_7_method_40_code 124 = .ok (.iconst 2, 1) := by decide +kernel
theorem dM_uncopy_125 : decode prog_7_method_40_code 125 = .ok (.goto 7, 3) := by decide +kernel
theorem dM_uncopy_128 : decode prog_7_method_40_code 128 = .ok (.aload_n 0, 1) := by decide +kernel
theorem dM_uncopy_129 : decode prog_7_method_40_code 129 = .ok (.invokevirtual 125, 3) := by decide +kernel
theorem dM_uncopy_132 : decode prog_7_method_40_code 132 = .ok (.putfield 56, 3) := by decide +kernel
theorem dM_uncopy_135 : decode prog_7_method_40_code 135 = .ok (.aload_n 0, 1) := by decide +kernel
theorem dM_uncopy_136 : decode prog_7_method_40_code 136 = .ok (.getfield 56, 3) := by decide +kernel
theorem dM_uncopy_139 : decode prog_7_method_40_code 139 = .ok (.ifCond .eq 5, 3) := by decide +kernel
theorem dM_uncopy_142 : decode prog_7_method_40_code 142 = .ok (.iconst 0, 1) := by decide +kernel
theorem dM_uncopy_143 : decode prog_7_method_40_code 143 = .ok (.ireturn, 1) := by decide +kernel
theorem dM_uncopy_144 : decode prog_7_method_40_code 144 = .ok (.aload_n 0, 1) := by decide +kernel
theorem dM_uncopy_145 : decode prog_7_method_40_code 145 = .ok (.invokevirtual 83, 3) := by decide +kernel
theorem dM_uncopy_148 : decode prog_7_method_40_code 148 = .ok (.iload_n 1, 1) := by decide +kernel
theorem dM_uncopy_149 : decode prog_7_method_40_code 149 = .ok (.ifCond .ne 11, 3) := by decide +kernel
theorem dM_uncopy_152 : decode prog_7_method_40_code 152 = .ok (.aload_n 0, 1) := by decide +kernel
theorem dM_uncopy_153 : decode prog_7_method_40_code 153 = .ok (.iload_n 2, 1) := by decide +kernel
theorem dM_uncopy_154 : decode prog_7_method_40_code 154 = .ok (.invokevirtual 108, 3) := by decide +kernel
theorem dM_uncopy_157 : decode prog_7_method_40_code 157 = .ok (.goto 8, 3) := by decide +kernel
theorem dM_uncopy_160 : decode prog_7_method_40_code 160 = .ok (.aload_n 0, 1) := by decide +kernel
theorem dM_uncopy_161 : decode prog_7_method_40_code 161 = .ok (.iload_n 2, 1) := by decide +kernel
theorem dM_uncopy_162 : decode prog_7_method_40_code 162 = .ok (.invokevirtual 128, 3) := by decide +kernel
theorem dM_uncopy_165 : decode prog_7_method_40_code 165 = .ok (.aload_n 0, 1) := by decide +kernel
theorem dM_uncopy_166 : decode prog_7_method_40_code 166 = .ok (.getfield 68, 3) := by decide +kernel
theorem dM_uncopy_169 : decode prog_7_method_40_code 169 = .ok (.ireturn, 1) := by decide +kernel
theorem dM_wrap_0 : decode prog_7_method_41_code 0 = .ok (.aload_n 0, 1) := by decide +kernel
theorem dM_wrap_1 : decode prog_7_method_41_code 1 = .ok (.iload_n 1, 1) := by decide +kernel
theorem dM_wrap_2 : decode prog_7_method_41_code 2 = .ok (.iconst 2, 1) := by decide +kernel
theorem dM_wrap_3 : decode prog_7_method_41_code 3 = .ok (.if_icmp .ne 19, 3) := by decide +kernel
theorem dM_wrap_6 : decode prog_7_method_41_code 6 = .ok (.aload_n 0, 1) := by decide +kernel
theorem dM_wrap_7 : decode prog_7_method_41_code 7 = .ok (.iload_n 2, 1) := by decide +kernel
theorem dM_wrap_8 : decode prog_7_method_41_code 8 = .ok (.invokevirtual 60, 3) := by decide +kernel
theorem dM_wrap_11 : decode prog_7_method_41_code 11 = .ok (.ifCond .eq 7, 3) := by decide +kernel
theorem dM_wrap_14 : decode prog_7_method_41_code 14 = .ok (.iconst 0, 1) := by decide +kernel
theorem dM_wrap_15 : decode prog_7_method_41_code 15 = .ok (.goto 21, 3) := by decide +kernel
theorem dM_wrap_18 : decode prog_7_method_41_code 18 = .ok (.iconst 1, 1) := by decide +kernel
theorem dM_wrap_19 : decode prog_7_method_41_code 19 = .ok (.goto 17, 3) := by decide +kernel
theorem dM_wrap_22 : decode prog_7_method_41_code 22 = .ok (.aload_n 0, 1) := by decide +kernel
theorem dM_wrap_23 : decode prog_7_method_41_code 23 = .ok (.iload_n 1, 1) := by decide +kernel
theorem dM_wrap_24 : decode prog_7_method_41_code 24 = .ok (.iload_n 2, 1) := by decide +kernel
theorem dM_wrap_25 : decode prog_7_method_41_code 25 = .ok (.invokevirtual 115, 3) := by decide +kernel
theorem dM_wrap_28 : decode prog_7_method_41_code 28 = .ok (.ifCond .eq 7, 3) := by decide +kernel
theorem dM_wrap_31 : decode prog_7_method_41_code 31 = .ok (.iconst 1, 1) := by decide +kernel
theorem dM_wrap_32 : decode prog_7_method_41_code 32 = .ok (.goto 4, 3) := by decide +kernel
theorem dM_wrap_35 : decode prog_7_method_41_code 35 = .ok (.iconst 0, 1) := by decide +kernel
theorem dM_wrap_36 : decode prog_7_method_41_code 36 = .ok (.putfield 56, 3) := by decide +kernel
theorem dM_wrap_39 : decode prog_7_method_41_code 39 = .ok (.aload_n 0, 1) := by decide +kernel
theorem dM_wrap_40 : decode prog_7_method_41_code 40 = .ok (.getfield 56, 3) := by decide +kernel
theorem dM_wrap_43 : decode prog_7_method_41_code 43 = .ok (.ifCond .eq 5, 3) := by decide +kernel
theorem dM_wrap_46 : decode prog_7_method_41_code 46 = .ok (.iconst 0, 1) := by decide +kernel
theorem dM_wrap_47 : decode prog_7_method_41_code 47 = .ok (.ireturn, 1) := by decide +kernel
theorem dM_wrap_48 : decode prog_7_method_41_code 48 = .ok (.aload_n 0, 1) := by decide +kernel
theorem dM_wrap_49 : decode prog_7_method_41_code 49 = .ok (.aload_n 0, 1) := by decide +kernel
theorem dM_wrap_50 : decode prog_7_method_41_code 50 = .ok (.getfield 64, 3) := by decide +kernel
theorem dM_wrap_53 : decode prog_7_method_41_code 53 = .ok (.ifCond .ne 7, 3) := by decide +kernel
theorem dM_wrap_56 : decode prog_7_method_41_code 56 = .ok (.iconst 2, 1) := by decide +kernel
theorem dM_wrap_57 : decode prog_7_method_41_code 57 = .ok (.goto 23, 3) := by decide +kernel
theorem dM_wrap_60 : decode prog_7_method_41_code 60 = .ok (.aload_n 0, 1) := by decide +kernel
theorem dM_wrap_61 : decode prog_7_method_41_code 61 = .ok (.iconst 1, 1) := by decide +kernel
theorem dM_wrap_62 : decode prog_7_method_41_code 62 = .ok (.bipush 13, 2) := by decide +kernel
theorem dM_wrap_64 : decode prog_7_method_41_code 64 = .ok (.invokevirtual 142, 3) := by decide +kernel
theorem dM_wrap_67 : decode prog_7_method_41_code 67 = .ok (.bipush 10, 2) := by decide +kernel
theorem dM_wrap_69 : decode prog_7_method_41_code 69 = .ok (.if_icmp .le 7, 3) := by decide +kernel
theorem dM_wrap_72 : decode prog_7_method_41_code 72 = .ok (.iconst 3, 1) := by decide +kernel
theorem dM_wrap_73 : decode prog_7_method_41_code 73 = .ok (.goto 7, 3) := by decide +kernel
theorem dM_wrap_76 : decode prog_7_method_41_code 76 = .ok (.aload_n 0, 1) := by decide +kernel
theorem dM_wrap_77 : decode prog_7_method_41_code 77 = .ok (.invokevirtual 125, 3) := by decide +kernel
theorem dM_wrap_80 : decode prog_7_method_41_code 80 = .ok (.putfield 56, 3) := by decide +kernel
theorem dM_wrap_83 : decode prog_7_method_41_code 83 = .ok (.aload_n 0, 1) := by decide +kernel
theorem dM_wrap_84 : decode prog_7_method_41_code 84 = .ok (.getfield 56, 3) := by decide +kernel
theorem dM_wrap_87 : decode prog_7_method_41_code 87 = .ok (.ifCond .eq 5, 3) := by decide +kernel
theorem dM_wrap_90 : decode prog_7_method_41_code 90 = .ok (.iconst 0, 1) := by decide +kernel
theorem dM_wrap_91 : decode prog_7_method_41_code 91 = .ok (.ireturn, 1) := by decide +kernel
theorem dM_wrap_92 : decode prog_7_method_41_code 92 = .ok (.aload_n 0, 1) := by decide +kernel
theorem dM_wrap_93 : decode prog_7_method_41_code 93 = .ok (.invokevirtual 83, 3) := by decide +kernel
theorem dM_wrap_96 : decode prog_7_method_41_code 96 = .ok (.iload_n 1, 1) := by decide +kernel
theorem dM_wrap_97 : decode prog_7_method_41_code 97 = .ok (.iconst 2, 1) := by decide +kernel
theorem dM_wrap_98 : decode prog_7_method_41_code 98 = .ok (.if_icmp .ne 7, 3) := by decide +kernel
theorem dM_wrap_101 : decode prog_7_method_41_code 101 = .ok (.iload_n 2, 1) := by decide +kernel
theorem dM_wrap_102 : decode prog_7_method_41_code 102 = .ok (.goto 9, 3) := by decide +kernel
theorem dM_wrap_105 : decode prog_7_method_41_code 105 = .ok (.aload_n 0, 1) := by decide +kernel
theorem dM_wrap_106 : decode prog_7_method_41_code 106 = .ok (.iload_n 1, 1) := by decide +kernel
theorem dM_wrap_107 : decode prog_7_method_41_code 107 = .ok (.iload_n 2, 1) := by decide +kernel
theorem dM_wrap_108 : decode prog_7_method_41_code 108 = .ok (.invokevirtual 118, 3) := by decide +kernel
theorem dM_wrap_111 : decode prog_7_method_41_code 111 = .ok (.istore_n 3, 1) := by decide +kernel
theorem dM_wrap_112 : decode prog_7_method_41_code 112 = .ok (.aload_n 0, 1) := by decide +kernel
theorem dM_wrap_113 : decode prog_7_method_41_code 113 = .ok (.invokevirtual 75, 3) := by decide +kernel
theorem dM_wrap_116 : decode prog_7_method_41_code 116 = .ok (.istore 4, 2) := by decide +kernel
theorem dM_wrap_118 : decode prog_7_method_41_code 118 = .ok (.aload_n 0, 1) := by decide +kernel
theorem dM_wrap_119 : decode prog_7_method_41_code 119 = .ok (.getfield 7, 3) := by decide +kernel
theorem dM_wrap_122 : decode prog_7_method_41_code 122 = .ok (.iload 4, 2) := by decide +kernel
theorem dM_wrap_124 : decode prog_7_method_41_code 124 = .ok (.iload_n 3, 1) := by decide +kernel
theorem dM_wrap_125 : decode prog_7_method_41_code 125 = .ok (.iastore, 1) := by decide +kernel
theorem dM_wrap_126 : decode prog_7_method_41_code 126 = .ok (.aload_n 0, 1) := by decide +kernel
theorem dM_wrap_127 : decode prog_7_method_41_code 127 = .ok (.invokevirtual 75, 3) := by decide +kernel
theorem dM_wrap_130 : decode prog_7_method_41_code 130 = .ok (.istore 5, 2) := by decide +kernel
theorem dM_wrap_132 : decode prog_7_method_41_code 132 = .ok (.aload_n 0, 1) := by decide +kernel
theorem dM_wrap_133 : decode prog_7_method_41_code 133 = .ok (.getfield 7, 3) := by decide +kernel
theorem dM_wrap_136 : decode prog_7_method_41_code 136 = .ok (.iload 5, 2) := by decide +kernel
theorem dM_wrap_138 : decode prog_7_method_41_code 138 = .ok (.iload 4, 2) := by decide +kernel
theorem dM_wrap_140 : decode prog_7_method_41_code 140 = .ok (.iastore, 1) := by decide +kernel
theorem dM_wrap_141 : decode prog_7_method_41_code 141 = .ok (.iload_n 1, 1) := by decide +kernel
theorem dM_wrap_142 : decode prog_7_method_41_code 142 = .ok (.iconst 2, 1) := by decide +kernel
theorem dM_wrap_143 : decode prog_7_method_41_code 143 = .ok (.if_icmp .ge 22, 3) := by decide +kernel
theorem dM_wrap_146 : decode prog_7_method_41_code 146 = .ok (.aload_n 0, 1) := by decide +kernel
theorem dM_wrap_147 : decode prog_7_method_41_code 147 = .ok (.getfield 7, 3) := by decide +kernel
theorem dM_wrap_150 : decode prog_7_method_41_code 150 = .ok (.iload_n 1, 1) := by decide +kernel
theorem dM_wrap_151 : decode prog_7_method_41_code 151 = .ok (.ifCond .ne 10, 3) := by decide +kernel
theorem dM_wrap_154 : decode prog_7_method_41_code 154 = .ok (.bipush 19, 2) := by decide +kernel
theorem dM_wrap_156 : decode prog_7_method_41_code 156 = .ok (.iload_n 2, 1) := by decide +kernel
theorem dM_wrap_157 : decode prog_7_method_41_code 157 = .ok (.iadd, 1) := by decide +kernel
theorem dM_wrap_158 : decode prog_7_method_41_code 158 = .ok (.goto 4, 3) := by decide +kernel
theorem dM_wrap_161 : decode prog_7_method_41_code 161 = .ok (.iload_n 2, 1) := by decide +kernel
theorem dM_wrap_162 : decode prog_7_method_41_code 162 = .ok (.iload 5, 2) := by decide +kernel
theorem dM_wrap_164 : decode prog_7_method_41_code 164 = .ok (.iastore, 1) := by decide +kernel
theorem dM_wrap_165 : decode prog_7_method_41_code 165 = .ok (.iload 4, 2) := by decide +kernel
theorem dM_wrap_167 : decode prog_7_method_41_code 167 = .ok (.ireturn, 1) := by decide +kernel
theorem dM_only_0 : decode prog_7_method_42_code 0 = .ok (.iconst (-1), 1) := by decide +kernel
theorem dM_only_1 : decode prog_7_method_42_code 1 = .ok (.istore_n 2, 1) := by decide +kernel
theorem dM_only_2 : decode prog_7_method_42_code 2 = .ok (.iconst 0, 1) := by decide +kernel
theorem dM_only_3 : decode prog_7_method_42_code 3 = .ok (.istore_n 3, 1) := by decide +kernel
theorem dM_only_4 : decode prog_7_method_42_code 4 = .ok (.iconst 1, 1) := by decide +kernel
theorem dM_only_5 : decode prog_7_method_42_code 5 = .ok (.istore 4, 2) := by decide +kernel
theorem dM_only_7 : decode prog_7_method_42_code 7 = .ok (.iload 4, 2) := by decide +kernel
theorem dM_only_9 : decode prog_7_method_42_code 9 = .ok (.bipush 13, 2) := by decide +kernel
theorem dM_only_11 : decode prog_7_method_42_code 11 = .ok (.if_icmp .ge 46, 3) := by decide +kernel
theorem dM_only_14 : decode prog_7_method_42_code 14 = .ok (.iload_n 3, 1) := by decide +kernel
theorem dM_only_15 : decode prog_7_method_42_code 15 = .ok (.aload_n 0, 1) := by decide +kernel
theorem dM_only_16 : decode prog_7_method_42_code 16 = .ok (.getfield 7, 3) := by decide +kernel
theorem dM_only_19 : decode prog_7_method_42_code 19 = .ok (.iload 4, 2) := by decide +kernel
theorem dM_only_21 : decode prog_7_method_42_code 21 = .ok (.iaload, 1) := by decide +kernel
theorem dM_only_22 : decode prog_7_method_42_code 22 = .ok (.iload_n 1, 1) := by decide +kernel
theorem dM_only_23 : decode prog_7_method_42_code 23 = .ok (.if_icmp .ne 7, 3) := by decide +kernel
theorem dM_only_26 : decode prog_7_method_42_code 26 = .ok (.iconst 1, 1) := by decide +kernel
theorem dM_only_27 : decode prog_7_method_42_code 27 = .ok (.goto 4, 3) := by decide +kernel
theorem dM_only_30 : decode prog_7_method_42_code 30 = .ok (.iconst 0, 1) := by decide +kernel
theorem dM_only_31 : decode prog_7_method_42_code 31 = .ok (.iadd, 1) := by decide +kernel
theorem dM_only_32 : decode prog_7_method_42_code 32 = .ok (.istore_n 3, 1) := by decide +kernel
theorem dM_only_33 : decode prog_7_method_42_code 33 = .ok (.aload_n 0, 1) := by decide +kernel
theorem dM_only_34 : decode prog_7_method_42_code 34 = .ok (.getfield 7, 3) := by decide +kernel
theorem dM_only_37 : decode prog_7_method_42_code 37 = .ok (.iload 4, 2) := by decide +kernel
theorem dM_only_39 : decode prog_7_method_42_code 39 = .ok (.iaload, 1) := by decide +kernel
theorem dM_only_40 : decode prog_7_method_42_code 40 = .ok (.iload_n 1, 1) := by decide +kernel
theorem dM_only_41 : decode prog_7_method_42_code 41 = .ok (.if_icmp .ne 8, 3) := by decide +kernel
theorem dM_only_44 : decode prog_7_method_42_code 44 = .ok (.iload 4, 2) := by decide +kernel
theorem dM_only_46 : decode prog_7_method_42_code 46 = .ok (.goto 4, 3) := by decide +kernel
theorem dM_only_49 : decode prog_7_method_42_code 49 = .ok (.iload_n 2, 1) := by decide +kernel
theorem dM_only_50 : decode prog_7_method_42_code 50 = .ok (.istore_n 2, 1) := by decide +kernel
theorem dM_only_51 : decode prog_7_method_42_code 51 = .ok (.iinc 4 1, 3) := by decide +kernel
theorem dM_only_54 : decode prog_7_method_42_code 54 = .ok (.goto (-47), 3) := by decide +kernel
theorem dM_only_57 : decode prog_7_method_42_code 57 = .ok (.bipush 13, 2) := by decide +kernel
theorem dM_only_59 : decode prog_7_method_42_code 59 = .ok (.istore 4, 2) := by decide +kernel
theorem dM_only_61 : decode prog_7_method_42_code 61 = .ok (.iload 4, 2) := by decide +kernel
theorem dM_only_63 : decode prog_7_method_42_code 63 = .ok (.bipush 31, 2) := by decide +kernel
theorem dM_only_65 : decode prog_7_method_42_code 65 = .ok (.if_icmp .ge 28, 3) := by decide +kernel
theorem dM_only_68 : decode prog_7_method_42_code 68 = .ok (.iload_n 3, 1) := by decide +kernel
theorem dM_only_69 : decode prog_7_method_42_code 69 = .ok (.aload_n 0, 1) := by decide +kernel
theorem dM_only_70 : decode prog_7_method_42_code 70 = .ok (.getfield 7, 3) := by decide +kernel
theorem dM_only_73 : decode prog_7_method_42_code 73 = .ok (.iload 4, 2) := by decide +kernel
theorem dM_only_75 : decode prog_7_method_42_code 75 = .ok (.iaload, 1) := by decide +kernel
theorem dM_only_76 : decode prog_7_method_42_code 76 = .ok (.iload_n 1, 1) := by decide +kernel
theorem dM_only_77 : decode prog_7_method_42_code 77 = .ok (.if_icmp .ne 7, 3) := by decide +kernel
theorem dM_only_80 : decode prog_7_method_42_code 80 = .ok (.iconst 2, 1) := by decide +kernel
theorem dM_only_81 : decode prog_7_method_42_code 81 = .ok (.goto 4, 3) := by decide +kernel
theorem dM_only_84 : decode prog_7_method_42_code 84 = .ok (.iconst 0, 1) := by decide +kernel
theorem dM_only_85 : decode prog_7_method_42_code 85 = .ok (.iadd, 1) := by decide +kernel
theorem dM_only_86 : decode prog_7_method_42_code 86 = .ok (.istore_n 3, 1) := by decide +kernel
theorem dM_only_87 : decode prog_7_method_42_code 87 = .ok (.iinc 4 1, 3) := by decide +kernel
theorem dM_only_90 : decode prog_7_method_42_code 90 = .ok (.goto (-29), 3) := by decide +kernel
theorem dM_only_93 : decode prog_7_method_42_code 93 = .ok (.iload_n 3, 1) := by decide +kernel
theorem dM_only_94 : decode prog_7_method_42_code 94 = .ok (.iconst 1, 1) := by decide +kernel
theorem dM_only_95 : decode prog_7_method_42_code 95 = .ok (.if_icmp .ne 7, 3) := by decide +kernel
theorem dM_only_98 : decode prog_7_method_42_code 98 = .ok (.iload_n 2, 1) := by decide +kernel
theorem dM_only_99 : decode prog_7_method_42_code 99 = .ok (.goto 4, 3) := by decide +kernel
theorem dM_only_102 : decode prog_7_method_42_code 102 = .ok (.iconst (-1), 1) := by decide +kernel
theorem dM_only_103 : decode prog_7_method_42_code 103 = .ok (.ireturn, 1) := by decide +kernel
theorem dM_unwrap_0 : decode prog_7_method_43_code 0 = .ok (.aload_n 0, 1) := by decide +kernel
theorem dM_unwrap_1 : decode prog_7_method_43_code 1 = .ok (.aload_n 0, 1) := by decide +kernel
theorem dM_unwrap_2 : decode prog_7_method_43_code 2 = .ok (.iload_n 1, 1) := by decide +kernel
theorem dM_unwrap_3 : decode prog_7_method_43_code 3 = .ok (.invokevirtual 112, 3) := by decide +kernel
theorem dM_unwrap_6 : decode prog_7_method_43_code 6 = .ok (.ifCond .ne 7, 3) := by decide +kernel
theorem dM_unwrap_9 : decode prog_7_method_43_code 9 = .ok (.iconst 1, 1) := by decide +kernel
theorem dM_unwrap_10 : decode prog_7_method_43_code 10 = .ok (.goto 4, 3) := by decide +kernel
theorem dM_unwrap_13 : decode prog_7_method_43_code 13 = .ok (.iconst 0, 1) := by decide +kernel
theorem dM_unwrap_14 : decode prog_7_method_43_code 14 = .ok (.putfield 56, 3) := by decide +kernel
theorem dM_unwrap_17 : decode prog_7_method_43_code 17 = .ok (.aload_n 0, 1) := by decide +kernel
theorem dM_unwrap_18 : decode prog_7_method_43_code 18 = .ok (.getfield 56, 3) := by decide +kernel
theorem dM_unwrap_21 : decode prog_7_method_43_code 21 = .ok (.ifCond .eq 5, 3) := by decide +kernel
theorem dM_unwrap_24 : decode prog_7_method_43_code 24 = .ok (.iconst 0, 1) := by decide +kernel
theorem dM_unwrap_25 : decode prog_7_method_43_code 25 = .ok (.ireturn, 1) := by decide +kernel
theorem dM_unwrap_26 : decode prog_7_method_43_code 26 = .ok (.aload_n 0, 1) := by decide +kernel
theorem dM_unwrap_27 : decode prog_7_method_43_code 27 = .ok (.iload_n 1, 1) := by decide +kernel
theorem dM_unwrap_28 : decode prog_7_method_43_code 28 = .ok (.invokevirtual 178, 3) := by decide +kernel
theorem dM_unwrap_31 : decode prog_7_method_43_code 31 = .ok (.istore_n 2, 1) := by decide +kernel
theorem dM_unwrap_32 : decode prog_7_method_43_code 32 = .ok (.aload_n 0, 1) := by decide +kernel
theorem dM_unwrap_33 : decode prog_7_method_43_code 33 = .ok (.aload_n 0, 1) := by decide +kernel
theorem dM_unwrap_34 : decode prog_7_method_43_code 34 = .ok (.getfield 64, 3) := by decide +kernel
theorem dM_unwrap_37 : decode prog_7_method_43_code 37 = .ok (.ifCond .eq 8, 3) := by decide +kernel
theorem dM_unwrap_40 : decode prog_7_method_43_code 40 = .ok (.iload_n 2, 1) := by decide +kernel
theorem dM_unwrap_41 : decode prog_7_method_43_code 41 = .ok (.iconst (-1), 1) := by decide +kernel
theorem dM_unwrap_42 : decode prog_7_method_43_code 42 = .ok (.if_icmp .ne 7, 3) := by decide +kernel
theorem dM_unwrap_45 : decode prog_7_method_43_code 45 = .ok (.iconst 2, 1) := by decide +kernel
theorem dM_unwrap_46 : decode prog_7_method_43_code 46 = .ok (.goto 7, 3) := by decide +kernel
theorem dM_unwrap_49 : decode prog_7_method_43_code 49 = .ok (.aload_n 0, 1) := by decide +kernel
theorem dM_unwrap_50 : decode prog_7_method_43_code 50 = .ok (.invokevirtual 125, 3) := by decide +kernel
theorem dM_unwrap_53 : decode prog_7_method_43_code 53 = .ok (.putfield 56, 3) := by decide +kernel
theorem dM_unwrap_56 : decode prog_7_method_43_code 56 = .ok (.aload_n 0, 1) := by decide +kernel
theorem dM_unwrap_57 : decode prog_7_method_43_code 57 = .ok (.getfield 56, 3) := by decide +kernel
theorem dM_unwrap_60 : decode prog_7_method_43_code 60 = .ok (.ifCond .eq 5, 3) := by decide +kernel
theorem dM_unwrap_63 : decode prog_7_method_43_code 63 = .ok (.iconst 0, 1) := by decide +kernel
theorem dM_unwrap_64 : decode prog_7_method_43_code 64 = .ok (.ireturn, 1) := by decide +kernel
theorem dM_unwrap_65 : decode prog_7_method_43_code 65 = .ok (.aload_n 0, 1) := by decide +kernel
theorem dM_unwrap_66 : decode prog_7_method_43_code 66 = .ok (.invokevirtual 83, 3) := by decide +kernel
theorem dM_unwrap_69 : decode prog_7_method_43_code 69 = .ok (.aload_n 0, 1) := by decide +kernel
theorem dM_unwrap_70 : decode prog_7_method_43_code 70 = .ok (.getfield 7, 3) := by decide +kernel
theorem dM_unwrap_73 : decode prog_7_method_43_code 73 = .ok (.iload_n 1, 1) := by decide +kernel
theorem dM_unwrap_74 : decode prog_7_method_43_code 74 = .ok (.iaload, 1) := by decide +kernel
theorem dM_unwrap_75 : decode prog_7_method_43_code 75 = .ok (.istore_n 3, 1) := by decide +kernel
theorem dM_unwrap_76 : decode prog_7_method_43_code 76 = .ok (.aload_n 0, 1) := by decide +kernel
theorem dM_unwrap_77 : decode prog_7_method_43_code 77 = .ok (.getfield 7, 3) := by decide +kernel
theorem dM_unwrap_80 : decode prog_7_method_43_code 80 = .ok (.iload_n 1, 1) := by decide +kernel
theorem dM_unwrap_81 : decode prog_7_method_43_code 81 = .ok (.iconst (-1), 1) := by decide +kernel
theorem dM_unwrap_82 : decode prog_7_method_43_code 82 = .ok (.iastore, 1) := by decide +kernel
theorem dM_unwrap_83 : decode prog_7_method_43_code 83 = .ok (.aload_n 0, 1) := by decide +kernel
theorem dM_unwrap_84 : decode prog_7_method_43_code 84 = .ok (.getfield 7, 3) := by decide +kernel
theorem dM_unwrap_87 : decode prog_7_method_43_code 87 = .ok (.iload_n 2, 1) := by decide +kernel
theorem dM_unwrap_88 : decode prog_7_method_43_code 88 = .ok (.iconst (-1), 1) := by decide +kernel
theorem dM_unwrap_89 : decode prog_7_method_43_code 89 = .ok (.iastore, 1) := by decide +kernel
theorem dM_unwrap_90 : decode prog_7_method_43_code 90 = .ok (.iconst 1, 1) := by decide +kernel
theorem dM_unwrap_91 : decode prog_7_method_43_code 91 = .ok (.istore 4, 2) := by decide +kernel
theorem dM_unwrap_93 : decode prog_7_method_43_code 93 = .ok (.iload 4, 2) := by decide +kernel
theorem dM_unwrap_95 : decode prog_7_method_43_code 95 = .ok (.bipush 31, 2) := by decide +kernel
theorem dM_unwrap_97 : decode prog_7_method_43_code 97 = .ok (.if_icmp .ge 38, 3) := by decide +kernel
theorem dM_unwrap_100 : decode prog_7_method_43_code 100 = .ok (.aload_n 0, 1) := by decide +kernel
theorem dM_unwrap_101 : decode prog_7_method_43_code 101 = .ok (.getfield 7, 3) := by decide +kernel
theorem dM_unwrap_104 : decode prog_7_method_43_code 104 = .ok (.iload 4, 2) := by decide +kernel
theorem dM_unwrap_106 : decode prog_7_method_43_code 106 = .ok (.aload_n 0, 1) := by decide +kernel
theorem dM_unwrap_107 : decode prog_7_method_43_code 107 = .ok (.getfield 7, 3) := by decide +kernel
theorem dM_unwrap_110 : decode prog_7_method_43_code 110 = .ok (.iload 4, 2) := by decide +kernel
theorem dM_unwrap_112 : decode prog_7_method_43_code 112 = .ok (.iaload, 1) := by decide +kernel
theorem dM_unwrap_113 : decode prog_7_method_43_code 113 = .ok (.iload_n 2, 1) := by decide +kernel
theorem dM_unwrap_114 : decode prog_7_method_43_code 114 = .ok (.if_icmp .ne 7, 3) := by decide +kernel
theorem dM_unwrap_117 : decode prog_7_method_43_code 117 = .ok (.iload_n 3, 1) := by decide +kernel
theorem dM_unwrap_118 : decode prog_7_method_43_code 118 = .ok (.goto 10, 3) := by decide +kernel
theorem dM_unwrap_121 : decode prog_7_method_43_code 121 = .ok (.aload_n 0, 1) := by decide +kernel
theorem dM_unwrap_122 : decode prog_7_method_43_code 122 = .ok (.getfield 7, 3) := by decide +kernel
theorem dM_unwrap_125 : decode prog_7_method_43_code 125 = .ok (.iload 4, 2) := by decide +kernel
theorem dM_unwrap_127 : decode prog_7_method_43_code 127 = .ok (.iaload, 1) := by decide +kernel
theorem dM_unwrap_128 : decode prog_7_method_43_code 128 = .ok (.iastore, 1) := by decide +kernel
theorem dM_unwrap_129 : decode prog_7_method_43_code 129 = .ok (.iinc 4 1, 3) := by decide +kernel
theorem dM_unwrap_132 : decode prog_7_method_43_code 132 = .ok (.goto (-39), 3) := by decide +kernel
theorem dM_unwrap_135 : decode prog_7_method_43_code 135 = .ok (.aload_n 0, 1) := by decide +kernel
theorem dM_unwrap_136 : decode prog_7_method_43_code 136 = .ok (.getfield 68, 3) := by decide +kernel
theorem dM_unwrap_139 : decode prog_7_method_43_code 139 = .ok (.ireturn, 1) := by decide +kernel
theorem dM_join_0 : decode prog_7_method_44_code 0 = .ok (.aload_n 0, 1) := by decide +kernel
theorem dM_join_1 : decode prog_7_method_44_code 1 = .ok (.aload_n 0, 1) := by decide +kernel
theorem dM_join_2 : decode prog_7_method_44_code 2 = .ok (.iload_n 1, 1) := by decide +kernel
theorem dM_join_3 : decode prog_7_method_44_code 3 = .ok (.invokevirtual 89, 3) := by decide +kernel
theorem dM_join_6 : decode prog_7_method_44_code 6 = .ok (.ifCond .eq 16, 3) := by decide +kernel
theorem dM_join_9 : decode prog_7_method_44_code 9 = .ok (.aload_n 0, 1) := by decide +kernel
theorem dM_join_10 : decode prog_7_method_44_code 10 = .ok (.iload_n 2, 1) := by decide +kernel
theorem dM_join_11 : decode prog_7_method_44_code 11 = .ok (.invokevirtual 89, 3) := by decide +kernel
theorem dM_join_14 : decode prog_7_method_44_code 14 = .ok (.ifCond .eq 8, 3) := by decide +kernel
theorem dM_join_17 : decode prog_7_method_44_code 17 = .ok (.iload_n 1, 1) := by decide +kernel
theorem dM_join_18 : decode prog_7_method_44_code 18 = .ok (.iload_n 2, 1) := by decide +kernel
theorem dM_join_19 : decode prog_7_method_44_code 19 = .ok (.if_icmp .ne 7, 3) := by decide +kernel
theorem dM_join_22 : decode prog_7_method_44_code 22 = .ok (.iconst 1, 1) := by decide +kernel
theorem dM_join_23 : decode prog_7_method_44_code 23 = .ok (.goto 4, 3) := by decide +kernel
theorem dM_join_26 : decode prog_7_method_44_code 26 = .ok (.iconst 0, 1) := by decide +kernel
theorem dM_join_27 : decode prog_7_method_44_code 27 = .ok (.putfield 56, 3) := by decide +kernel
theorem dM_join_30 : decode prog_7_method_44_code 30 = .ok (.aload_n 0, 1) := by decide +kernel
theorem dM_join_31 : decode prog_7_method_44_code 31 = .ok (.getfield 56, 3) := by decide +kernel
theorem dM_join_34 : decode prog_7_method_44_code 34 = .ok (.ifCond .eq 5, 3) := by decide +kernel
theorem dM_join_37 : decode prog_7_method_44_code 37 = .ok (.iconst 0, 1) := by decide +kernel
theorem dM_join_38 : decode prog_7_method_44_code 38 = .ok (.ireturn, 1) := by decide +kernel
theorem dM_join_39 : decode prog_7_method_44_code 39 = .ok (.aload_n 0, 1) := by decide +kernel
theorem dM_join_40 : decode prog_7_method_44_code 40 = .ok (.getfield 7, 3) := by decide +kernel
theorem dM_join_43 : decode prog_7_method_44_code 43 = .ok (.bipush 13, 2) := by decide +kernel
theorem dM_join_45 : decode prog_7_method_44_code 45 = .ok (.iload_n 1, 1) := by decide +kernel
theorem dM_join_46 : decode prog_7_method_44_code 46 = .ok (.iadd, 1) := by decide +kernel
theorem dM_join_47 : decode prog_7_method_44_code 47 = .ok (.iaload, 1) := by decide +kernel
theorem dM_join_48 : decode prog_7_method_44_code 48 = .ok (.istore_n 3, 1) := by decide +kernel
theorem dM_join_49 : decode prog_7_method_44_code 49 = .ok (.aload_n 0, 1) := by decide +kernel
theorem dM_join_50 : decode prog_7_method_44_code 50 = .ok (.aload_n 0, 1) := by decide +kernel
theorem dM_join_51 : decode prog_7_method_44_code 51 = .ok (.getfield 64, 3) := by decide +kernel
theorem dM_join_54 : decode prog_7_method_44_code 54 = .ok (.ifCond .eq 30, 3) := by decide +kernel
theorem dM_join_57 : decode prog_7_method_44_code 57 = .ok (.aload_n 0, 1) := by decide +kernel
theorem dM_join_58 : decode prog_7_method_44_code 58 = .ok (.iload_n 3, 1) := by decide +kernel
theorem dM_join_59 : decode prog_7_method_44_code 59 = .ok (.invokevirtual 71, 3) := by decide +kernel
theorem dM_join_62 : decode prog_7_method_44_code 62 = .ok (.iconst 2, 1) := by decide +kernel
theorem dM_join_63 : decode prog_7_method_44_code 63 = .ok (.irem, 1) := by decide +kernel
theorem dM_join_64 : decode prog_7_method_44_code 64 = .ok (.ifCond .eq 20, 3) := by decide +kernel
theorem dM_join_67 : decode prog_7_method_44_code 67 = .ok (.aload_n 0, 1) := by decide +kernel
theorem dM_join_68 : decode prog_7_method_44_code 68 = .ok (.iload_n 3, 1) := by decide +kernel
theorem dM_join_69 : decode prog_7_method_44_code 69 = .ok (.aload_n 0, 1) := by decide +kernel
theorem dM_join_70 : decode prog_7_method_44_code 70 = .ok (.getfield 7, 3) := by decide +kernel
theorem dM_join_73 : decode prog_7_method_44_code 73 = .ok (.bipush 13, 2) := by decide +kernel
theorem dM_join_75 : decode prog_7_method_44_code 75 = .ok (.iload_n 2, 1) := by decide +kernel
theorem dM_join_76 : decode prog_7_method_44_code 76 = .ok (.iadd, 1) := by decide +kernel
theorem dM_join_77 : decode prog_7_method_44_code 77 = .ok (.iaload, 1) := by decide +kernel
theorem dM_join_78 : decode prog_7_method_44_code 78 = .ok (.invokevirtual 92, 3) := by decide +kernel
theorem dM_join_81 : decode prog_7_method_44_code 81 = .ok (.ifCond .ne 7, 3) := by decide +kernel
theorem dM_join_84 : decode prog_7_method_44_code 84 = .ok (.iconst 2, 1) := by decide +kernel
theorem dM_join_85 : decode prog_7_method_44_code 85 = .ok (.goto 7, 3) := by decide +kernel
theorem dM_join_88 : decode prog_7_method_44_code 88 = .ok (.aload_n 0, 1) := by decide +kernel
theorem dM_join_89 : decode prog_7_method_44_code 89 = .ok (.invokevirtual 125, 3) := by decide +kernel
theorem dM_join_92 : decode prog_7_method_44_code 92 = .ok (.putfield 56, 3) := by decide +kernel
theorem dM_join_95 : decode prog_7_method_44_code 95 = .ok (.aload_n 0, 1) := by decide +kernel
theorem dM_join_96 : decode prog_7_method_44_code 96 = .ok (.getfield 56, 3) := by decide +kernel
theorem dM_join_99 : decode prog_7_method_44_code 99 = .ok (.ifCond .eq 5, 3) := by decide +kernel
theorem dM_join_102 : decode prog_7_method_44_code 102 = .ok (.iconst 0, 1) := by decide +kernel
theorem dM_join_103 : decode prog_7_method_44_code 103 = .ok (.ireturn, 1) := by decide +kernel
theorem dM_join_104 : decode prog_7_method_44_code 104 = .ok (.aload_n 0, 1) := by decide +kernel
theorem dM_join_105 : decode prog_7_method_44_code 105 = .ok (.invokevirtual 83, 3) := by decide +kernel
theorem dM_join_108 : decode prog_7_method_44_code 108 = .ok (.aload_n 0, 1) := by decide +kernel
theorem dM_join_109 : decode prog_7_method_44_code 109 = .ok (.getfield 7, 3) := by decide +kernel
theorem dM_join_112 : decode prog_7_method_44_code 112 = .ok (.bipush 13, 2) := by decide +kernel
theorem dM_join_114 : decode prog_7_method_44_code 114 = .ok (.iload_n 1, 1) := by decide +kernel
theorem dM_join_115 : decode prog_7_method_44_code 115 = .ok (.iadd, 1) := by decide +kernel
theorem dM_join_116 : decode prog_7_method_44_code 116 = .ok (.iconst (-1), 1) := by decide +kernel
theorem dM_join_117 : decode prog_7_method_44_code 117 = .ok (.iastore, 1) := by decide +kernel
theorem dM_join_118 : decode prog_7_method_44_code 118 = .ok (.bipush 43, 2) := by decide +kernel
theorem dM_join_120 : decode prog_7_method_44_code 120 = .ok (.istore 4, 2) := by decide +kernel
theorem dM_join_122 : decode prog_7_method_44_code 122 = .ok (.iload 4, 2) := by decide +kernel
theorem dM_join_124 : decode prog_7_method_44_code 124 = .ok (.bipush 67, 2) := by decide +kernel
theorem dM_join_126 : decode prog_7_method_44_code 126 = .ok (.if_icmp .ge 38, 3) := by decide +kernel
theorem dM_join_129 : decode prog_7_method_44_code 129 = .ok (.aload_n 0, 1) := by decide +kernel
theorem dM_join_130 : decode prog_7_method_44_code 130 = .ok (.getfield 7, 3) := by decide +kernel
theorem dM_join_133 : decode prog_7_method_44_code 133 = .ok (.iload 4, 2) := by decide +kernel
theorem dM_join_135 : decode prog_7_method_44_code 135 = .ok (.aload_n 0, 1) := by decide +kernel
theorem dM_join_136 : decode prog_7_method_44_code 136 = .ok (.getfield 7, 3) := by decide +kernel
theorem dM_join_139 : decode prog_7_method_44_code 139 = .ok (.iload 4, 2) := by decide +kernel
theorem dM_join_141 : decode prog_7_method_44_code 141 = .ok (.iaload, 1) := by decide +kernel
theorem dM_join_142 : decode prog_7_method_44_code 142 = .ok (.iload_n 1, 1) := by decide +kernel
theorem dM_join_143 : decode prog_7_method_44_code 143 = .ok (.if_icmp .ne 7, 3) := by decide +kernel
theorem dM_join_146 : decode prog_7_method_44_code 146 = .ok (.iload_n 2, 1) := by decide +kernel
theorem dM_join_147 : decode prog_7_method_44_code 147 = .ok (.goto 10, 3) := by decide +kernel
theorem dM_join_150 : decode prog_7_method_44_code 150 = .ok (.aload_n 0, 1) := by decide +kernel
theorem dM_join_151 : decode prog_7_method_44_code 151 = .ok (.getfield 7, 3) := by decide +kernel
theorem dM_join_154 : decode prog_7_method_44_code 154 = .ok (.iload 4, 2) := by decide +kernel
theorem dM_join_156 : decode prog_7_method_44_code 156 = .ok (.iaload, 1) := by decide +kernel
theorem dM_join_157 : decode prog_7_method_44_code 157 = .ok (.iastore, 1) := by decide +kernel
theorem dM_join_158 : decode prog_7_method_44_code 158 = .ok (.iinc 4 1, 3) := by decide +kernel
theorem dM_join_161 : decode prog_7_method_44_code 161 = .ok (.goto (-39), 3) := by decide +kernel
theorem dM_join_164 : decode prog_7_method_44_code 164 = .ok (.aload_n 0, 1) := by decide +kernel
theorem dM_join_165 : decode prog_7_method_44_code 165 = .ok (.getfield 68, 3) := by decide +kernel
theorem dM_join_168 : decode prog_7_method_44_code 168 = .ok (.ireturn, 1) := by decide +kernel
theorem dM_sever_0 : decode prog_7_method_45_code 0 = .ok (.aload_n 0, 1) := by decide +kernel
theorem dM_sever_1 : decode prog_7_method_45_code 1 = .ok (.aload_n 0, 1) := by decide +kernel
theorem dM_sever_2 : decode prog_7_method_45_code 2 = .ok (.iload_n 1, 1) := by decide +kernel
theorem dM_sever_3 : decode prog_7_method_45_code 3 = .ok (.invokevirtual 89, 3) := by decide +kernel
theorem dM_sever_6 : decode prog_7_method_45_code 6 = .ok (.ifCond .eq 11, 3) := by decide +kernel
theorem dM_sever_9 : decode prog_7_method_45_code 9 = .ok (.aload_n 0, 1) := by decide +kernel
theorem dM_sever_10 : decode prog_7_method_45_code 10 = .ok (.iload_n 2, 1) := by decide +kernel
theorem dM_sever_11 : decode prog_7_method_45_code 11 = .ok (.invokevirtual 60, 3) := by decide +kernel
theorem dM_sever_14 : decode prog_7_method_45_code 14 = .ok (.ifCond .ne 7, 3) := by decide +kernel
theorem dM_sever_17 : decode prog_7_method_45_code 17 = .ok (.iconst 1, 1) := by decide +kernel
theorem dM_sever_18 : decode prog_7_method_45_code 18 = .ok (.goto 4, 3) := by decide +kernel
theorem dM_sever_21 : decode prog_7_method_45_code 21 = .ok (.iconst 0, 1) := by decide +kernel
theorem dM_sever_22 : decode prog_7_method_45_code 22 = .ok (.putfield 56, 3) := by decide +kernel
theorem dM_sever_25 : decode prog_7_method_45_code 25 = .ok (.aload_n 0, 1) := by decide +kernel
theorem dM_sever_26 : decode prog_7_method_45_code 26 = .ok (.getfield 56, 3) := by decide +kernel
