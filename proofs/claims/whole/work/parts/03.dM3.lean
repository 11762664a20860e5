/-! printed by wip/whole/gen_names.py: decode rows -/
theorem dM_sever_29 : decode prog_7_method_45_code 29 = .ok (.ifCond .eq 5, 3) := by decide +kernel
theorem dM_sever_32 : decode prog_7_method_45_code 32 = .ok (.iconst 0, 1) := by decide +kernel
theorem dM_sever_33 : decode prog_7_method_45_code 33 = .ok (.ireturn, 1) := by decide +kernel
theorem dM_sever_34 : decode prog_7_method_45_code 34 = .ok (.aload_n 0, 1) := by decide +kernel
theorem dM_sever_35 : decode prog_7_method_45_code 35 = .ok (.getfield 64, 3) := by decide +kernel
theorem dM_sever_38 : decode prog_7_method_45_code 38 = .ok (.ifCond .eq 34, 3) := by decide +kernel
theorem dM_sever_41 : decode prog_7_method_45_code 41 = .ok (.aload_n 0, 1) := by decide +kernel
theorem dM_sever_42 : decode prog_7_method_45_code 42 = .ok (.iload_n 2, 1) := by decide +kernel
theorem dM_sever_43 : decode prog_7_method_45_code 43 = .ok (.invokevirtual 71, 3) := by decide +kernel
theorem dM_sever_46 : decode prog_7_method_45_code 46 = .ok (.iconst 2, 1) := by decide +kernel
theorem dM_sever_47 : decode prog_7_method_45_code 47 = .ok (.irem, 1) := by decide +kernel
theorem dM_sever_48 : decode prog_7_method_45_code 48 = .ok (.ifCond .ne 24, 3) := by decide +kernel
theorem dM_sever_51 : decode prog_7_method_45_code 51 = .ok (.aload_n 0, 1) := by decide +kernel
theorem dM_sever_52 : decode prog_7_method_45_code 52 = .ok (.iload_n 2, 1) := by decide +kernel
theorem dM_sever_53 : decode prog_7_method_45_code 53 = .ok (.aload_n 0, 1) := by decide +kernel
theorem dM_sever_54 : decode prog_7_method_45_code 54 = .ok (.getfield 7, 3) := by decide +kernel
theorem dM_sever_57 : decode prog_7_method_45_code 57 = .ok (.bipush 13, 2) := by decide +kernel
theorem dM_sever_59 : decode prog_7_method_45_code 59 = .ok (.iload_n 1, 1) := by decide +kernel
theorem dM_sever_60 : decode prog_7_method_45_code 60 = .ok (.iadd, 1) := by decide +kernel
theorem dM_sever_61 : decode prog_7_method_45_code 61 = .ok (.iaload, 1) := by decide +kernel
theorem dM_sever_62 : decode prog_7_method_45_code 62 = .ok (.invokevirtual 92, 3) := by decide +kernel
theorem dM_sever_65 : decode prog_7_method_45_code 65 = .ok (.ifCond .eq 7, 3) := by decide +kernel
theorem dM_sever_68 : decode prog_7_method_45_code 68 = .ok (.iconst 1, 1) := by decide +kernel
theorem dM_sever_69 : decode prog_7_method_45_code 69 = .ok (.goto 4, 3) := by decide +kernel
theorem dM_sever_72 : decode prog_7_method_45_code 72 = .ok (.iconst 0, 1) := by decide +kernel
theorem dM_sever_73 : decode prog_7_method_45_code 73 = .ok (.istore_n 3, 1) := by decide +kernel
theorem dM_sever_74 : decode prog_7_method_45_code 74 = .ok (.aload_n 0, 1) := by decide +kernel
theorem dM_sever_75 : decode prog_7_method_45_code 75 = .ok (.iload_n 3, 1) := by decide +kernel
theorem dM_sever_76 : decode prog_7_method_45_code 76 = .ok (.ifCond .ne 7, 3) := by decide +kernel
theorem dM_sever_79 : decode prog_7_method_45_code 79 = .ok (.iconst 2, 1) := by decide +kernel
theorem dM_sever_80 : decode prog_7_method_45_code 80 = .ok (.goto 20, 3) := by decide +kernel
theorem dM_sever_83 : decode prog_7_method_45_code 83 = .ok (.aload_n 0, 1) := by decide +kernel
theorem dM_sever_84 : decode prog_7_method_45_code 84 = .ok (.invokevirtual 86, 3) := by decide +kernel
theorem dM_sever_87 : decode prog_7_method_45_code 87 = .ok (.bipush 6, 2) := by decide +kernel
theorem dM_sever_89 : decode prog_7_method_45_code 89 = .ok (.if_icmp .ne 7, 3) := by decide +kernel
theorem dM_sever_92 : decode prog_7_method_45_code 92 = .ok (.iconst 3, 1) := by decide +kernel
theorem dM_sever_93 : decode prog_7_method_45_code 93 = .ok (.goto 7, 3) := by decide +kernel
theorem dM_sever_96 : decode prog_7_method_45_code 96 = .ok (.aload_n 0, 1) := by decide +kernel
theorem dM_sever_97 : decode prog_7_method_45_code 97 = .ok (.invokevirtual 125, 3) := by decide +kernel
theorem dM_sever_100 : decode prog_7_method_45_code 100 = .ok (.putfield 56, 3) := by decide +kernel
theorem dM_sever_103 : decode prog_7_method_45_code 103 = .ok (.aload_n 0, 1) := by decide +kernel
theorem dM_sever_104 : decode prog_7_method_45_code 104 = .ok (.getfield 56, 3) := by decide +kernel
theorem dM_sever_107 : decode prog_7_method_45_code 107 = .ok (.ifCond .eq 5, 3) := by decide +kernel
theorem dM_sever_110 : decode prog_7_method_45_code 110 = .ok (.iconst 0, 1) := by decide +kernel
theorem dM_sever_111 : decode prog_7_method_45_code 111 = .ok (.ireturn, 1) := by decide +kernel
theorem dM_sever_112 : decode prog_7_method_45_code 112 = .ok (.aload_n 0, 1) := by decide +kernel
theorem dM_sever_113 : decode prog_7_method_45_code 113 = .ok (.invokevirtual 83, 3) := by decide +kernel
theorem dM_sever_116 : decode prog_7_method_45_code 116 = .ok (.aload_n 0, 1) := by decide +kernel
theorem dM_sever_117 : decode prog_7_method_45_code 117 = .ok (.invokevirtual 86, 3) := by decide +kernel
theorem dM_sever_120 : decode prog_7_method_45_code 120 = .ok (.istore 4, 2) := by decide +kernel
theorem dM_sever_122 : decode prog_7_method_45_code 122 = .ok (.aload_n 0, 1) := by decide +kernel
theorem dM_sever_123 : decode prog_7_method_45_code 123 = .ok (.getfield 7, 3) := by decide +kernel
theorem dM_sever_126 : decode prog_7_method_45_code 126 = .ok (.bipush 13, 2) := by decide +kernel
theorem dM_sever_128 : decode prog_7_method_45_code 128 = .ok (.iload 4, 2) := by decide +kernel
theorem dM_sever_130 : decode prog_7_method_45_code 130 = .ok (.iadd, 1) := by decide +kernel
theorem dM_sever_131 : decode prog_7_method_45_code 131 = .ok (.iload_n 2, 1) := by decide +kernel
theorem dM_sever_132 : decode prog_7_method_45_code 132 = .ok (.iastore, 1) := by decide +kernel
theorem dM_sever_133 : decode prog_7_method_45_code 133 = .ok (.iconst 0, 1) := by decide +kernel
theorem dM_sever_134 : decode prog_7_method_45_code 134 = .ok (.istore 5, 2) := by decide +kernel
theorem dM_sever_136 : decode prog_7_method_45_code 136 = .ok (.iload 5, 2) := by decide +kernel
theorem dM_sever_138 : decode prog_7_method_45_code 138 = .ok (.bipush 12, 2) := by decide +kernel
theorem dM_sever_140 : decode prog_7_method_45_code 140 = .ok (.if_icmp .ge 117, 3) := by decide +kernel
theorem dM_sever_143 : decode prog_7_method_45_code 143 = .ok (.iconst 0, 1) := by decide +kernel
theorem dM_sever_144 : decode prog_7_method_45_code 144 = .ok (.istore 6, 2) := by decide +kernel
theorem dM_sever_146 : decode prog_7_method_45_code 146 = .ok (.iload 6, 2) := by decide +kernel
theorem dM_sever_148 : decode prog_7_method_45_code 148 = .ok (.iconst 2, 1) := by decide +kernel
theorem dM_sever_149 : decode prog_7_method_45_code 149 = .ok (.if_icmp .ge 102, 3) := by decide +kernel
theorem dM_sever_152 : decode prog_7_method_45_code 152 = .ok (.aload_n 0, 1) := by decide +kernel
theorem dM_sever_153 : decode prog_7_method_45_code 153 = .ok (.iload 5, 2) := by decide +kernel
theorem dM_sever_155 : decode prog_7_method_45_code 155 = .ok (.invokevirtual 105, 3) := by decide +kernel
theorem dM_sever_158 : decode prog_7_method_45_code 158 = .ok (.ifCond .eq 44, 3) := by decide +kernel
theorem dM_sever_161 : decode prog_7_method_45_code 161 = .ok (.aload_n 0, 1) := by decide +kernel
theorem dM_sever_162 : decode prog_7_method_45_code 162 = .ok (.aload_n 0, 1) := by decide +kernel
theorem dM_sever_163 : decode prog_7_method_45_code 163 = .ok (.getfield 7, 3) := by decide +kernel
theorem dM_sever_166 : decode prog_7_method_45_code 166 = .ok (.bipush 19, 2) := by decide +kernel
theorem dM_sever_168 : decode prog_7_method_45_code 168 = .ok (.iload 5, 2) := by decide +kernel
theorem dM_sever_170 : decode prog_7_method_45_code 170 = .ok (.iadd, 1) := by decide +kernel
theorem dM_sever_171 : decode prog_7_method_45_code 171 = .ok (.iaload, 1) := by decide +kernel
theorem dM_sever_172 : decode prog_7_method_45_code 172 = .ok (.iload_n 2, 1) := by decide +kernel
theorem dM_sever_173 : decode prog_7_method_45_code 173 = .ok (.invokevirtual 92, 3) := by decide +kernel
theorem dM_sever_176 : decode prog_7_method_45_code 176 = .ok (.ifCond .eq 26, 3) := by decide +kernel
theorem dM_sever_179 : decode prog_7_method_45_code 179 = .ok (.aload_n 0, 1) := by decide +kernel
theorem dM_sever_180 : decode prog_7_method_45_code 180 = .ok (.getfield 7, 3) := by decide +kernel
theorem dM_sever_183 : decode prog_7_method_45_code 183 = .ok (.bipush 43, 2) := by decide +kernel
theorem dM_sever_185 : decode prog_7_method_45_code 185 = .ok (.iconst 2, 1) := by decide +kernel
theorem dM_sever_186 : decode prog_7_method_45_code 186 = .ok (.iload 5, 2) := by decide +kernel
theorem dM_sever_188 : decode prog_7_method_45_code 188 = .ok (.imul, 1) := by decide +kernel
theorem dM_sever_189 : decode prog_7_method_45_code 189 = .ok (.iadd, 1) := by decide +kernel
theorem dM_sever_190 : decode prog_7_method_45_code 190 = .ok (.iload 6, 2) := by decide +kernel
theorem dM_sever_192 : decode prog_7_method_45_code 192 = .ok (.iadd, 1) := by decide +kernel
theorem dM_sever_193 : decode prog_7_method_45_code 193 = .ok (.iaload, 1) := by decide +kernel
theorem dM_sever_194 : decode prog_7_method_45_code 194 = .ok (.iload_n 1, 1) := by decide +kernel
theorem dM_sever_195 : decode prog_7_method_45_code 195 = .ok (.if_icmp .ne 7, 3) := by decide +kernel
theorem dM_sever_198 : decode prog_7_method_45_code 198 = .ok (.iconst 1, 1) := by decide +kernel
theorem dM_sever_199 : decode prog_7_method_45_code 199 = .ok (.goto 4, 3) := by decide +kernel
theorem dM_sever_202 : decode prog_7_method_45_code 202 = .ok (.iconst 0, 1) := by decide +kernel
theorem dM_sever_203 : decode prog_7_method_45_code 203 = .ok (.istore 7, 2) := by decide +kernel
theorem dM_sever_205 : decode prog_7_method_45_code 205 = .ok (.aload_n 0, 1) := by decide +kernel
theorem dM_sever_206 : decode prog_7_method_45_code 206 = .ok (.getfield 7, 3) := by decide +kernel
theorem dM_sever_209 : decode prog_7_method_45_code 209 = .ok (.bipush 43, 2) := by decide +kernel
theorem dM_sever_211 : decode prog_7_method_45_code 211 = .ok (.iconst 2, 1) := by decide +kernel
theorem dM_sever_212 : decode prog_7_method_45_code 212 = .ok (.iload 5, 2) := by decide +kernel
theorem dM_sever_214 : decode prog_7_method_45_code 214 = .ok (.imul, 1) := by decide +kernel
theorem dM_sever_215 : decode prog_7_method_45_code 215 = .ok (.iadd, 1) := by decide +kernel
theorem dM_sever_216 : decode prog_7_method_45_code 216 = .ok (.iload 6, 2) := by decide +kernel
theorem dM_sever_218 : decode prog_7_method_45_code 218 = .ok (.iadd, 1) := by decide +kernel
theorem dM_sever_219 : decode prog_7_method_45_code 219 = .ok (.iload 7, 2) := by decide +kernel
theorem dM_sever_221 : decode prog_7_method_45_code 221 = .ok (.ifCond .eq 8, 3) := by decide +kernel
theorem dM_sever_224 : decode prog_7_method_45_code 224 = .ok (.iload 4, 2) := by decide +kernel
theorem dM_sever_226 : decode prog_7_method_45_code 226 = .ok (.goto 18, 3) := by decide +kernel
theorem dM_sever_229 : decode prog_7_method_45_code 229 = .ok (.aload_n 0, 1) := by decide +kernel
theorem dM_sever_230 : decode prog_7_method_45_code 230 = .ok (.getfield 7, 3) := by decide +kernel
theorem dM_sever_233 : decode prog_7_method_45_code 233 = .ok (.bipush 43, 2) := by decide +kernel
theorem dM_sever_235 : decode prog_7_method_45_code 235 = .ok (.iconst 2, 1) := by decide +kernel
theorem dM_sever_236 : decode prog_7_method_45_code 236 = .ok (.iload 5, 2) := by decide +kernel
theorem dM_sever_238 : decode prog_7_method_45_code 238 = .ok (.imul, 1) := by decide +kernel
theorem dM_sever_239 : decode prog_7_method_45_code 239 = .ok (.iadd, 1) := by decide +kernel
theorem dM_sever_240 : decode prog_7_method_45_code 240 = .ok (.iload 6, 2) := by decide +kernel
theorem dM_sever_242 : decode prog_7_method_45_code 242 = .ok (.iadd, 1) := by decide +kernel
theorem dM_sever_243 : decode prog_7_method_45_code 243 = .ok (.iaload, 1) := by decide +kernel
theorem dM_sever_244 : decode prog_7_method_45_code 244 = .ok (.iastore, 1) := by decide +kernel
theorem dM_sever_245 : decode prog_7_method_45_code 245 = .ok (.iinc 6 1, 3) := by decide +kernel
theorem dM_sever_248 : decode prog_7_method_45_code 248 = .ok (.goto (-102), 3) := by decide +kernel
theorem dM_sever_251 : decode prog_7_method_45_code 251 = .ok (.iinc 5 1, 3) := by decide +kernel
theorem dM_sever_254 : decode prog_7_method_45_code 254 = .ok (.goto (-118), 3) := by decide +kernel
theorem dM_sever_257 : decode prog_7_method_45_code 257 = .ok (.iload 4, 2) := by decide +kernel
theorem dM_sever_259 : decode prog_7_method_45_code 259 = .ok (.ireturn, 1) := by decide +kernel
theorem dM_back_0 : decode prog_7_method_46_code 0 = .ok (.aload_n 0, 1) := by decide +kernel
theorem dM_back_1 : decode prog_7_method_46_code 1 = .ok (.aload_n 0, 1) := by decide +kernel
theorem dM_back_2 : decode prog_7_method_46_code 2 = .ok (.getfield 68, 3) := by decide +kernel
theorem dM_back_5 : decode prog_7_method_46_code 5 = .ok (.ifCond .ne 7, 3) := by decide +kernel
theorem dM_back_8 : decode prog_7_method_46_code 8 = .ok (.iconst 1, 1) := by decide +kernel
theorem dM_back_9 : decode prog_7_method_46_code 9 = .ok (.goto 4, 3) := by decide +kernel
theorem dM_back_12 : decode prog_7_method_46_code 12 = .ok (.iconst 0, 1) := by decide +kernel
theorem dM_back_13 : decode prog_7_method_46_code 13 = .ok (.putfield 56, 3) := by decide +kernel
theorem dM_back_16 : decode prog_7_method_46_code 16 = .ok (.aload_n 0, 1) := by decide +kernel
theorem dM_back_17 : decode prog_7_method_46_code 17 = .ok (.getfield 56, 3) := by decide +kernel
theorem dM_back_20 : decode prog_7_method_46_code 20 = .ok (.ifCond .eq 5, 3) := by decide +kernel
theorem dM_back_23 : decode prog_7_method_46_code 23 = .ok (.iconst 0, 1) := by decide +kernel
theorem dM_back_24 : decode prog_7_method_46_code 24 = .ok (.ireturn, 1) := by decide +kernel
theorem dM_back_25 : decode prog_7_method_46_code 25 = .ok (.aload_n 0, 1) := by decide +kernel
theorem dM_back_26 : decode prog_7_method_46_code 26 = .ok (.dup, 1) := by decide +kernel
theorem dM_back_27 : decode prog_7_method_46_code 27 = .ok (.getfield 68, 3) := by decide +kernel
theorem dM_back_30 : decode prog_7_method_46_code 30 = .ok (.iconst 1, 1) := by decide +kernel
theorem dM_back_31 : decode prog_7_method_46_code 31 = .ok (.isub, 1) := by decide +kernel
theorem dM_back_32 : decode prog_7_method_46_code 32 = .ok (.putfield 68, 3) := by decide +kernel
theorem dM_back_35 : decode prog_7_method_46_code 35 = .ok (.iconst 0, 1) := by decide +kernel
theorem dM_back_36 : decode prog_7_method_46_code 36 = .ok (.istore_n 1, 1) := by decide +kernel
theorem dM_back_37 : decode prog_7_method_46_code 37 = .ok (.iload_n 1, 1) := by decide +kernel
theorem dM_back_38 : decode prog_7_method_46_code 38 = .ok (.bipush 67, 2) := by decide +kernel
theorem dM_back_40 : decode prog_7_method_46_code 40 = .ok (.if_icmp .ge 29, 3) := by decide +kernel
theorem dM_back_43 : decode prog_7_method_46_code 43 = .ok (.aload_n 0, 1) := by decide +kernel
theorem dM_back_44 : decode prog_7_method_46_code 44 = .ok (.getfield 7, 3) := by decide +kernel
theorem dM_back_47 : decode prog_7_method_46_code 47 = .ok (.iload_n 1, 1) := by decide +kernel
theorem dM_back_48 : decode prog_7_method_46_code 48 = .ok (.aload_n 0, 1) := by decide +kernel
theorem dM_back_49 : decode prog_7_method_46_code 49 = .ok (.getfield 13, 3) := by decide +kernel
theorem dM_back_52 : decode prog_7_method_46_code 52 = .ok (.bipush 67, 2) := by decide +kernel
theorem dM_back_54 : decode prog_7_method_46_code 54 = .ok (.aload_n 0, 1) := by decide +kernel
theorem dM_back_55 : decode prog_7_method_46_code 55 = .ok (.getfield 68, 3) := by decide +kernel
theorem dM_back_58 : decode prog_7_method_46_code 58 = .ok (.imul, 1) := by decide +kernel
theorem dM_back_59 : decode prog_7_method_46_code 59 = .ok (.iload_n 1, 1) := by decide +kernel
theorem dM_back_60 : decode prog_7_method_46_code 60 = .ok (.iadd, 1) := by decide +kernel
theorem dM_back_61 : decode prog_7_method_46_code 61 = .ok (.iaload, 1) := by decide +kernel
theorem dM_back_62 : decode prog_7_method_46_code 62 = .ok (.iastore, 1) := by decide +kernel
theorem dM_back_63 : decode prog_7_method_46_code 63 = .ok (.iinc 1 1, 3) := by decide +kernel
theorem dM_back_66 : decode prog_7_method_46_code 66 = .ok (.goto (-29), 3) := by decide +kernel
theorem dM_back_69 : decode prog_7_method_46_code 69 = .ok (.aload_n 0, 1) := by decide +kernel
theorem dM_back_70 : decode prog_7_method_46_code 70 = .ok (.getfield 68, 3) := by decide +kernel
theorem dM_back_73 : decode prog_7_method_46_code 73 = .ok (.ireturn, 1) := by decide +kernel
theorem dM_depth_0 : decode prog_7_method_47_code 0 = .ok (.aload_n 0, 1) := by decide +kernel
theorem dM_depth_1 : decode prog_7_method_47_code 1 = .ok (.aload_n 0, 1) := by decide +kernel
theorem dM_depth_2 : decode prog_7_method_47_code 2 = .ok (.iload_n 1, 1) := by decide +kernel
theorem dM_depth_3 : decode prog_7_method_47_code 3 = .ok (.invokevirtual 60, 3) := by decide +kernel
theorem dM_depth_6 : decode prog_7_method_47_code 6 = .ok (.ifCond .eq 7, 3) := by decide +kernel
theorem dM_depth_9 : decode prog_7_method_47_code 9 = .ok (.iconst 0, 1) := by decide +kernel
theorem dM_depth_10 : decode prog_7_method_47_code 10 = .ok (.goto 4, 3) := by decide +kernel
theorem dM_depth_13 : decode prog_7_method_47_code 13 = .ok (.iconst 1, 1) := by decide +kernel
theorem dM_depth_14 : decode prog_7_method_47_code 14 = .ok (.putfield 56, 3) := by decide +kernel
theorem dM_depth_17 : decode prog_7_method_47_code 17 = .ok (.aload_n 0, 1) := by decide +kernel
theorem dM_depth_18 : decode prog_7_method_47_code 18 = .ok (.getfield 56, 3) := by decide +kernel
theorem dM_depth_21 : decode prog_7_method_47_code 21 = .ok (.ifCond .ne 11, 3) := by decide +kernel
theorem dM_depth_24 : decode prog_7_method_47_code 24 = .ok (.aload_n 0, 1) := by decide +kernel
theorem dM_depth_25 : decode prog_7_method_47_code 25 = .ok (.iload_n 1, 1) := by decide +kernel
theorem dM_depth_26 : decode prog_7_method_47_code 26 = .ok (.invokevirtual 71, 3) := by decide +kernel
theorem dM_depth_29 : decode prog_7_method_47_code 29 = .ok (.goto 4, 3) := by decide +kernel
theorem dM_depth_32 : decode prog_7_method_47_code 32 = .ok (.iconst 0, 1) := by decide +kernel
theorem dM_depth_33 : decode prog_7_method_47_code 33 = .ok (.ireturn, 1) := by decide +kernel
theorem dM_read_0 : decode prog_7_method_48_code 0 = .ok (.aload_n 0, 1) := by decide +kernel
theorem dM_read_1 : decode prog_7_method_48_code 1 = .ok (.aload_n 0, 1) := by decide +kernel
theorem dM_read_2 : decode prog_7_method_48_code 2 = .ok (.iload_n 1, 1) := by decide +kernel
theorem dM_read_3 : decode prog_7_method_48_code 3 = .ok (.invokevirtual 60, 3) := by decide +kernel
theorem dM_read_6 : decode prog_7_method_48_code 6 = .ok (.ifCond .eq 7, 3) := by decide +kernel
theorem dM_read_9 : decode prog_7_method_48_code 9 = .ok (.iconst 0, 1) := by decide +kernel
theorem dM_read_10 : decode prog_7_method_48_code 10 = .ok (.goto 4, 3) := by decide +kernel
theorem dM_read_13 : decode prog_7_method_48_code 13 = .ok (.iconst 1, 1) := by decide +kernel
theorem dM_read_14 : decode prog_7_method_48_code 14 = .ok (.putfield 56, 3) := by decide +kernel
theorem dM_read_17 : decode prog_7_method_48_code 17 = .ok (.aload_n 0, 1) := by decide +kernel
theorem dM_read_18 : decode prog_7_method_48_code 18 = .ok (.getfield 56, 3) := by decide +kernel
theorem dM_read_21 : decode prog_7_method_48_code 21 = .ok (.ifCond .eq 5, 3) := by decide +kernel
theorem dM_read_24 : decode prog_7_method_48_code 24 = .ok (.iconst 0, 1) := by decide +kernel
theorem dM_read_25 : decode prog_7_method_48_code 25 = .ok (.ireturn, 1) := by decide +kernel
theorem dM_read_26 : decode prog_7_method_48_code 26 = .ok (.aload_n 0, 1) := by decide +kernel
theorem dM_read_27 : decode prog_7_method_48_code 27 = .ok (.iload_n 1, 1) := by decide +kernel
theorem dM_read_28 : decode prog_7_method_48_code 28 = .ok (.invokevirtual 163, 3) := by decide +kernel
theorem dM_read_31 : decode prog_7_method_48_code 31 = .ok (.aload_n 0, 1) := by decide +kernel
theorem dM_read_32 : decode prog_7_method_48_code 32 = .ok (.getfield 151, 3) := by decide +kernel
theorem dM_read_35 : decode prog_7_method_48_code 35 = .ok (.ireturn, 1) := by decide +kernel
theorem dM_token_0 : decode prog_7_method_49_code 0 = .ok (.aload_n 0, 1) := by decide +kernel
theorem dM_token_1 : decode prog_7_method_49_code 1 = .ok (.iload_n 1, 1) := by decide +kernel
theorem dM_token_2 : decode prog_7_method_49_code 2 = .ok (.ifCond .lt 11, 3) := by decide +kernel
theorem dM_token_5 : decode prog_7_method_49_code 5 = .ok (.iload_n 1, 1) := by decide +kernel
theorem dM_token_6 : decode prog_7_method_49_code 6 = .ok (.aload_n 0, 1) := by decide +kernel
theorem dM_token_7 : decode prog_7_method_49_code 7 = .ok (.getfield 151, 3) := by decide +kernel
theorem dM_token_10 : decode prog_7_method_49_code 10 = .ok (.if_icmp .lt 7, 3) := by decide +kernel
theorem dM_token_13 : decode prog_7_method_49_code 13 = .ok (.iconst 1, 1) := by decide +kernel
theorem dM_token_14 : decode prog_7_method_49_code 14 = .ok (.goto 4, 3) := by decide +kernel
theorem dM_token_17 : decode prog_7_method_49_code 17 = .ok (.iconst 0, 1) := by decide +kernel
theorem dM_token_18 : decode prog_7_method_49_code 18 = .ok (.putfield 56, 3) := by decide +kernel
theorem dM_token_21 : decode prog_7_method_49_code 21 = .ok (.aload_n 0, 1) := by decide +kernel
theorem dM_token_22 : decode prog_7_method_49_code 22 = .ok (.getfield 56, 3) := by decide +kernel
theorem dM_token_25 : decode prog_7_method_49_code 25 = .ok (.ifCond .ne 12, 3) := by decide +kernel
theorem dM_token_28 : decode prog_7_method_49_code 28 = .ok (.aload_n 0, 1) := by decide +kernel
theorem dM_token_29 : decode prog_7_method_49_code 29 = .ok (.getfield 16, 3) := by decide +kernel
theorem dM_token_32 : decode prog_7_method_49_code 32 = .ok (.iload_n 1, 1) := by decide +kernel
theorem dM_token_33 : decode prog_7_method_49_code 33 = .ok (.iaload, 1) := by decide +kernel
theorem dM_token_34 : decode prog_7_method_49_code 34 = .ok (.goto 4, 3) := by decide +kernel
theorem dM_token_37 : decode prog_7_method_49_code 37 = .ok (.iconst 0, 1) := by decide +kernel
theorem dM_token_38 : decode prog_7_method_49_code 38 = .ok (.ireturn, 1) := by decide +kernel
theorem dM_count_0 : decode prog_7_method_50_code 0 = .ok (.aload_n 0, 1) := by decide +kernel
theorem dM_count_1 : decode prog_7_method_50_code 1 = .ok (.iload_n 1, 1) := by decide +kernel
theorem dM_count_2 : decode prog_7_method_50_code 2 = .ok (.ifCond .lt 8, 3) := by decide +kernel
theorem dM_count_5 : decode prog_7_method_50_code 5 = .ok (.iload_n 1, 1) := by decide +kernel
theorem dM_count_6 : decode prog_7_method_50_code 6 = .ok (.iconst 3, 1) := by decide +kernel
theorem dM_count_7 : decode prog_7_method_50_code 7 = .ok (.if_icmp .le 7, 3) := by decide +kernel
theorem dM_count_10 : decode prog_7_method_50_code 10 = .ok (.iconst 1, 1) := by decide +kernel
theorem dM_count_11 : decode prog_7_method_50_code 11 = .ok (.goto 4, 3) := by decide +kernel
theorem dM_count_14 : decode prog_7_method_50_code 14 = .ok (.iconst 0, 1) := by decide +kernel
theorem dM_count_15 : decode prog_7_method_50_code 15 = .ok (.putfield 56, 3) := by decide +kernel
theorem dM_count_18 : decode prog_7_method_50_code 18 = .ok (.aload_n 0, 1) := by decide +kernel
theorem dM_count_19 : decode prog_7_method_50_code 19 = .ok (.getfield 56, 3) := by decide +kernel
theorem dM_count_22 : decode prog_7_method_50_code 22 = .ok (.ifCond .eq 7, 3) := by decide +kernel
theorem dM_count_25 : decode prog_7_method_50_code 25 = .ok (.iconst 0, 1) := by decide +kernel
theorem dM_count_26 : decode prog_7_method_50_code 26 = .ok (.goto 53, 3) := by decide +kernel
theorem dM_count_29 : decode prog_7_method_50_code 29 = .ok (.iload_n 1, 1) := by decide +kernel
theorem dM_count_30 : decode prog_7_method_50_code 30 = .ok (.ifCond .ne 13, 3) := by decide +kernel
theorem dM_count_33 : decode prog_7_method_50_code 33 = .ok (.aload_n 0, 1) := by decide +kernel
theorem dM_count_34 : decode prog_7_method_50_code 34 = .ok (.iconst 1, 1) := by decide +kernel
theorem dM_count_35 : decode prog_7_method_50_code 35 = .ok (.bipush 13, 2) := by decide +kernel
theorem dM_count_37 : decode prog_7_method_50_code 37 = .ok (.invokevirtual 142, 3) := by decide +kernel
theorem dM_count_40 : decode prog_7_method_50_code 40 = .ok (.goto 39, 3) := by decide +kernel
theorem dM_count_43 : decode prog_7_method_50_code 43 = .ok (.iload_n 1, 1) := by decide +kernel
theorem dM_count_44 : decode prog_7_method_50_code 44 = .ok (.iconst 1, 1) := by decide +kernel
theorem dM_count_45 : decode prog_7_method_50_code 45 = .ok (.if_icmp .ne 14, 3) := by decide +kernel
theorem dM_count_48 : decode prog_7_method_50_code 48 = .ok (.aload_n 0, 1) := by decide +kernel
theorem dM_count_49 : decode prog_7_method_50_code 49 = .ok (.bipush 19, 2) := by decide +kernel
theorem dM_count_51 : decode prog_7_method_50_code 51 = .ok (.bipush 31, 2) := by decide +kernel
theorem dM_count_53 : decode prog_7_method_50_code 53 = .ok (.invokevirtual 142, 3) := by decide +kernel
theorem dM_count_56 : decode prog_7_method_50_code 56 = .ok (.goto 23, 3) := by decide +kernel
theorem dM_count_59 : decode prog_7_method_50_code 59 = .ok (.iload_n 1, 1) := by decide +kernel
theorem dM_count_60 : decode prog_7_method_50_code 60 = .ok (.iconst 2, 1) := by decide +kernel
theorem dM_count_61 : decode prog_7_method_50_code 61 = .ok (.if_icmp .ne 14, 3) := by decide +kernel
theorem dM_count_64 : decode prog_7_method_50_code 64 = .ok (.aload_n 0, 1) := by decide +kernel
theorem dM_count_65 : decode prog_7_method_50_code 65 = .ok (.bipush 13, 2) := by decide +kernel
theorem dM_count_67 : decode prog_7_method_50_code 67 = .ok (.bipush 19, 2) := by decide +kernel
theorem dM_count_69 : decode prog_7_method_50_code 69 = .ok (.invokevirtual 142, 3) := by decide +kernel
theorem dM_count_72 : decode prog_7_method_50_code 72 = .ok (.goto 7, 3) := by decide +kernel
theorem dM_count_75 : decode prog_7_method_50_code 75 = .ok (.aload_n 0, 1) := by decide +kernel
theorem dM_count_76 : decode prog_7_method_50_code 76 = .ok (.getfield 68, 3) := by decide +kernel
theorem dM_count_79 : decode prog_7_method_50_code 79 = .ok (.ireturn, 1) := by decide +kernel
theorem dM_thing_0 : decode prog_7_method_51_code 0 = .ok (.iload_n 1, 1) := by decide +kernel
theorem dM_thing_1 : decode prog_7_method_51_code 1 = .ok (.aload_n 0, 1) := by decide +kernel
theorem dM_thing_2 : decode prog_7_method_51_code 2 = .ok (.getfield 44, 3) := by decide +kernel
theorem dM_thing_5 : decode prog_7_method_51_code 5 = .ok (.iload_n 2, 1) := by decide +kernel
theorem dM_thing_6 : decode prog_7_method_51_code 6 = .ok (.iaload, 1) := by decide +kernel
theorem dM_thing_7 : decode prog_7_method_51_code 7 = .ok (.idiv, 1) := by decide +kernel
theorem dM_thing_8 : decode prog_7_method_51_code 8 = .ok (.iload_n 3, 1) := by decide +kernel
theorem dM_thing_9 : decode prog_7_method_51_code 9 = .ok (.irem, 1) := by decide +kernel
theorem dM_thing_10 : decode prog_7_method_51_code 10 = .ok (.ireturn, 1) := by decide +kernel
theorem dM_spotHolds_0 : decode prog_7_method_52_code 0 = .ok (.aload_n 0, 1) := by decide +kernel
theorem dM_spotHolds_1 : decode prog_7_method_52_code 1 = .ok (.getfield 7, 3) := by decide +kernel
theorem dM_spotHolds_4 : decode prog_7_method_52_code 4 = .ok (.bipush 31, 2) := by decide +kernel
theorem dM_spotHolds_6 : decode prog_7_method_52_code 6 = .ok (.iload_n 1, 1) := by decide +kernel
theorem dM_spotHolds_7 : decode prog_7_method_52_code 7 = .ok (.iadd, 1) := by decide +kernel
theorem dM_spotHolds_8 : decode prog_7_method_52_code 8 = .ok (.iaload, 1) := by decide +kernel
theorem dM_spotHolds_9 : decode prog_7_method_52_code 9 = .ok (.istore 5, 2) := by decide +kernel
theorem dM_spotHolds_11 : decode prog_7_method_52_code 11 = .ok (.iload 5, 2) := by decide +kernel
theorem dM_spotHolds_13 : decode prog_7_method_52_code 13 = .ok (.iconst 1, 1) := by decide +kernel
theorem dM_spotHolds_14 : decode prog_7_method_52_code 14 = .ok (.if_icmp .le 23, 3) := by decide +kernel
theorem dM_spotHolds_17 : decode prog_7_method_52_code 17 = .ok (.aload_n 0, 1) := by decide +kernel
theorem dM_spotHolds_18 : decode prog_7_method_52_code 18 = .ok (.iload_n 2, 1) := by decide +kernel
theorem dM_spotHolds_19 : decode prog_7_method_52_code 19 = .ok (.aload_n 0, 1) := by decide +kernel
theorem dM_spotHolds_20 : decode prog_7_method_52_code 20 = .ok (.getfield 7, 3) := by decide +kernel
theorem dM_spotHolds_23 : decode prog_7_method_52_code 23 = .ok (.bipush 43, 2) := by decide +kernel
theorem dM_spotHolds_25 : decode prog_7_method_52_code 25 = .ok (.iconst 2, 1) := by decide +kernel
theorem dM_spotHolds_26 : decode prog_7_method_52_code 26 = .ok (.iload_n 1, 1) := by decide +kernel
theorem dM_spotHolds_27 : decode prog_7_method_52_code 27 = .ok (.imul, 1) := by decide +kernel
theorem dM_spotHolds_28 : decode prog_7_method_52_code 28 = .ok (.iadd, 1) := by decide +kernel
theorem dM_spotHolds_29 : decode prog_7_method_52_code 29 = .ok (.iaload, 1) := by decide +kernel
theorem dM_spotHolds_30 : decode prog_7_method_52_code 30 = .ok (.iload_n 3, 1) := by decide +kernel
theorem dM_spotHolds_31 : decode prog_7_method_52_code 31 = .ok (.invokevirtual 181, 3) := by decide +kernel
theorem dM_spotHolds_34 : decode prog_7_method_52_code 34 = .ok (.goto 4, 3) := by decide +kernel
theorem dM_spotHolds_37 : decode prog_7_method_52_code 37 = .ok (.iconst 0, 1) := by decide +kernel
theorem dM_spotHolds_38 : decode prog_7_method_52_code 38 = .ok (.istore 6, 2) := by decide +kernel
theorem dM_spotHolds_40 : decode prog_7_method_52_code 40 = .ok (.iload 5, 2) := by decide +kernel
theorem dM_spotHolds_42 : decode prog_7_method_52_code 42 = .ok (.iconst 2, 1) := by decide +kernel
theorem dM_spotHolds_43 : decode prog_7_method_52_code 43 = .ok (.if_icmp .le 25, 3) := by decide +kernel
theorem dM_spotHolds_46 : decode prog_7_method_52_code 46 = .ok (.aload_n 0, 1) := by decide +kernel
theorem dM_spotHolds_47 : decode prog_7_method_52_code 47 = .ok (.iload_n 2, 1) := by decide +kernel
theorem dM_spotHolds_48 : decode prog_7_method_52_code 48 = .ok (.aload_n 0, 1) := by decide +kernel
theorem dM_spotHolds_49 : decode prog_7_method_52_code 49 = .ok (.getfield 7, 3) := by decide +kernel
theorem dM_spotHolds_52 : decode prog_7_method_52_code 52 = .ok (.bipush 43, 2) := by decide +kernel
theorem dM_spotHolds_54 : decode prog_7_method_52_code 54 = .ok (.iconst 2, 1) := by decide +kernel
theorem dM_spotHolds_55 : decode prog_7_method_52_code 55 = .ok (.iload_n 1, 1) := by decide +kernel
theorem dM_spotHolds_56 : decode prog_7_method_52_code 56 = .ok (.imul, 1) := by decide +kernel
theorem dM_spotHolds_57 : decode prog_7_method_52_code 57 = .ok (.iadd, 1) := by decide +kernel
theorem dM_spotHolds_58 : decode prog_7_method_52_code 58 = .ok (.iconst 1, 1) := by decide +kernel
theorem dM_spotHolds_59 : decode prog_7_method_52_code 59 = .ok (.iadd, 1) := by decide +kernel
theorem dM_spotHolds_60 : decode prog_7_method_52_code 60 = .ok (.iaload, 1) := by decide +kernel
theorem dM_spotHolds_61 : decode prog_7_method_52_code 61 = .ok (.iload_n 3, 1) := by decide +kernel
theorem dM_spotHolds_62 : decode prog_7_method_52_code 62 = .ok (.invokevirtual 181, 3) := by decide +kernel
theorem dM_spotHolds_65 : decode prog_7_method_52_code 65 = .ok (.goto 4, 3) := by decide +kernel
theorem dM_spotHolds_68 : decode prog_7_method_52_code 68 = .ok (.iconst 0, 1) := by decide +kernel
theorem dM_spotHolds_69 : decode prog_7_method_52_code 69 = .ok (.istore 7, 2) := by decide +kernel
theorem dM_spotHolds_71 : decode prog_7_method_52_code 71 = .ok (.iload 5, 2) := by decide +kernel
theorem dM_spotHolds_73 : decode prog_7_method_52_code 73 = .ok (.iconst 2, 1) := by decide +kernel
theorem dM_spotHolds_74 : decode prog_7_method_52_code 74 = .ok (.if_icmp .ge 8, 3) := by decide +kernel
theorem dM_spotHolds_77 : decode prog_7_method_52_code 77 = .ok (.iload 5, 2) := by decide +kernel
theorem dM_spotHolds_79 : decode prog_7_method_52_code 79 = .ok (.goto 25, 3) := by decide +kernel
theorem dM_spotHolds_82 : decode prog_7_method_52_code 82 = .ok (.iload 5, 2) := by decide +kernel
theorem dM_spotHolds_84 : decode prog_7_method_52_code 84 = .ok (.iconst 2, 1) := by decide +kernel
theorem dM_spotHolds_85 : decode prog_7_method_52_code 85 = .ok (.if_icmp .ne 10, 3) := by decide +kernel
theorem dM_spotHolds_88 : decode prog_7_method_52_code 88 = .ok (.iconst 2, 1) := by decide +kernel
theorem dM_spotHolds_89 : decode prog_7_method_52_code 89 = .ok (.iload 6, 2) := by decide +kernel
theorem dM_spotHolds_91 : decode prog_7_method_52_code 91 = .ok (.iadd, 1) := by decide +kernel
theorem dM_spotHolds_92 : decode prog_7_method_52_code 92 = .ok (.goto 12, 3) := by decide +kernel
theorem dM_spotHolds_95 : decode prog_7_method_52_code 95 = .ok (.iconst 5, 1) := by decide +kernel
theorem dM_spotHolds_96 : decode prog_7_method_52_code 96 = .ok (.iconst 3, 1) := by decide +kernel
theorem dM_spotHolds_97 : decode prog_7_method_52_code 97 = .ok (.iload 6, 2) := by decide +kernel
theorem dM_spotHolds_99 : decode prog_7_method_52_code 99 = .ok (.imul, 1) := by decide +kernel
theorem dM_spotHolds_100 : decode prog_7_method_52_code 100 = .ok (.iadd, 1) := by decide +kernel
theorem dM_spotHolds_101 : decode prog_7_method_52_code 101 = .ok (.iload 7, 2) := by decide +kernel
theorem dM_spotHolds_103 : decode prog_7_method_52_code 103 = .ok (.iadd, 1) := by decide +kernel
theorem dM_spotHolds_104 : decode prog_7_method_52_code 104 = .ok (.istore 8, 2) := by decide +kernel
theorem dM_spotHolds_106 : decode prog_7_method_52_code 106 = .ok (.iload 4, 2) := by decide +kernel
theorem dM_spotHolds_108 : decode prog_7_method_52_code 108 = .ok (.iload 8, 2) := by decide +kernel
theorem dM_spotHolds_110 : decode prog_7_method_52_code 110 = .ok (.ishr, 1) := by decide +kernel
theorem dM_spotHolds_111 : decode prog_7_method_52_code 111 = .ok (.iconst 1, 1) := by decide +kernel
theorem dM_spotHolds_112 : decode prog_7_method_52_code 112 = .ok (.iand, 1) := by decide +kernel
theorem dM_spotHolds_113 : decode prog_7_method_52_code 113 = .ok (.iconst 1, 1) := by decide +kernel
theorem dM_spotHolds_114 : decode prog_7_method_52_code 114 = .ok (.if_icmp .ne 7, 3) := by decide +kernel
theorem dM_spotHolds_117 : decode prog_7_method_52_code 117 = .ok (.iconst 1, 1) := by decide +kernel
theorem dM_spotHolds_118 : decode prog_7_method_52_code 118 = .ok (.goto 4, 3) := by decide +kernel
theorem dM_spotHolds_121 : decode prog_7_method_52_code 121 = .ok (.iconst 0, 1) := by decide +kernel
theorem dM_spotHolds_122 : decode prog_7_method_52_code 122 = .ok (.ireturn, 1) := by decide +kernel
theorem dM_look_0 : decode prog_7_method_53_code 0 = .ok (.iconst 0, 1) := by decide +kernel
theorem dM_look_1 : decode prog_7_method_53_code 1 = .ok (.istore 5, 2) := by decide +kernel
theorem dM_look_3 : decode prog_7_method_53_code 3 = .ok (.iconst 0, 1) := by decide +kernel
theorem dM_look_4 : decode prog_7_method_53_code 4 = .ok (.istore 6, 2) := by decide +kernel
theorem dM_look_6 : decode prog_7_method_53_code 6 = .ok (.iconst 0, 1) := by decide +kernel
theorem dM_look_7 : decode prog_7_method_53_code 7 = .ok (.istore 7, 2) := by decide +kernel
theorem dM_look_9 : decode prog_7_method_53_code 9 = .ok (.iload 7, 2) := by decide +kernel
theorem dM_look_11 : decode prog_7_method_53_code 11 = .ok (.bipush 12, 2) := by decide +kernel
theorem dM_look_13 : decode prog_7_method_53_code 13 = .ok (.if_icmp .ge 35, 3) := by decide +kernel
theorem dM_look_16 : decode prog_7_method_53_code 16 = .ok (.aload_n 0, 1) := by decide +kernel
theorem dM_look_17 : decode prog_7_method_53_code 17 = .ok (.getfield 7, 3) := by decide +kernel
theorem dM_look_20 : decode prog_7_method_53_code 20 = .ok (.bipush 19, 2) := by decide +kernel
theorem dM_look_22 : decode prog_7_method_53_code 22 = .ok (.iload 7, 2) := by decide +kernel
theorem dM_look_24 : decode prog_7_method_53_code 24 = .ok (.iadd, 1) := by decide +kernel
theorem dM_look_25 : decode prog_7_method_53_code 25 = .ok (.iaload, 1) := by decide +kernel
theorem dM_look_26 : decode prog_7_method_53_code 26 = .ok (.iload_n 1, 1) := by decide +kernel
theorem dM_look_27 : decode prog_7_method_53_code 27 = .ok (.if_icmp .ne 15, 3) := by decide +kernel
theorem dM_look_30 : decode prog_7_method_53_code 30 = .ok (.aload_n 0, 1) := by decide +kernel
theorem dM_look_31 : decode prog_7_method_53_code 31 = .ok (.getfield 47, 3) := by decide +kernel
theorem dM_look_34 : decode prog_7_method_53_code 34 = .ok (.iload 5, 2) := by decide +kernel
theorem dM_look_36 : decode prog_7_method_53_code 36 = .ok (.iload 7, 2) := by decide +kernel
theorem dM_look_38 : decode prog_7_method_53_code 38 = .ok (.iastore, 1) := by decide +kernel
theorem dM_look_39 : decode prog_7_method_53_code 39 = .ok (.iinc 5 1, 3) := by decide +kernel
theorem dM_look_42 : decode prog_7_method_53_code 42 = .ok (.iinc 7 1, 3) := by decide +kernel
theorem dM_look_45 : decode prog_7_method_53_code 45 = .ok (.goto (-36), 3) := by decide +kernel
theorem dM_look_48 : decode prog_7_method_53_code 48 = .ok (.iconst 1, 1) := by decide +kernel
theorem dM_look_49 : decode prog_7_method_53_code 49 = .ok (.istore 7, 2) := by decide +kernel
theorem dM_look_51 : decode prog_7_method_53_code 51 = .ok (.iload 7, 2) := by decide +kernel
theorem dM_look_53 : decode prog_7_method_53_code 53 = .ok (.bipush 13, 2) := by decide +kernel
theorem dM_look_55 : decode prog_7_method_53_code 55 = .ok (.if_icmp .ge 32, 3) := by decide +kernel
theorem dM_look_58 : decode prog_7_method_53_code 58 = .ok (.aload_n 0, 1) := by decide +kernel
theorem dM_look_59 : decode prog_7_method_53_code 59 = .ok (.getfield 7, 3) := by decide +kernel
theorem dM_look_62 : decode prog_7_method_53_code 62 = .ok (.iload 7, 2) := by decide +kernel
theorem dM_look_64 : decode prog_7_method_53_code 64 = .ok (.iaload, 1) := by decide +kernel
theorem dM_look_65 : decode prog_7_method_53_code 65 = .ok (.iload_n 1, 1) := by decide +kernel
theorem dM_look_66 : decode prog_7_method_53_code 66 = .ok (.if_icmp .ne 15, 3) := by decide +kernel
theorem dM_look_69 : decode prog_7_method_53_code 69 = .ok (.aload_n 0, 1) := by decide +kernel
theorem dM_look_70 : decode prog_7_method_53_code 70 = .ok (.getfield 50, 3) := by decide +kernel
theorem dM_look_73 : decode prog_7_method_53_code 73 = .ok (.iload 6, 2) := by decide +kernel
theorem dM_look_75 : decode prog_7_method_53_code 75 = .ok (.iload 7, 2) := by decide +kernel
theorem dM_look_77 : decode prog_7_method_53_code 77 = .ok (.iastore, 1) := by decide +kernel
theorem dM_look_78 : decode prog_7_method_53_code 78 = .ok (.iinc 6 1, 3) := by decide +kernel
theorem dM_look_81 : decode prog_7_method_53_code 81 = .ok (.iinc 7 1, 3) := by decide +kernel
theorem dM_look_84 : decode prog_7_method_53_code 84 = .ok (.goto (-33), 3) := by decide +kernel
theorem dM_look_87 : decode prog_7_method_53_code 87 = .ok (.iconst 0, 1) := by decide +kernel
theorem dM_look_88 : decode prog_7_method_53_code 88 = .ok (.istore 7, 2) := by decide +kernel
theorem dM_look_90 : decode prog_7_method_53_code 90 = .ok (.iload 7, 2) := by decide +kernel
theorem dM_look_92 : decode prog_7_method_53_code 92 = .ok (.iload 4, 2) := by decide +kernel
theorem dM_look_94 : decode prog_7_method_53_code 94 = .ok (.if_icmp .ge 115, 3) := by decide +kernel
theorem dM_look_97 : decode prog_7_method_53_code 97 = .ok (.iconst 1, 1) := by decide +kernel
theorem dM_look_98 : decode prog_7_method_53_code 98 = .ok (.istore 8, 2) := by decide +kernel
theorem dM_look_100 : decode prog_7_method_53_code 100 = .ok (.iconst 0, 1) := by decide +kernel
theorem dM_look_101 : decode prog_7_method_53_code 101 = .ok (.istore 9, 2) := by decide +kernel
theorem dM_look_103 : decode prog_7_method_53_code 103 = .ok (.iload 9, 2) := by decide +kernel
theorem dM_look_105 : decode prog_7_method_53_code 105 = .ok (.iload 5, 2) := by decide +kernel
theorem dM_look_107 : decode prog_7_method_53_code 107 = .ok (.if_icmp .ge 31, 3) := by decide +kernel
theorem dM_look_110 : decode prog_7_method_53_code 110 = .ok (.iload 8, 2) := by decide +kernel
theorem dM_look_112 : decode prog_7_method_53_code 112 = .ok (.ifCond .eq 26, 3) := by decide +kernel
theorem dM_look_115 : decode prog_7_method_53_code 115 = .ok (.aload_n 0, 1) := by decide +kernel
theorem dM_look_116 : decode prog_7_method_53_code 116 = .ok (.aload_n 0, 1) := by decide +kernel
theorem dM_look_117 : decode prog_7_method_53_code 117 = .ok (.getfield 47, 3) := by decide +kernel
theorem dM_look_120 : decode prog_7_method_53_code 120 = .ok (.iload 9, 2) := by decide +kernel
theorem dM_look_122 : decode prog_7_method_53_code 122 = .ok (.iaload, 1) := by decide +kernel
theorem dM_look_123 : decode prog_7_method_53_code 123 = .ok (.iload 7, 2) := by decide +kernel
theorem dM_look_125 : decode prog_7_method_53_code 125 = .ok (.iload_n 2, 1) := by decide +kernel
theorem dM_look_126 : decode prog_7_method_53_code 126 = .ok (.iload_n 3, 1) := by decide +kernel
theorem dM_look_127 : decode prog_7_method_53_code 127 = .ok (.invokevirtual 185, 3) := by decide +kernel
theorem dM_look_130 : decode prog_7_method_53_code 130 = .ok (.istore 8, 2) := by decide +kernel
theorem dM_look_132 : decode prog_7_method_53_code 132 = .ok (.iinc 9 1, 3) := by decide +kernel
theorem dM_look_135 : decode prog_7_method_53_code 135 = .ok (.goto (-32), 3) := by decide +kernel
theorem dM_look_138 : decode prog_7_method_53_code 138 = .ok (.iconst 0, 1) := by decide +kernel
theorem dM_look_139 : decode prog_7_method_53_code 139 = .ok (.istore 9, 2) := by decide +kernel
theorem dM_look_141 : decode prog_7_method_53_code 141 = .ok (.iload 9, 2) := by decide +kernel
theorem dM_look_143 : decode prog_7_method_53_code 143 = .ok (.iload 6, 2) := by decide +kernel
theorem dM_look_145 : decode prog_7_method_53_code 145 = .ok (.if_icmp .ge 43, 3) := by decide +kernel
theorem dM_look_148 : decode prog_7_method_53_code 148 = .ok (.iload 8, 2) := by decide +kernel
theorem dM_look_150 : decode prog_7_method_53_code 150 = .ok (.ifCond .eq 38, 3) := by decide +kernel
theorem dM_look_153 : decode prog_7_method_53_code 153 = .ok (.aload_n 0, 1) := by decide +kernel
theorem dM_look_154 : decode prog_7_method_53_code 154 = .ok (.getfield 31, 3) := by decide +kernel
theorem dM_look_157 : decode prog_7_method_53_code 157 = .ok (.sipush 729, 3) := by decide +kernel
theorem dM_look_160 : decode prog_7_method_53_code 160 = .ok (.aload_n 0, 1) := by decide +kernel
theorem dM_look_161 : decode prog_7_method_53_code 161 = .ok (.getfield 50, 3) := by decide +kernel
theorem dM_look_164 : decode prog_7_method_53_code 164 = .ok (.iload 9, 2) := by decide +kernel
theorem dM_look_166 : decode prog_7_method_53_code 166 = .ok (.iaload, 1) := by decide +kernel
theorem dM_look_167 : decode prog_7_method_53_code 167 = .ok (.imul, 1) := by decide +kernel
theorem dM_look_168 : decode prog_7_method_53_code 168 = .ok (.iload 7, 2) := by decide +kernel
theorem dM_look_170 : decode prog_7_method_53_code 170 = .ok (.iadd, 1) := by decide +kernel
theorem dM_look_171 : decode prog_7_method_53_code 171 = .ok (.baload, 1) := by decide +kernel
theorem dM_look_172 : decode prog_7_method_53_code 172 = .ok (.ifCond .ne 7, 3) := by decide +kernel
theorem dM_look_175 : decode prog_7_method_53_code 175 = .ok (.iconst 1, 1) := by decide +kernel
theorem dM_look_176 : decode prog_7_method_53_code 176 = .ok (.goto 4, 3) := by decide +kernel
theorem dM_look_179 : decode prog_7_method_53_code 179 = .ok (.iconst 0, 1) := by decide +kernel
theorem dM_look_180 : decode prog_7_method_53_code 180 = .ok (.istore 8, 2) := by decide +kernel
theorem dM_look_182 : decode prog_7_method_53_code 182 = .ok (.iinc 9 1, 3) := by decide +kernel
theorem dM_look_185 : decode prog_7_method_53_code 185 = .ok (.goto (-44), 3) := by decide +kernel
theorem dM_look_188 : decode prog_7_method_53_code 188 = .ok (.aload_n 0, 1) := by decide +kernel
theorem dM_look_189 : decode prog_7_method_53_code 189 = .ok (.getfield 31, 3) := by decide +kernel
theorem dM_look_192 : decode prog_7_method_53_code 192 = .ok (.sipush 729, 3) := by decide +kernel
theorem dM_look_195 : decode prog_7_method_53_code 195 = .ok (.iload_n 1, 1) := by decide +kernel
theorem dM_look_196 : decode prog_7_method_53_code 196 = .ok (.imul, 1) := by decide +kernel
theorem dM_look_197 : decode prog_7_method_53_code 197 = .ok (.iload 7, 2) := by decide +kernel
theorem dM_look_199 : decode prog_7_method_53_code 199 = .ok (.iadd, 1) := by decide +kernel
theorem dM_look_200 : decode prog_7_method_53_code 200 = .ok (.iload 8, 2) := by decide +kernel
theorem dM_look_202 : decode prog_7_method_53_code 202 = .ok (.bastore, 1) := by decide +kernel
theorem dM_look_203 : decode prog_7_method_53_code 203 = .ok (.iinc 7 1, 3) := by decide +kernel
theorem dM_look_206 : decode prog_7_method_53_code 206 = .ok (.goto (-116), 3) := by decide +kernel
theorem dM_look_209 : decode prog_7_method_53_code 209 = .ok (.iconst 0, 1) := by decide +kernel
theorem dM_look_210 : decode prog_7_method_53_code 210 = .ok (.istore 7, 2) := by decide +kernel
theorem dM_look_212 : decode prog_7_method_53_code 212 = .ok (.iload 7, 2) := by decide +kernel
theorem dM_look_214 : decode prog_7_method_53_code 214 = .ok (.bipush 6, 2) := by decide +kernel
theorem dM_look_216 : decode prog_7_method_53_code 216 = .ok (.if_icmp .ge 38, 3) := by decide +kernel
theorem dM_look_219 : decode prog_7_method_53_code 219 = .ok (.aload_n 0, 1) := by decide +kernel
theorem dM_look_220 : decode prog_7_method_53_code 220 = .ok (.getfield 7, 3) := by decide +kernel
theorem dM_look_223 : decode prog_7_method_53_code 223 = .ok (.bipush 13, 2) := by decide +kernel
theorem dM_look_225 : decode prog_7_method_53_code 225 = .ok (.iload 7, 2) := by decide +kernel
theorem dM_look_227 : decode prog_7_method_53_code 227 = .ok (.iadd, 1) := by decide +kernel
theorem dM_look_228 : decode prog_7_method_53_code 228 = .ok (.iaload, 1) := by decide +kernel
theorem dM_look_229 : decode prog_7_method_53_code 229 = .ok (.iload_n 1, 1) := by decide +kernel
theorem dM_look_230 : decode prog_7_method_53_code 230 = .ok (.if_icmp .ne 18, 3) := by decide +kernel
theorem dM_look_233 : decode prog_7_method_53_code 233 = .ok (.aload_n 0, 1) := by decide +kernel
theorem dM_look_234 : decode prog_7_method_53_code 234 = .ok (.iload_n 1, 1) := by decide +kernel
theorem dM_look_235 : decode prog_7_method_53_code 235 = .ok (.iload_n 2, 1) := by decide +kernel
theorem dM_look_236 : decode prog_7_method_53_code 236 = .ok (.aload_n 0, 1) := by decide +kernel
theorem dM_look_237 : decode prog_7_method_53_code 237 = .ok (.getfield 44, 3) := by decide +kernel
theorem dM_look_240 : decode prog_7_method_53_code 240 = .ok (.iload 7, 2) := by decide +kernel
theorem dM_look_242 : decode prog_7_method_53_code 242 = .ok (.iaload, 1) := by decide +kernel
theorem dM_look_243 : decode prog_7_method_53_code 243 = .ok (.iload 4, 2) := by decide +kernel
theorem dM_look_245 : decode prog_7_method_53_code 245 = .ok (.invokevirtual 189, 3) := by decide +kernel
theorem dM_look_248 : decode prog_7_method_53_code 248 = .ok (.iinc 7 1, 3) := by decide +kernel
theorem dM_look_251 : decode prog_7_method_53_code 251 = .ok (.goto (-39), 3) := by decide +kernel
theorem dM_look_254 : decode prog_7_method_53_code 254 = .ok (.return_, 1) := by decide +kernel
theorem dM_any_0 : decode prog_7_method_54_code 0 = .ok (.iconst 0, 1) := by decide +kernel
theorem dM_any_1 : decode prog_7_method_54_code 1 = .ok (.istore 5, 2) := by decide +kernel
theorem dM_any_3 : decode prog_7_method_54_code 3 = .ok (.iload 5, 2) := by decide +kernel
theorem dM_any_5 : decode prog_7_method_54_code 5 = .ok (.iload 4, 2) := by decide +kernel
theorem dM_any_7 : decode prog_7_method_54_code 7 = .ok (.if_icmp .ge 104, 3) := by decide +kernel
theorem dM_any_10 : decode prog_7_method_54_code 10 = .ok (.iload 5, 2) := by decide +kernel
theorem dM_any_12 : decode prog_7_method_54_code 12 = .ok (.iload_n 3, 1) := by decide +kernel
theorem dM_any_13 : decode prog_7_method_54_code 13 = .ok (.idiv, 1) := by decide +kernel
theorem dM_any_14 : decode prog_7_method_54_code 14 = .ok (.iload_n 2, 1) := by decide +kernel
theorem dM_any_15 : decode prog_7_method_54_code 15 = .ok (.irem, 1) := by decide +kernel
theorem dM_any_16 : decode prog_7_method_54_code 16 = .ok (.ifCond .ne 89, 3) := by decide +kernel
theorem dM_any_19 : decode prog_7_method_54_code 19 = .ok (.iconst 0, 1) := by decide +kernel
theorem dM_any_20 : decode prog_7_method_54_code 20 = .ok (.istore 6, 2) := by decide +kernel
theorem dM_any_22 : decode prog_7_method_54_code 22 = .ok (.iconst 0, 1) := by decide +kernel
theorem dM_any_23 : decode prog_7_method_54_code 23 = .ok (.istore 7, 2) := by decide +kernel
theorem dM_any_25 : decode prog_7_method_54_code 25 = .ok (.iload 7, 2) := by decide +kernel
theorem dM_any_27 : decode prog_7_method_54_code 27 = .ok (.iload_n 2, 1) := by decide +kernel
theorem dM_any_28 : decode prog_7_method_54_code 28 = .ok (.if_icmp .ge 42, 3) := by decide +kernel
theorem dM_any_31 : decode prog_7_method_54_code 31 = .ok (.iload 6, 2) := by decide +kernel
theorem dM_any_33 : decode prog_7_method_54_code 33 = .ok (.ifCond .ne 24, 3) := by decide +kernel
theorem dM_any_36 : decode prog_7_method_54_code 36 = .ok (.aload_n 0, 1) := by decide +kernel
theorem dM_any_37 : decode prog_7_method_54_code 37 = .ok (.getfield 31, 3) := by decide +kernel
theorem dM_any_40 : decode prog_7_method_54_code 40 = .ok (.sipush 729, 3) := by decide +kernel
theorem dM_any_43 : decode prog_7_method_54_code 43 = .ok (.iload_n 1, 1) := by decide +kernel
theorem dM_any_44 : decode prog_7_method_54_code 44 = .ok (.imul, 1) := by decide +kernel
theorem dM_any_45 : decode prog_7_method_54_code 45 = .ok (.iload 5, 2) := by decide +kernel
theorem dM_any_47 : decode prog_7_method_54_code 47 = .ok (.iadd, 1) := by decide +kernel
theorem dM_any_48 : decode prog_7_method_54_code 48 = .ok (.iload 7, 2) := by decide +kernel
theorem dM_any_50 : decode prog_7_method_54_code 50 = .ok (.iload_n 3, 1) := by decide +kernel
theorem dM_any_51 : decode prog_7_method_54_code 51 = .ok (.imul, 1) := by decide +kernel
theorem dM_any_52 : decode prog_7_method_54_code 52 = .ok (.iadd, 1) := by decide +kernel
theorem dM_any_53 : decode prog_7_method_54_code 53 = .ok (.baload, 1) := by decide +kernel
theorem dM_any_54 : decode prog_7_method_54_code 54 = .ok (.ifCond .eq 7, 3) := by decide +kernel
theorem dM_any_57 : decode prog_7_method_54_code 57 = .ok (.iconst 1, 1) := by decide +kernel
theorem dM_any_58 : decode prog_7_method_54_code 58 = .ok (.goto 4, 3) := by decide +kernel
theorem dM_any_61 : decode prog_7_method_54_code 61 = .ok (.iconst 0, 1) := by decide +kernel
theorem dM_any_62 : decode prog_7_method_54_code 62 = .ok (.istore 6, 2) := by decide +kernel
theorem dM_any_64 : decode prog_7_method_54_code 64 = .ok (.iinc 7 1, 3) := by decide +kernel
theorem dM_any_67 : decode prog_7_method_54_code 67 = .ok (.goto (-42), 3) := by decide +kernel
theorem dM_any_70 : decode prog_7_method_54_code 70 = .ok (.iconst 0, 1) := by decide +kernel
theorem dM_any_71 : decode prog_7_method_54_code 71 = .ok (.istore 7, 2) := by decide +kernel
theorem dM_any_73 : decode prog_7_method_54_code 73 = .ok (.iload 7, 2) := by decide +kernel
theorem dM_any_75 : decode prog_7_method_54_code 75 = .ok (.iload_n 2, 1) := by decide +kernel
theorem dM_any_76 : decode prog_7_method_54_code 76 = .ok (.if_icmp .ge 29, 3) := by decide +kernel
theorem dM_any_79 : decode prog_7_method_54_code 79 = .ok (.aload_n 0, 1) := by decide +kernel
theorem dM_any_80 : decode prog_7_method_54_code 80 = .ok (.getfield 31, 3) := by decide +kernel
theorem dM_any_83 : decode prog_7_method_54_code 83 = .ok (.sipush 729, 3) := by decide +kernel
theorem dM_any_86 : decode prog_7_method_54_code 86 = .ok (.iload_n 1, 1) := by decide +kernel
theorem dM_any_87 : decode prog_7_method_54_code 87 = .ok (.imul, 1) := by decide +kernel
theorem dM_any_88 : decode prog_7_method_54_code 88 = .ok (.iload 5, 2) := by decide +kernel
theorem dM_any_90 : decode prog_7_method_54_code 90 = .ok (.iadd, 1) := by decide +kernel
theorem dM_any_91 : decode prog_7_method_54_code 91 = .ok (.iload 7, 2) := by decide +kernel
theorem dM_any_93 : decode prog_7_method_54_code 93 = .ok (.iload_n 3, 1) := by decide +kernel
theorem dM_any_94 : decode prog_7_method_54_code 94 = .ok (.imul, 1) := by decide +kernel
theorem dM_any_95 : decode prog_7_method_54_code 95 = .ok (.iadd, 1) := by decide +kernel
theorem dM_any_96 : decode prog_7_method_54_code 96 = .ok (.iload 6, 2) := by decide +kernel
theorem dM_any_98 : decode prog_7_method_54_code 98 = .ok (.bastore, 1) := by decide +kernel
theorem dM_any_99 : decode prog_7_method_54_code 99 = .ok (.iinc 7 1, 3) := by decide +kernel
theorem dM_any_102 : decode prog_7_method_54_code 102 = .ok (.goto (-29), 3) := by decide +kernel
theorem dM_any_105 : decode prog_7_method_54_code 105 = .ok (.iinc 5 1, 3) := by decide +kernel
theorem dM_any_108 : decode prog_7_method_54_code 108 = .ok (.goto (-105), 3) := by decide +kernel
theorem dM_any_111 : decode prog_7_method_54_code 111 = .ok (.return_, 1) := by decide +kernel
theorem dM_sheetHolds_0 : decode prog_7_method_55_code 0 = .ok (.iconst 1, 1) := by decide +kernel
theorem dM_sheetHolds_1 : decode prog_7_method_55_code 1 = .ok (.istore_n 3, 1) := by decide +kernel
theorem dM_sheetHolds_2 : decode prog_7_method_55_code 2 = .ok (.iconst 0, 1) := by decide +kernel
theorem dM_sheetHolds_3 : decode prog_7_method_55_code 3 = .ok (.istore 4, 2) := by decide +kernel
theorem dM_sheetHolds_5 : decode prog_7_method_55_code 5 = .ok (.iload 4, 2) := by decide +kernel
theorem dM_sheetHolds_7 : decode prog_7_method_55_code 7 = .ok (.bipush 6, 2) := by decide +kernel
theorem dM_sheetHolds_9 : decode prog_7_method_55_code 9 = .ok (.if_icmp .ge 34, 3) := by decide +kernel
theorem dM_sheetHolds_12 : decode prog_7_method_55_code 12 = .ok (.aload_n 0, 1) := by decide +kernel
theorem dM_sheetHolds_13 : decode prog_7_method_55_code 13 = .ok (.getfield 44, 3) := by decide +kernel
theorem dM_sheetHolds_16 : decode prog_7_method_55_code 16 = .ok (.iload 4, 2) := by decide +kernel
theorem dM_sheetHolds_18 : decode prog_7_method_55_code 18 = .ok (.iload_n 3, 1) := by decide +kernel
theorem dM_sheetHolds_19 : decode prog_7_method_55_code 19 = .ok (.iastore, 1) := by decide +kernel
theorem dM_sheetHolds_20 : decode prog_7_method_55_code 20 = .ok (.iload_n 3, 1) := by decide +kernel
theorem dM_sheetHolds_21 : decode prog_7_method_55_code 21 = .ok (.aload_n 0, 1) := by decide +kernel
theorem dM_sheetHolds_22 : decode prog_7_method_55_code 22 = .ok (.iload 4, 2) := by decide +kernel
theorem dM_sheetHolds_24 : decode prog_7_method_55_code 24 = .ok (.invokevirtual 89, 3) := by decide +kernel
theorem dM_sheetHolds_27 : decode prog_7_method_55_code 27 = .ok (.ifCond .eq 7, 3) := by decide +kernel
theorem dM_sheetHolds_30 : decode prog_7_method_55_code 30 = .ok (.iload_n 1, 1) := by decide +kernel
theorem dM_sheetHolds_31 : decode prog_7_method_55_code 31 = .ok (.goto 4, 3) := by decide +kernel
theorem dM_sheetHolds_34 : decode prog_7_method_55_code 34 = .ok (.iconst 1, 1) := by decide +kernel
theorem dM_sheetHolds_35 : decode prog_7_method_55_code 35 = .ok (.imul, 1) := by decide +kernel
theorem dM_sheetHolds_36 : decode prog_7_method_55_code 36 = .ok (.istore_n 3, 1) := by decide +kernel
theorem dM_sheetHolds_37 : decode prog_7_method_55_code 37 = .ok (.iinc 4 1, 3) := by decide +kernel
theorem dM_sheetHolds_40 : decode prog_7_method_55_code 40 = .ok (.goto (-35), 3) := by decide +kernel
theorem dM_sheetHolds_43 : decode prog_7_method_55_code 43 = .ok (.bipush 13, 2) := by decide +kernel
theorem dM_sheetHolds_45 : decode prog_7_method_55_code 45 = .ok (.istore 4, 2) := by decide +kernel
theorem dM_sheetHolds_47 : decode prog_7_method_55_code 47 = .ok (.iload 4, 2) := by decide +kernel
theorem dM_sheetHolds_49 : decode prog_7_method_55_code 49 = .ok (.ifCond .lt 54, 3) := by decide +kernel
theorem dM_sheetHolds_52 : decode prog_7_method_55_code 52 = .ok (.iconst 0, 1) := by decide +kernel
theorem dM_sheetHolds_53 : decode prog_7_method_55_code 53 = .ok (.istore 5, 2) := by decide +kernel
theorem dM_sheetHolds_55 : decode prog_7_method_55_code 55 = .ok (.iload 5, 2) := by decide +kernel
theorem dM_sheetHolds_57 : decode prog_7_method_55_code 57 = .ok (.bipush 13, 2) := by decide +kernel
theorem dM_sheetHolds_59 : decode prog_7_method_55_code 59 = .ok (.if_icmp .ge 38, 3) := by decide +kernel
theorem dM_sheetHolds_62 : decode prog_7_method_55_code 62 = .ok (.aload_n 0, 1) := by decide +kernel
theorem dM_sheetHolds_63 : decode prog_7_method_55_code 63 = .ok (.iload 5, 2) := by decide +kernel
theorem dM_sheetHolds_65 : decode prog_7_method_55_code 65 = .ok (.invokevirtual 60, 3) := by decide +kernel
theorem dM_sheetHolds_68 : decode prog_7_method_55_code 68 = .ok (.ifCond .eq 23, 3) := by decide +kernel
theorem dM_sheetHolds_71 : decode prog_7_method_55_code 71 = .ok (.aload_n 0, 1) := by decide +kernel
theorem dM_sheetHolds_72 : decode prog_7_method_55_code 72 = .ok (.iload 5, 2) := by decide +kernel
theorem dM_sheetHolds_74 : decode prog_7_method_55_code 74 = .ok (.invokevirtual 71, 3) := by decide +kernel
theorem dM_sheetHolds_77 : decode prog_7_method_55_code 77 = .ok (.iload 4, 2) := by decide +kernel
theorem dM_sheetHolds_79 : decode prog_7_method_55_code 79 = .ok (.if_icmp .ne 12, 3) := by decide +kernel
theorem dM_sheetHolds_82 : decode prog_7_method_55_code 82 = .ok (.aload_n 0, 1) := by decide +kernel
theorem dM_sheetHolds_83 : decode prog_7_method_55_code 83 = .ok (.iload 5, 2) := by decide +kernel
theorem dM_sheetHolds_85 : decode prog_7_method_55_code 85 = .ok (.iload_n 1, 1) := by decide +kernel
theorem dM_sheetHolds_86 : decode prog_7_method_55_code 86 = .ok (.iload_n 2, 1) := by decide +kernel
theorem dM_sheetHolds_87 : decode prog_7_method_55_code 87 = .ok (.iload_n 3, 1) := by decide +kernel
theorem dM_sheetHolds_88 : decode prog_7_method_55_code 88 = .ok (.invokevirtual 193, 3) := by decide +kernel
theorem dM_sheetHolds_91 : decode prog_7_method_55_code 91 = .ok (.iinc 5 1, 3) := by decide +kernel
theorem dM_sheetHolds_94 : decode prog_7_method_55_code 94 = .ok (.goto (-39), 3) := by decide +kernel
theorem dM_sheetHolds_97 : decode prog_7_method_55_code 97 = .ok (.iinc 4 (-1), 3) := by decide +kernel
theorem dM_sheetHolds_100 : decode prog_7_method_55_code 100 = .ok (.goto (-53), 3) := by decide +kernel
theorem dM_sheetHolds_103 : decode prog_7_method_55_code 103 = .ok (.aload_n 0, 1) := by decide +kernel
theorem dM_sheetHolds_104 : decode prog_7_method_55_code 104 = .ok (.getfield 31, 3) := by decide +kernel
theorem dM_sheetHolds_107 : decode prog_7_method_55_code 107 = .ok (.iconst 0, 1) := by decide +kernel
theorem dM_sheetHolds_108 : decode prog_7_method_55_code 108 = .ok (.baload, 1) := by decide +kernel
theorem dM_sheetHolds_109 : decode prog_7_method_55_code 109 = .ok (.ireturn, 1) := by decide +kernel
theorem dM_change_0 : decode prog_7_method_56_code 0 = .ok (.iconst 0, 1) := by decide +kernel
theorem dM_change_1 : decode prog_7_method_56_code 1 = .ok (.istore_n 1, 1) := by decide +kernel
theorem dM_change_2 : decode prog_7_method_56_code 2 = .ok (.iload_n 1, 1) := by decide +kernel
theorem dM_change_3 : decode prog_7_method_56_code 3 = .ok (.bipush 67, 2) := by decide +kernel
theorem dM_change_5 : decode prog_7_method_56_code 5 = .ok (.if_icmp .ge 35, 3) := by decide +kernel
theorem dM_change_8 : decode prog_7_method_56_code 8 = .ok (.aload_n 0, 1) := by decide +kernel
theorem dM_change_9 : decode prog_7_method_56_code 9 = .ok (.getfield 53, 3) := by decide +kernel
theorem dM_change_12 : decode prog_7_method_56_code 12 = .ok (.iload_n 1, 1) := by decide +kernel
theorem dM_change_13 : decode prog_7_method_56_code 13 = .ok (.iaload, 1) := by decide +kernel
theorem dM_change_14 : decode prog_7_method_56_code 14 = .ok (.istore_n 2, 1) := by decide +kernel
theorem dM_change_15 : decode prog_7_method_56_code 15 = .ok (.aload_n 0, 1) := by decide +kernel
theorem dM_change_16 : decode prog_7_method_56_code 16 = .ok (.getfield 53, 3) := by decide +kernel
theorem dM_change_19 : decode prog_7_method_56_code 19 = .ok (.iload_n 1, 1) := by decide +kernel
theorem dM_change_20 : decode prog_7_method_56_code 20 = .ok (.aload_n 0, 1) := by decide +kernel
theorem dM_change_21 : decode prog_7_method_56_code 21 = .ok (.getfield 7, 3) := by decide +kernel
theorem dM_change_24 : decode prog_7_method_56_code 24 = .ok (.iload_n 1, 1) := by decide +kernel
theorem dM_change_25 : decode prog_7_method_56_code 25 = .ok (.iaload, 1) := by decide +kernel
theorem dM_change_26 : decode prog_7_method_56_code 26 = .ok (.iastore, 1) := by decide +kernel
theorem dM_change_27 : decode prog_7_method_56_code 27 = .ok (.aload_n 0, 1) := by decide +kernel
theorem dM_change_28 : decode prog_7_method_56_code 28 = .ok (.getfield 7, 3) := by decide +kernel
theorem dM_change_31 : decode prog_7_method_56_code 31 = .ok (.iload_n 1, 1) := by decide +kernel
theorem dM_change_32 : decode prog_7_method_56_code 32 = .ok (.iload_n 2, 1) := by decide +kernel
theorem dM_change_33 : decode prog_7_method_56_code 33 = .ok (.iastore, 1) := by decide +kernel
theorem dM_change_34 : decode prog_7_method_56_code 34 = .ok (.iinc 1 1, 3) := by decide +kernel
theorem dM_change_37 : decode prog_7_method_56_code 37 = .ok (.goto (-35), 3) := by decide +kernel
theorem dM_change_40 : decode prog_7_method_56_code 40 = .ok (.return_, 1) := by decide +kernel
theorem dM_firstHolds_0 : decode prog_7_method_57_code 0 = .ok (.iconst 0, 1) := by decide +kernel
theorem dM_firstHolds_1 : decode prog_7_method_57_code 1 = .ok (.istore_n 3, 1) := by decide +kernel
theorem dM_firstHolds_2 : decode prog_7_method_57_code 2 = .ok (.iload_n 3, 1) := by decide +kernel
theorem dM_firstHolds_3 : decode prog_7_method_57_code 3 = .ok (.bipush 67, 2) := by decide +kernel
theorem dM_firstHolds_5 : decode prog_7_method_57_code 5 = .ok (.if_icmp .ge 37, 3) := by decide +kernel
theorem dM_firstHolds_8 : decode prog_7_method_57_code 8 = .ok (.aload_n 0, 1) := by decide +kernel
theorem dM_firstHolds_9 : decode prog_7_method_57_code 9 = .ok (.getfield 53, 3) := by decide +kernel
theorem dM_firstHolds_12 : decode prog_7_method_57_code 12 = .ok (.iload_n 3, 1) := by decide +kernel
theorem dM_firstHolds_13 : decode prog_7_method_57_code 13 = .ok (.aload_n 0, 1) := by decide +kernel
theorem dM_firstHolds_14 : decode prog_7_method_57_code 14 = .ok (.getfield 68, 3) := by decide +kernel
theorem dM_firstHolds_17 : decode prog_7_method_57_code 17 = .ok (.ifCond .ne 12, 3) := by decide +kernel
theorem dM_firstHolds_20 : decode prog_7_method_57_code 20 = .ok (.aload_n 0, 1) := by decide +kernel
theorem dM_firstHolds_21 : decode prog_7_method_57_code 21 = .ok (.getfield 7, 3) := by decide +kernel
theorem dM_firstHolds_24 : decode prog_7_method_57_code 24 = .ok (.iload_n 3, 1) := by decide +kernel
theorem dM_firstHolds_25 : decode prog_7_method_57_code 25 = .ok (.iaload, 1) := by decide +kernel
theorem dM_firstHolds_26 : decode prog_7_method_57_code 26 = .ok (.goto 9, 3) := by decide +kernel
theorem dM_firstHolds_29 : decode prog_7_method_57_code 29 = .ok (.aload_n 0, 1) := by decide +kernel
theorem dM_firstHolds_30 : decode prog_7_method_57_code 30 = .ok (.getfield 13, 3) := by decide +kernel
theorem dM_firstHolds_33 : decode prog_7_method_57_code 33 = .ok (.iload_n 3, 1) := by decide +kernel
theorem dM_firstHolds_34 : decode prog_7_method_57_code 34 = .ok (.iaload, 1) := by decide +kernel
theorem dM_firstHolds_35 : decode prog_7_method_57_code 35 = .ok (.iastore, 1) := by decide +kernel
theorem dM_firstHolds_36 : decode prog_7_method_57_code 36 = .ok (.iinc 3 1, 3) := by decide +kernel
theorem dM_firstHolds_39 : decode prog_7_method_57_code 39 = .ok (.goto (-37), 3) := by decide +kernel
theorem dM_firstHolds_42 : decode prog_7_method_57_code 42 = .ok (.aload_n 0, 1) := by decide +kernel
theorem dM_firstHolds_43 : decode prog_7_method_57_code 43 = .ok (.invokevirtual 196, 3) := by decide +kernel
theorem dM_firstHolds_46 : decode prog_7_method_57_code 46 = .ok (.aload_n 0, 1) := by decide +kernel
theorem dM_firstHolds_47 : decode prog_7_method_57_code 47 = .ok (.iload_n 1, 1) := by decide +kernel
theorem dM_firstHolds_48 : decode prog_7_method_57_code 48 = .ok (.iload_n 2, 1) := by decide +kernel
theorem dM_firstHolds_49 : decode prog_7_method_57_code 49 = .ok (.invokevirtual 199, 3) := by decide +kernel
theorem dM_firstHolds_52 : decode prog_7_method_57_code 52 = .ok (.istore_n 3, 1) := by decide +kernel
theorem dM_firstHolds_53 : decode prog_7_method_57_code 53 = .ok (.aload_n 0, 1) := by decide +kernel
theorem dM_firstHolds_54 : decode prog_7_method_57_code 54 = .ok (.invokevirtual 196, 3) := by decide +kernel
theorem dM_firstHolds_57 : decode prog_7_method_57_code 57 = .ok (.iload_n 3, 1) := by decide +kernel
theorem dM_firstHolds_58 : decode prog_7_method_57_code 58 = .ok (.ireturn, 1) := by decide +kernel
theorem dM_holds_0 : decode prog_7_method_58_code 0 = .ok (.aload_n 0, 1) := by decide +kernel
theorem dM_holds_1 : decode prog_7_method_58_code 1 = .ok (.iload_n 2, 1) := by decide +kernel
theorem dM_holds_2 : decode prog_7_method_58_code 2 = .ok (.iconst 1, 1) := by decide +kernel
theorem dM_holds_3 : decode prog_7_method_58_code 3 = .ok (.if_icmp .lt 19, 3) := by decide +kernel
theorem dM_holds_6 : decode prog_7_method_58_code 6 = .ok (.iload_n 2, 1) := by decide +kernel
theorem dM_holds_7 : decode prog_7_method_58_code 7 = .ok (.iconst 3, 1) := by decide +kernel
theorem dM_holds_8 : decode prog_7_method_58_code 8 = .ok (.if_icmp .gt 14, 3) := by decide +kernel
theorem dM_holds_11 : decode prog_7_method_58_code 11 = .ok (.iload_n 3, 1) := by decide +kernel
theorem dM_holds_12 : decode prog_7_method_58_code 12 = .ok (.ifCond .lt 10, 3) := by decide +kernel
theorem dM_holds_15 : decode prog_7_method_58_code 15 = .ok (.iload_n 3, 1) := by decide +kernel
theorem dM_holds_16 : decode prog_7_method_58_code 16 = .ok (.sipush 16384, 3) := by decide +kernel
theorem dM_holds_19 : decode prog_7_method_58_code 19 = .ok (.if_icmp .lt 7, 3) := by decide +kernel
theorem dM_holds_22 : decode prog_7_method_58_code 22 = .ok (.iconst 1, 1) := by decide +kernel
theorem dM_holds_23 : decode prog_7_method_58_code 23 = .ok (.goto 19, 3) := by decide +kernel
theorem dM_holds_26 : decode prog_7_method_58_code 26 = .ok (.iload_n 1, 1) := by decide +kernel
theorem dM_holds_27 : decode prog_7_method_58_code 27 = .ok (.ifCond .eq 14, 3) := by decide +kernel
theorem dM_holds_30 : decode prog_7_method_58_code 30 = .ok (.aload_n 0, 1) := by decide +kernel
theorem dM_holds_31 : decode prog_7_method_58_code 31 = .ok (.getfield 64, 3) := by decide +kernel
theorem dM_holds_34 : decode prog_7_method_58_code 34 = .ok (.ifCond .ne 7, 3) := by decide +kernel
theorem dM_holds_37 : decode prog_7_method_58_code 37 = .ok (.iconst 2, 1) := by decide +kernel
theorem dM_holds_38 : decode prog_7_method_58_code 38 = .ok (.goto 4, 3) := by decide +kernel
theorem dM_holds_41 : decode prog_7_method_58_code 41 = .ok (.iconst 0, 1) := by decide +kernel
theorem dM_holds_42 : decode prog_7_method_58_code 42 = .ok (.putfield 56, 3) := by decide +kernel
theorem dM_holds_45 : decode prog_7_method_58_code 45 = .ok (.aload_n 0, 1) := by decide +kernel
theorem dM_holds_46 : decode prog_7_method_58_code 46 = .ok (.getfield 56, 3) := by decide +kernel
theorem dM_holds_49 : decode prog_7_method_58_code 49 = .ok (.ifCond .ne 32, 3) := by decide +kernel
theorem dM_holds_52 : decode prog_7_method_58_code 52 = .ok (.iload_n 1, 1) := by decide +kernel
theorem dM_holds_53 : decode prog_7_method_58_code 53 = .ok (.ifCond .eq 15, 3) := by decide +kernel
theorem dM_holds_56 : decode prog_7_method_58_code 56 = .ok (.aload_n 0, 1) := by decide +kernel
theorem dM_holds_57 : decode prog_7_method_58_code 57 = .ok (.iload_n 2, 1) := by decide +kernel
theorem dM_holds_58 : decode prog_7_method_58_code 58 = .ok (.iload_n 3, 1) := by decide +kernel
theorem dM_holds_59 : decode prog_7_method_58_code 59 = .ok (.invokevirtual 202, 3) := by decide +kernel
theorem dM_holds_62 : decode prog_7_method_58_code 62 = .ok (.ifCond .eq 19, 3) := by decide +kernel
theorem dM_holds_65 : decode prog_7_method_58_code 65 = .ok (.goto 12, 3) := by decide +kernel
theorem dM_holds_68 : decode prog_7_method_58_code 68 = .ok (.aload_n 0, 1) := by decide +kernel
theorem dM_holds_69 : decode prog_7_method_58_code 69 = .ok (.iload_n 2, 1) := by decide +kernel
