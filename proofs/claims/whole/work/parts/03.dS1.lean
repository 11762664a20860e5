/-! printed by wip/whole/gen_names.py: decode rows -/
theorem dS_copyCut_73 : decode prog_5_method_29_code 73 = .ok (.if_icmp .ne 13, 3) := by decide +kernel
theorem dS_copyCut_76 : decode prog_5_method_29_code 76 = .ok (.aload_n 0, 1) := by decide +kernel
theorem dS_copyCut_77 : decode prog_5_method_29_code 77 = .ok (.iload 6, 2) := by decide +kernel
theorem dS_copyCut_79 : decode prog_5_method_29_code 79 = .ok (.iload 5, 2) := by decide +kernel
theorem dS_copyCut_81 : decode prog_5_method_29_code 81 = .ok (.aload_n 3, 1) := by decide +kernel
theorem dS_copyCut_82 : decode prog_5_method_29_code 82 = .ok (.invokevirtual 85, 3) := by decide +kernel
theorem dS_copyCut_85 : decode prog_5_method_29_code 85 = .ok (.pop, 1) := by decide +kernel
theorem dS_copyCut_86 : decode prog_5_method_29_code 86 = .ok (.iinc 6 1, 3) := by decide +kernel
theorem dS_copyCut_89 : decode prog_5_method_29_code 89 = .ok (.goto (-31), 3) := by decide +kernel
theorem dS_copyCut_92 : decode prog_5_method_29_code 92 = .ok (.aload_n 0, 1) := by decide +kernel
theorem dS_copyCut_93 : decode prog_5_method_29_code 93 = .ok (.iload_n 1, 1) := by decide +kernel
theorem dS_copyCut_94 : decode prog_5_method_29_code 94 = .ok (.iload 5, 2) := by decide +kernel
theorem dS_copyCut_96 : decode prog_5_method_29_code 96 = .ok (.aload_n 3, 1) := by decide +kernel
theorem dS_copyCut_97 : decode prog_5_method_29_code 97 = .ok (.iload 4, 2) := by decide +kernel
theorem dS_copyCut_99 : decode prog_5_method_29_code 99 = .ok (.invokevirtual 97, 3) := by decide +kernel
theorem dS_copyCut_102 : decode prog_5_method_29_code 102 = .ok (.iload 5, 2) := by decide +kernel
theorem dS_copyCut_104 : decode prog_5_method_29_code 104 = .ok (.ireturn, 1) := by decide +kernel
theorem dS_copyCutsIn_0 : decode prog_5_method_30_code 0 = .ok (.iconst 1, 1) := by decide +kernel
theorem dS_copyCutsIn_1 : decode prog_5_method_30_code 1 = .ok (.istore 5, 2) := by decide +kernel
theorem dS_copyCutsIn_3 : decode prog_5_method_30_code 3 = .ok (.iload 5, 2) := by decide +kernel
theorem dS_copyCutsIn_5 : decode prog_5_method_30_code 5 = .ok (.bipush 13, 2) := by decide +kernel
theorem dS_copyCutsIn_7 : decode prog_5_method_30_code 7 = .ok (.if_icmp .ge 33, 3) := by decide +kernel
theorem dS_copyCutsIn_10 : decode prog_5_method_30_code 10 = .ok (.aload_n 0, 1) := by decide +kernel
theorem dS_copyCutsIn_11 : decode prog_5_method_30_code 11 = .ok (.getfield 15, 3) := by decide +kernel
theorem dS_copyCutsIn_14 : decode prog_5_method_30_code 14 = .ok (.iload 5, 2) := by decide +kernel
theorem dS_copyCutsIn_16 : decode prog_5_method_30_code 16 = .ok (.iaload, 1) := by decide +kernel
theorem dS_copyCutsIn_17 : decode prog_5_method_30_code 17 = .ok (.iload_n 1, 1) := by decide +kernel
theorem dS_copyCutsIn_18 : decode prog_5_method_30_code 18 = .ok (.if_icmp .ne 16, 3) := by decide +kernel
theorem dS_copyCutsIn_21 : decode prog_5_method_30_code 21 = .ok (.aload_n 0, 1) := by decide +kernel
theorem dS_copyCutsIn_22 : decode prog_5_method_30_code 22 = .ok (.iload 5, 2) := by decide +kernel
theorem dS_copyCutsIn_24 : decode prog_5_method_30_code 24 = .ok (.iload_n 2, 1) := by decide +kernel
theorem dS_copyCutsIn_25 : decode prog_5_method_30_code 25 = .ok (.aload_n 3, 1) := by decide +kernel
theorem dS_copyCutsIn_26 : decode prog_5_method_30_code 26 = .ok (.iload 4, 2) := by decide +kernel
theorem dS_copyCutsIn_28 : decode prog_5_method_30_code 28 = .ok (.iconst 1, 1) := by decide +kernel
theorem dS_copyCutsIn_29 : decode prog_5_method_30_code 29 = .ok (.iadd, 1) := by decide +kernel
theorem dS_copyCutsIn_30 : decode prog_5_method_30_code 30 = .ok (.invokevirtual 89, 3) := by decide +kernel
theorem dS_copyCutsIn_33 : decode prog_5_method_30_code 33 = .ok (.pop, 1) := by decide +kernel
theorem dS_copyCutsIn_34 : decode prog_5_method_30_code 34 = .ok (.iinc 5 1, 3) := by decide +kernel
theorem dS_copyCutsIn_37 : decode prog_5_method_30_code 37 = .ok (.goto (-34), 3) := by decide +kernel
theorem dS_copyCutsIn_40 : decode prog_5_method_30_code 40 = .ok (.return_, 1) := by decide +kernel
