/-! printed by wip/whole/gen_names.py: decode rows -/
theorem dG_init_0 : decode prog_2_method_1_code 0 = .ok (.aload_n 0, 1) := by decide +kernel
theorem dG_init_1 : decode prog_2_method_1_code 1 = .ok (.invokespecial 3, 3) := by decide +kernel
theorem dG_init_4 : decode prog_2_method_1_code 4 = .ok (.aload_n 0, 1) := by decide +kernel
theorem dG_init_5 : decode prog_2_method_1_code 5 = .ok (.bipush 14, 2) := by decide +kernel
theorem dG_init_7 : decode prog_2_method_1_code 7 = .ok (.newarray .int, 2) := by decide +kernel
theorem dG_init_9 : decode prog_2_method_1_code 9 = .ok (.putfield 9, 3) := by decide +kernel
theorem dG_init_12 : decode prog_2_method_1_code 12 = .ok (.aload_n 0, 1) := by decide +kernel
theorem dG_init_13 : decode prog_2_method_1_code 13 = .ok (.iload_n 1, 1) := by decide +kernel
theorem dG_init_14 : decode prog_2_method_1_code 14 = .ok (.newarray .int, 2) := by decide +kernel
theorem dG_init_16 : decode prog_2_method_1_code 16 = .ok (.putfield 15, 3) := by decide +kernel
theorem dG_init_19 : decode prog_2_method_1_code 19 = .ok (.return_, 1) := by decide +kernel
theorem dG_arrange_0 : decode prog_2_method_2_code 0 = .ok (.iconst 0, 1) := by decide +kernel
theorem dG_arrange_1 : decode prog_2_method_2_code 1 = .ok (.istore_n 2, 1) := by decide +kernel
theorem dG_arrange_2 : decode prog_2_method_2_code 2 = .ok (.iconst 0, 1) := by decide +kernel
theorem dG_arrange_3 : decode prog_2_method_2_code 3 = .ok (.istore_n 3, 1) := by decide +kernel
theorem dG_arrange_4 : decode prog_2_method_2_code 4 = .ok (.iload_n 3, 1) := by decide +kernel
theorem dG_arrange_5 : decode prog_2_method_2_code 5 = .ok (.bipush 13, 2) := by decide +kernel
theorem dG_arrange_7 : decode prog_2_method_2_code 7 = .ok (.if_icmp .ge 60, 3) := by decide +kernel
theorem dG_arrange_10 : decode prog_2_method_2_code 10 = .ok (.aload_n 0, 1) := by decide +kernel
theorem dG_arrange_11 : decode prog_2_method_2_code 11 = .ok (.getfield 9, 3) := by decide +kernel
theorem dG_arrange_14 : decode prog_2_method_2_code 14 = .ok (.iload_n 3, 1) := by decide +kernel
theorem dG_arrange_15 : decode prog_2_method_2_code 15 = .ok (.iload_n 2, 1) := by decide +kernel
theorem dG_arrange_16 : decode prog_2_method_2_code 16 = .ok (.iastore, 1) := by decide +kernel
theorem dG_arrange_17 : decode prog_2_method_2_code 17 = .ok (.iconst 0, 1) := by decide +kernel
theorem dG_arrange_18 : decode prog_2_method_2_code 18 = .ok (.istore 4, 2) := by decide +kernel
theorem dG_arrange_20 : decode prog_2_method_2_code 20 = .ok (.iload 4, 2) := by decide +kernel
theorem dG_arrange_22 : decode prog_2_method_2_code 22 = .ok (.aload_n 1, 1) := by decide +kernel
theorem dG_arrange_23 : decode prog_2_method_2_code 23 = .ok (.arraylength, 1) := by decide +kernel
theorem dG_arrange_24 : decode prog_2_method_2_code 24 = .ok (.if_icmp .ge 37, 3) := by decide +kernel
theorem dG_arrange_27 : decode prog_2_method_2_code 27 = .ok (.aload_n 1, 1) := by decide +kernel
theorem dG_arrange_28 : decode prog_2_method_2_code 28 = .ok (.iload 4, 2) := by decide +kernel
theorem dG_arrange_30 : decode prog_2_method_2_code 30 = .ok (.iaload, 1) := by decide +kernel
theorem dG_arrange_31 : decode prog_2_method_2_code 31 = .ok (.iload_n 3, 1) := by decide +kernel
theorem dG_arrange_32 : decode prog_2_method_2_code 32 = .ok (.if_icmp .ne 23, 3) := by decide +kernel
theorem dG_arrange_35 : decode prog_2_method_2_code 35 = .ok (.iload_n 2, 1) := by decide +kernel
theorem dG_arrange_36 : decode prog_2_method_2_code 36 = .ok (.aload_n 0, 1) := by decide +kernel
theorem dG_arrange_37 : decode prog_2_method_2_code 37 = .ok (.getfield 15, 3) := by decide +kernel
theorem dG_arrange_40 : decode prog_2_method_2_code 40 = .ok (.arraylength, 1) := by decide +kernel
theorem dG_arrange_41 : decode prog_2_method_2_code 41 = .ok (.if_icmp .ge 14, 3) := by decide +kernel
theorem dG_arrange_44 : decode prog_2_method_2_code 44 = .ok (.aload_n 0, 1) := by decide +kernel
theorem dG_arrange_45 : decode prog_2_method_2_code 45 = .ok (.getfield 15, 3) := by decide +kernel
theorem dG_arrange_48 : decode prog_2_method_2_code 48 = .ok (.iload_n 2, 1) := by decide +kernel
theorem dG_arrange_49 : decode prog_2_method_2_code 49 = .ok (.iload 4, 2) := by decide +kernel
theorem dG_arrange_51 : decode prog_2_method_2_code 51 = .ok (.iastore, 1) := by decide +kernel
theorem dG_arrange_52 : decode prog_2_method_2_code 52 = .ok (.iinc 2 1, 3) := by decide +kernel
theorem dG_arrange_55 : decode prog_2_method_2_code 55 = .ok (.iinc 4 1, 3) := by decide +kernel
theorem dG_arrange_58 : decode prog_2_method_2_code 58 = .ok (.goto (-38), 3) := by decide +kernel
theorem dG_arrange_61 : decode prog_2_method_2_code 61 = .ok (.iinc 3 1, 3) := by decide +kernel
theorem dG_arrange_64 : decode prog_2_method_2_code 64 = .ok (.goto (-60), 3) := by decide +kernel
theorem dG_arrange_67 : decode prog_2_method_2_code 67 = .ok (.aload_n 0, 1) := by decide +kernel
theorem dG_arrange_68 : decode prog_2_method_2_code 68 = .ok (.getfield 9, 3) := by decide +kernel
theorem dG_arrange_71 : decode prog_2_method_2_code 71 = .ok (.bipush 13, 2) := by decide +kernel
theorem dG_arrange_73 : decode prog_2_method_2_code 73 = .ok (.iload_n 2, 1) := by decide +kernel
theorem dG_arrange_74 : decode prog_2_method_2_code 74 = .ok (.iastore, 1) := by decide +kernel
theorem dG_arrange_75 : decode prog_2_method_2_code 75 = .ok (.return_, 1) := by decide +kernel
