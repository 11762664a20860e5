/-! printed by wip/whole/gen_names.py: decode rows -/
theorem dM_holds_70 : decode prog_7_method_58_code 70 = .ok (.iload_n 3, 1) := by decide +kernel
theorem dM_holds_71 : decode prog_7_method_58_code 71 = .ok (.invokevirtual 199, 3) := by decide +kernel
theorem dM_holds_74 : decode prog_7_method_58_code 74 = .ok (.ifCond .eq 7, 3) := by decide +kernel
theorem dM_holds_77 : decode prog_7_method_58_code 77 = .ok (.iconst 1, 1) := by decide +kernel
theorem dM_holds_78 : decode prog_7_method_58_code 78 = .ok (.goto 4, 3) := by decide +kernel
theorem dM_holds_81 : decode prog_7_method_58_code 81 = .ok (.iconst 0, 1) := by decide +kernel
theorem dM_holds_82 : decode prog_7_method_58_code 82 = .ok (.ireturn, 1) := by decide +kernel
theorem dM_refutes_0 : decode prog_7_method_59_code 0 = .ok (.aload_n 0, 1) := by decide +kernel
theorem dM_refutes_1 : decode prog_7_method_59_code 1 = .ok (.iload_n 1, 1) := by decide +kernel
theorem dM_refutes_2 : decode prog_7_method_59_code 2 = .ok (.iconst 1, 1) := by decide +kernel
theorem dM_refutes_3 : decode prog_7_method_59_code 3 = .ok (.if_icmp .lt 8, 3) := by decide +kernel
theorem dM_refutes_6 : decode prog_7_method_59_code 6 = .ok (.iload_n 1, 1) := by decide +kernel
theorem dM_refutes_7 : decode prog_7_method_59_code 7 = .ok (.iconst 2, 1) := by decide +kernel
theorem dM_refutes_8 : decode prog_7_method_59_code 8 = .ok (.if_icmp .le 7, 3) := by decide +kernel
theorem dM_refutes_11 : decode prog_7_method_59_code 11 = .ok (.iconst 1, 1) := by decide +kernel
theorem dM_refutes_12 : decode prog_7_method_59_code 12 = .ok (.goto 15, 3) := by decide +kernel
theorem dM_refutes_15 : decode prog_7_method_59_code 15 = .ok (.aload_n 0, 1) := by decide +kernel
theorem dM_refutes_16 : decode prog_7_method_59_code 16 = .ok (.getfield 64, 3) := by decide +kernel
theorem dM_refutes_19 : decode prog_7_method_59_code 19 = .ok (.ifCond .ne 7, 3) := by decide +kernel
theorem dM_refutes_22 : decode prog_7_method_59_code 22 = .ok (.iconst 2, 1) := by decide +kernel
theorem dM_refutes_23 : decode prog_7_method_59_code 23 = .ok (.goto 4, 3) := by decide +kernel
theorem dM_refutes_26 : decode prog_7_method_59_code 26 = .ok (.iconst 0, 1) := by decide +kernel
theorem dM_refutes_27 : decode prog_7_method_59_code 27 = .ok (.putfield 56, 3) := by decide +kernel
theorem dM_refutes_30 : decode prog_7_method_59_code 30 = .ok (.aload_n 0, 1) := by decide +kernel
theorem dM_refutes_31 : decode prog_7_method_59_code 31 = .ok (.getfield 56, 3) := by decide +kernel
theorem dM_refutes_34 : decode prog_7_method_59_code 34 = .ok (.ifCond .eq 5, 3) := by decide +kernel
theorem dM_refutes_37 : decode prog_7_method_59_code 37 = .ok (.iconst 0, 1) := by decide +kernel
theorem dM_refutes_38 : decode prog_7_method_59_code 38 = .ok (.ireturn, 1) := by decide +kernel
theorem dM_refutes_39 : decode prog_7_method_59_code 39 = .ok (.iload_n 1, 1) := by decide +kernel
theorem dM_refutes_40 : decode prog_7_method_59_code 40 = .ok (.iconst 1, 1) := by decide +kernel
theorem dM_refutes_41 : decode prog_7_method_59_code 41 = .ok (.if_icmp .ne 8, 3) := by decide +kernel
theorem dM_refutes_44 : decode prog_7_method_59_code 44 = .ok (.bipush 39, 2) := by decide +kernel
theorem dM_refutes_46 : decode prog_7_method_59_code 46 = .ok (.goto 6, 3) := by decide +kernel
theorem dM_refutes_49 : decode prog_7_method_59_code 49 = .ok (.sipush 879, 3) := by decide +kernel
theorem dM_refutes_52 : decode prog_7_method_59_code 52 = .ok (.istore_n 2, 1) := by decide +kernel
theorem dM_refutes_53 : decode prog_7_method_59_code 53 = .ok (.iconst 0, 1) := by decide +kernel
theorem dM_refutes_54 : decode prog_7_method_59_code 54 = .ok (.istore_n 3, 1) := by decide +kernel
theorem dM_refutes_55 : decode prog_7_method_59_code 55 = .ok (.iload_n 3, 1) := by decide +kernel
theorem dM_refutes_56 : decode prog_7_method_59_code 56 = .ok (.sipush 1024, 3) := by decide +kernel
theorem dM_refutes_59 : decode prog_7_method_59_code 59 = .ok (.if_icmp .ge 37, 3) := by decide +kernel
theorem dM_refutes_62 : decode prog_7_method_59_code 62 = .ok (.iload_n 3, 1) := by decide +kernel
theorem dM_refutes_63 : decode prog_7_method_59_code 63 = .ok (.iload_n 2, 1) := by decide +kernel
theorem dM_refutes_64 : decode prog_7_method_59_code 64 = .ok (.iconst (-1), 1) := by decide +kernel
theorem dM_refutes_65 : decode prog_7_method_59_code 65 = .ok (.ixor, 1) := by decide +kernel
theorem dM_refutes_66 : decode prog_7_method_59_code 66 = .ok (.iand, 1) := by decide +kernel
theorem dM_refutes_67 : decode prog_7_method_59_code 67 = .ok (.ifCond .ne 23, 3) := by decide +kernel
theorem dM_refutes_70 : decode prog_7_method_59_code 70 = .ok (.aload_n 0, 1) := by decide +kernel
theorem dM_refutes_71 : decode prog_7_method_59_code 71 = .ok (.iload_n 1, 1) := by decide +kernel
theorem dM_refutes_72 : decode prog_7_method_59_code 72 = .ok (.iload_n 3, 1) := by decide +kernel
theorem dM_refutes_73 : decode prog_7_method_59_code 73 = .ok (.invokevirtual 202, 3) := by decide +kernel
theorem dM_refutes_76 : decode prog_7_method_59_code 76 = .ok (.ifCond .eq 14, 3) := by decide +kernel
theorem dM_refutes_79 : decode prog_7_method_59_code 79 = .ok (.aload_n 0, 1) := by decide +kernel
theorem dM_refutes_80 : decode prog_7_method_59_code 80 = .ok (.iload_n 1, 1) := by decide +kernel
theorem dM_refutes_81 : decode prog_7_method_59_code 81 = .ok (.iload_n 3, 1) := by decide +kernel
theorem dM_refutes_82 : decode prog_7_method_59_code 82 = .ok (.invokevirtual 199, 3) := by decide +kernel
theorem dM_refutes_85 : decode prog_7_method_59_code 85 = .ok (.ifCond .ne 5, 3) := by decide +kernel
theorem dM_refutes_88 : decode prog_7_method_59_code 88 = .ok (.iload_n 3, 1) := by decide +kernel
theorem dM_refutes_89 : decode prog_7_method_59_code 89 = .ok (.ireturn, 1) := by decide +kernel
theorem dM_refutes_90 : decode prog_7_method_59_code 90 = .ok (.iinc 3 1, 3) := by decide +kernel
theorem dM_refutes_93 : decode prog_7_method_59_code 93 = .ok (.goto (-38), 3) := by decide +kernel
theorem dM_refutes_96 : decode prog_7_method_59_code 96 = .ok (.iconst (-1), 1) := by decide +kernel
theorem dM_refutes_97 : decode prog_7_method_59_code 97 = .ok (.ireturn, 1) := by decide +kernel
