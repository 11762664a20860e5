/-! printed by wip/whole/gen_names.py: decode rows -/
theorem dC_refutes_83 : decode prog_1_method_18_code 83 = .ok (.invokevirtual 164, 3) := by decide +kernel
theorem dC_refutes_86 : decode prog_1_method_18_code 86 = .ok (.ifCond .eq 17, 3) := by decide +kernel
theorem dC_refutes_89 : decode prog_1_method_18_code 89 = .ok (.aload_n 0, 1) := by decide +kernel
theorem dC_refutes_90 : decode prog_1_method_18_code 90 = .ok (.getfield 36, 3) := by decide +kernel
theorem dC_refutes_93 : decode prog_1_method_18_code 93 = .ok (.iload_n 1, 1) := by decide +kernel
theorem dC_refutes_94 : decode prog_1_method_18_code 94 = .ok (.iload_n 3, 1) := by decide +kernel
theorem dC_refutes_95 : decode prog_1_method_18_code 95 = .ok (.invokevirtual 164, 3) := by decide +kernel
theorem dC_refutes_98 : decode prog_1_method_18_code 98 = .ok (.ifCond .ne 5, 3) := by decide +kernel
theorem dC_refutes_101 : decode prog_1_method_18_code 101 = .ok (.iload_n 3, 1) := by decide +kernel
theorem dC_refutes_102 : decode prog_1_method_18_code 102 = .ok (.ireturn, 1) := by decide +kernel
theorem dC_refutes_103 : decode prog_1_method_18_code 103 = .ok (.iinc 3 1, 3) := by decide +kernel
theorem dC_refutes_106 : decode prog_1_method_18_code 106 = .ok (.goto (-42), 3) := by decide +kernel
theorem dC_refutes_109 : decode prog_1_method_18_code 109 = .ok (.iconst (-1), 1) := by decide +kernel
theorem dC_refutes_110 : decode prog_1_method_18_code 110 = .ok (.ireturn, 1) := by decide +kernel
theorem dC_count_0 : decode prog_1_method_19_code 0 = .ok (.iload_n 1, 1) := by decide +kernel
theorem dC_count_1 : decode prog_1_method_19_code 1 = .ok (.ifCond .lt 12, 3) := by decide +kernel
theorem dC_count_4 : decode prog_1_method_19_code 4 = .ok (.iload_n 1, 1) := by decide +kernel
theorem dC_count_5 : decode prog_1_method_19_code 5 = .ok (.iconst 3, 1) := by decide +kernel
theorem dC_count_6 : decode prog_1_method_19_code 6 = .ok (.if_icmp .gt 7, 3) := by decide +kernel
theorem dC_count_9 : decode prog_1_method_19_code 9 = .ok (.iconst 1, 1) := by decide +kernel
theorem dC_count_10 : decode prog_1_method_19_code 10 = .ok (.goto 4, 3) := by decide +kernel
theorem dC_count_13 : decode prog_1_method_19_code 13 = .ok (.iconst 0, 1) := by decide +kernel
theorem dC_count_14 : decode prog_1_method_19_code 14 = .ok (.invokestatic 59, 3) := by decide +kernel
theorem dC_count_17 : decode prog_1_method_19_code 17 = .ok (.iload_n 1, 1) := by decide +kernel
theorem dC_count_18 : decode prog_1_method_19_code 18 = .ok (.tableswitch 53 0 2 #[26, 35, 44], 26) := by decide +kernel
theorem dC_count_44 : decode prog_1_method_19_code 44 = .ok (.aload_n 0, 1) := by decide +kernel
theorem dC_count_45 : decode prog_1_method_19_code 45 = .ok (.invokevirtual 51, 3) := by decide +kernel
theorem dC_count_48 : decode prog_1_method_19_code 48 = .ok (.iconst 1, 1) := by decide +kernel
theorem dC_count_49 : decode prog_1_method_19_code 49 = .ok (.invokevirtual 170, 3) := by decide +kernel
theorem dC_count_52 : decode prog_1_method_19_code 52 = .ok (.ireturn, 1) := by decide +kernel
theorem dC_count_53 : decode prog_1_method_19_code 53 = .ok (.aload_n 0, 1) := by decide +kernel
theorem dC_count_54 : decode prog_1_method_19_code 54 = .ok (.invokevirtual 51, 3) := by decide +kernel
theorem dC_count_57 : decode prog_1_method_19_code 57 = .ok (.iconst 0, 1) := by decide +kernel
theorem dC_count_58 : decode prog_1_method_19_code 58 = .ok (.invokevirtual 170, 3) := by decide +kernel
theorem dC_count_61 : decode prog_1_method_19_code 61 = .ok (.ireturn, 1) := by decide +kernel
theorem dC_count_62 : decode prog_1_method_19_code 62 = .ok (.aload_n 0, 1) := by decide +kernel
theorem dC_count_63 : decode prog_1_method_19_code 63 = .ok (.invokevirtual 51, 3) := by decide +kernel
theorem dC_count_66 : decode prog_1_method_19_code 66 = .ok (.iconst 2, 1) := by decide +kernel
theorem dC_count_67 : decode prog_1_method_19_code 67 = .ok (.invokevirtual 170, 3) := by decide +kernel
theorem dC_count_70 : decode prog_1_method_19_code 70 = .ok (.ireturn, 1) := by decide +kernel
theorem dC_count_71 : decode prog_1_method_19_code 71 = .ok (.aload_n 0, 1) := by decide +kernel
theorem dC_count_72 : decode prog_1_method_19_code 72 = .ok (.getfield 47, 3) := by decide +kernel
theorem dC_count_75 : decode prog_1_method_19_code 75 = .ok (.ireturn, 1) := by decide +kernel
theorem dC_needArgument_0 : decode prog_1_method_20_code 0 = .ok (.iload_n 0, 1) := by decide +kernel
theorem dC_needArgument_1 : decode prog_1_method_20_code 1 = .ok (.ifCond .ne 11, 3) := by decide +kernel
theorem dC_needArgument_4 : decode prog_1_method_20_code 4 = .ok (.new 173, 3) := by decide +kernel
theorem dC_needArgument_7 : decode prog_1_method_20_code 7 = .ok (.dup, 1) := by decide +kernel
theorem dC_needArgument_8 : decode prog_1_method_20_code 8 = .ok (.invokespecial 175, 3) := by decide +kernel
theorem dC_needArgument_11 : decode prog_1_method_20_code 11 = .ok (.athrow, 1) := by decide +kernel
theorem dC_needArgument_12 : decode prog_1_method_20_code 12 = .ok (.return_, 1) := by decide +kernel
theorem dC_needState_0 : decode prog_1_method_21_code 0 = .ok (.iload_n 0, 1) := by decide +kernel
theorem dC_needState_1 : decode prog_1_method_21_code 1 = .ok (.ifCond .ne 11, 3) := by decide +kernel
theorem dC_needState_4 : decode prog_1_method_21_code 4 = .ok (.new 176, 3) := by decide +kernel
theorem dC_needState_7 : decode prog_1_method_21_code 7 = .ok (.dup, 1) := by decide +kernel
theorem dC_needState_8 : decode prog_1_method_21_code 8 = .ok (.invokespecial 178, 3) := by decide +kernel
theorem dC_needState_11 : decode prog_1_method_21_code 11 = .ok (.athrow, 1) := by decide +kernel
theorem dC_needState_12 : decode prog_1_method_21_code 12 = .ok (.return_, 1) := by decide +kernel
theorem dC_needRoom_0 : decode prog_1_method_22_code 0 = .ok (.iload_n 0, 1) := by decide +kernel
theorem dC_needRoom_1 : decode prog_1_method_22_code 1 = .ok (.ifCond .ne 11, 3) := by decide +kernel
theorem dC_needRoom_4 : decode prog_1_method_22_code 4 = .ok (.new 179, 3) := by decide +kernel
theorem dC_needRoom_7 : decode prog_1_method_22_code 7 = .ok (.dup, 1) := by decide +kernel
theorem dC_needRoom_8 : decode prog_1_method_22_code 8 = .ok (.invokespecial 181, 3) := by decide +kernel
theorem dC_needRoom_11 : decode prog_1_method_22_code 11 = .ok (.athrow, 1) := by decide +kernel
theorem dC_needRoom_12 : decode prog_1_method_22_code 12 = .ok (.return_, 1) := by decide +kernel
theorem dC_sheet_0 : decode prog_1_method_23_code 0 = .ok (.aload_n 0, 1) := by decide +kernel
theorem dC_sheet_1 : decode prog_1_method_23_code 1 = .ok (.getfield 11, 3) := by decide +kernel
theorem dC_sheet_4 : decode prog_1_method_23_code 4 = .ok (.aload_n 0, 1) := by decide +kernel
theorem dC_sheet_5 : decode prog_1_method_23_code 5 = .ok (.getfield 47, 3) := by decide +kernel
theorem dC_sheet_8 : decode prog_1_method_23_code 8 = .ok (.aaload, 1) := by decide +kernel
theorem dC_sheet_9 : decode prog_1_method_23_code 9 = .ok (.areturn, 1) := by decide +kernel
theorem dC_mayInsert_0 : decode prog_1_method_24_code 0 = .ok (.aload_n 0, 1) := by decide +kernel
theorem dC_mayInsert_1 : decode prog_1_method_24_code 1 = .ok (.getfield 43, 3) := by decide +kernel
theorem dC_mayInsert_4 : decode prog_1_method_24_code 4 = .ok (.ifCond .ne 14, 3) := by decide +kernel
theorem dC_mayInsert_7 : decode prog_1_method_24_code 7 = .ok (.aload_n 0, 1) := by decide +kernel
theorem dC_mayInsert_8 : decode prog_1_method_24_code 8 = .ok (.invokevirtual 51, 3) := by decide +kernel
theorem dC_mayInsert_11 : decode prog_1_method_24_code 11 = .ok (.iload_n 1, 1) := by decide +kernel
theorem dC_mayInsert_12 : decode prog_1_method_24_code 12 = .ok (.invokevirtual 104, 3) := by decide +kernel
theorem dC_mayInsert_15 : decode prog_1_method_24_code 15 = .ok (.ifCond .eq 7, 3) := by decide +kernel
theorem dC_mayInsert_18 : decode prog_1_method_24_code 18 = .ok (.iconst 1, 1) := by decide +kernel
theorem dC_mayInsert_19 : decode prog_1_method_24_code 19 = .ok (.goto 4, 3) := by decide +kernel
theorem dC_mayInsert_22 : decode prog_1_method_24_code 22 = .ok (.iconst 0, 1) := by decide +kernel
theorem dC_mayInsert_23 : decode prog_1_method_24_code 23 = .ok (.ireturn, 1) := by decide +kernel
theorem dC_mayChange_0 : decode prog_1_method_25_code 0 = .ok (.aload_n 0, 1) := by decide +kernel
theorem dC_mayChange_1 : decode prog_1_method_25_code 1 = .ok (.getfield 43, 3) := by decide +kernel
theorem dC_mayChange_4 : decode prog_1_method_25_code 4 = .ok (.ifCond .ne 12, 3) := by decide +kernel
theorem dC_mayChange_7 : decode prog_1_method_25_code 7 = .ok (.aload_n 0, 1) := by decide +kernel
theorem dC_mayChange_8 : decode prog_1_method_25_code 8 = .ok (.getfield 47, 3) := by decide +kernel
theorem dC_mayChange_11 : decode prog_1_method_25_code 11 = .ok (.bipush 20, 2) := by decide +kernel
theorem dC_mayChange_13 : decode prog_1_method_25_code 13 = .ok (.if_icmp .ge 7, 3) := by decide +kernel
theorem dC_mayChange_16 : decode prog_1_method_25_code 16 = .ok (.iconst 1, 1) := by decide +kernel
theorem dC_mayChange_17 : decode prog_1_method_25_code 17 = .ok (.goto 4, 3) := by decide +kernel
theorem dC_mayChange_20 : decode prog_1_method_25_code 20 = .ok (.iconst 0, 1) := by decide +kernel
theorem dC_mayChange_21 : decode prog_1_method_25_code 21 = .ok (.ireturn, 1) := by decide +kernel
theorem dC_changed_0 : decode prog_1_method_26_code 0 = .ok (.aload_n 0, 1) := by decide +kernel
theorem dC_changed_1 : decode prog_1_method_26_code 1 = .ok (.getfield 43, 3) := by decide +kernel
theorem dC_changed_4 : decode prog_1_method_26_code 4 = .ok (.ifCond .ne 45, 3) := by decide +kernel
theorem dC_changed_7 : decode prog_1_method_26_code 7 = .ok (.aload_n 0, 1) := by decide +kernel
theorem dC_changed_8 : decode prog_1_method_26_code 8 = .ok (.getfield 47, 3) := by decide +kernel
theorem dC_changed_11 : decode prog_1_method_26_code 11 = .ok (.bipush 20, 2) := by decide +kernel
theorem dC_changed_13 : decode prog_1_method_26_code 13 = .ok (.if_icmp .ge 36, 3) := by decide +kernel
theorem dC_changed_16 : decode prog_1_method_26_code 16 = .ok (.aload_n 0, 1) := by decide +kernel
theorem dC_changed_17 : decode prog_1_method_26_code 17 = .ok (.getfield 11, 3) := by decide +kernel
theorem dC_changed_20 : decode prog_1_method_26_code 20 = .ok (.aload_n 0, 1) := by decide +kernel
theorem dC_changed_21 : decode prog_1_method_26_code 21 = .ok (.getfield 47, 3) := by decide +kernel
theorem dC_changed_24 : decode prog_1_method_26_code 24 = .ok (.iconst 1, 1) := by decide +kernel
theorem dC_changed_25 : decode prog_1_method_26_code 25 = .ok (.iadd, 1) := by decide +kernel
theorem dC_changed_26 : decode prog_1_method_26_code 26 = .ok (.aaload, 1) := by decide +kernel
theorem dC_changed_27 : decode prog_1_method_26_code 27 = .ok (.aload_n 0, 1) := by decide +kernel
theorem dC_changed_28 : decode prog_1_method_26_code 28 = .ok (.getfield 11, 3) := by decide +kernel
theorem dC_changed_31 : decode prog_1_method_26_code 31 = .ok (.aload_n 0, 1) := by decide +kernel
theorem dC_changed_32 : decode prog_1_method_26_code 32 = .ok (.getfield 47, 3) := by decide +kernel
theorem dC_changed_35 : decode prog_1_method_26_code 35 = .ok (.aaload, 1) := by decide +kernel
theorem dC_changed_36 : decode prog_1_method_26_code 36 = .ok (.invokevirtual 182, 3) := by decide +kernel
theorem dC_changed_39 : decode prog_1_method_26_code 39 = .ok (.aload_n 0, 1) := by decide +kernel
theorem dC_changed_40 : decode prog_1_method_26_code 40 = .ok (.dup, 1) := by decide +kernel
theorem dC_changed_41 : decode prog_1_method_26_code 41 = .ok (.getfield 47, 3) := by decide +kernel
theorem dC_changed_44 : decode prog_1_method_26_code 44 = .ok (.iconst 1, 1) := by decide +kernel
theorem dC_changed_45 : decode prog_1_method_26_code 45 = .ok (.iadd, 1) := by decide +kernel
theorem dC_changed_46 : decode prog_1_method_26_code 46 = .ok (.putfield 47, 3) := by decide +kernel
theorem dC_changed_49 : decode prog_1_method_26_code 49 = .ok (.aload_n 0, 1) := by decide +kernel
theorem dC_changed_50 : decode prog_1_method_26_code 50 = .ok (.getfield 11, 3) := by decide +kernel
theorem dC_changed_53 : decode prog_1_method_26_code 53 = .ok (.aload_n 0, 1) := by decide +kernel
theorem dC_changed_54 : decode prog_1_method_26_code 54 = .ok (.getfield 47, 3) := by decide +kernel
theorem dC_changed_57 : decode prog_1_method_26_code 57 = .ok (.aaload, 1) := by decide +kernel
theorem dC_changed_58 : decode prog_1_method_26_code 58 = .ok (.areturn, 1) := by decide +kernel
theorem dC_hasAlike_0 : decode prog_1_method_27_code 0 = .ok (.aload_n 0, 1) := by decide +kernel
theorem dC_hasAlike_1 : decode prog_1_method_27_code 1 = .ok (.invokevirtual 51, 3) := by decide +kernel
theorem dC_hasAlike_4 : decode prog_1_method_27_code 4 = .ok (.astore_n 3, 1) := by decide +kernel
theorem dC_hasAlike_5 : decode prog_1_method_27_code 5 = .ok (.aload_n 3, 1) := by decide +kernel
theorem dC_hasAlike_6 : decode prog_1_method_27_code 6 = .ok (.iload_n 1, 1) := by decide +kernel
theorem dC_hasAlike_7 : decode prog_1_method_27_code 7 = .ok (.iload_n 2, 1) := by decide +kernel
theorem dC_hasAlike_8 : decode prog_1_method_27_code 8 = .ok (.invokevirtual 101, 3) := by decide +kernel
theorem dC_hasAlike_11 : decode prog_1_method_27_code 11 = .ok (.istore 4, 2) := by decide +kernel
theorem dC_hasAlike_13 : decode prog_1_method_27_code 13 = .ok (.aload_n 0, 1) := by decide +kernel
theorem dC_hasAlike_14 : decode prog_1_method_27_code 14 = .ok (.getfield 23, 3) := by decide +kernel
theorem dC_hasAlike_17 : decode prog_1_method_27_code 17 = .ok (.aload_n 3, 1) := by decide +kernel
theorem dC_hasAlike_18 : decode prog_1_method_27_code 18 = .ok (.iload_n 1, 1) := by decide +kernel
theorem dC_hasAlike_19 : decode prog_1_method_27_code 19 = .ok (.iload_n 2, 1) := by decide +kernel
theorem dC_hasAlike_20 : decode prog_1_method_27_code 20 = .ok (.invokevirtual 185, 3) := by decide +kernel
theorem dC_hasAlike_23 : decode prog_1_method_27_code 23 = .ok (.iconst 0, 1) := by decide +kernel
theorem dC_hasAlike_24 : decode prog_1_method_27_code 24 = .ok (.istore 5, 2) := by decide +kernel
theorem dC_hasAlike_26 : decode prog_1_method_27_code 26 = .ok (.iload 5, 2) := by decide +kernel
theorem dC_hasAlike_28 : decode prog_1_method_27_code 28 = .ok (.bipush 13, 2) := by decide +kernel
theorem dC_hasAlike_30 : decode prog_1_method_27_code 30 = .ok (.if_icmp .ge 68, 3) := by decide +kernel
theorem dC_hasAlike_33 : decode prog_1_method_27_code 33 = .ok (.iload 5, 2) := by decide +kernel
theorem dC_hasAlike_35 : decode prog_1_method_27_code 35 = .ok (.iload_n 2, 1) := by decide +kernel
theorem dC_hasAlike_36 : decode prog_1_method_27_code 36 = .ok (.if_icmp .eq 56, 3) := by decide +kernel
theorem dC_hasAlike_39 : decode prog_1_method_27_code 39 = .ok (.aload_n 3, 1) := by decide +kernel
theorem dC_hasAlike_40 : decode prog_1_method_27_code 40 = .ok (.iload_n 1, 1) := by decide +kernel
theorem dC_hasAlike_41 : decode prog_1_method_27_code 41 = .ok (.iload 5, 2) := by decide +kernel
theorem dC_hasAlike_43 : decode prog_1_method_27_code 43 = .ok (.invokevirtual 114, 3) := by decide +kernel
theorem dC_hasAlike_46 : decode prog_1_method_27_code 46 = .ok (.ifCond .eq 46, 3) := by decide +kernel
theorem dC_hasAlike_49 : decode prog_1_method_27_code 49 = .ok (.aload_n 3, 1) := by decide +kernel
theorem dC_hasAlike_50 : decode prog_1_method_27_code 50 = .ok (.iload 4, 2) := by decide +kernel
theorem dC_hasAlike_52 : decode prog_1_method_27_code 52 = .ok (.aload_n 3, 1) := by decide +kernel
theorem dC_hasAlike_53 : decode prog_1_method_27_code 53 = .ok (.iload_n 1, 1) := by decide +kernel
theorem dC_hasAlike_54 : decode prog_1_method_27_code 54 = .ok (.iload 5, 2) := by decide +kernel
theorem dC_hasAlike_56 : decode prog_1_method_27_code 56 = .ok (.invokevirtual 101, 3) := by decide +kernel
theorem dC_hasAlike_59 : decode prog_1_method_27_code 59 = .ok (.invokevirtual 117, 3) := by decide +kernel
theorem dC_hasAlike_62 : decode prog_1_method_27_code 62 = .ok (.ifCond .eq 30, 3) := by decide +kernel
theorem dC_hasAlike_65 : decode prog_1_method_27_code 65 = .ok (.aload_n 0, 1) := by decide +kernel
theorem dC_hasAlike_66 : decode prog_1_method_27_code 66 = .ok (.getfield 26, 3) := by decide +kernel
theorem dC_hasAlike_69 : decode prog_1_method_27_code 69 = .ok (.aload_n 3, 1) := by decide +kernel
theorem dC_hasAlike_70 : decode prog_1_method_27_code 70 = .ok (.iload_n 1, 1) := by decide +kernel
theorem dC_hasAlike_71 : decode prog_1_method_27_code 71 = .ok (.iload 5, 2) := by decide +kernel
theorem dC_hasAlike_73 : decode prog_1_method_27_code 73 = .ok (.invokevirtual 185, 3) := by decide +kernel
theorem dC_hasAlike_76 : decode prog_1_method_27_code 76 = .ok (.aload_n 0, 1) := by decide +kernel
theorem dC_hasAlike_77 : decode prog_1_method_27_code 77 = .ok (.getfield 23, 3) := by decide +kernel
theorem dC_hasAlike_80 : decode prog_1_method_27_code 80 = .ok (.aload_n 0, 1) := by decide +kernel
theorem dC_hasAlike_81 : decode prog_1_method_27_code 81 = .ok (.getfield 26, 3) := by decide +kernel
theorem dC_hasAlike_84 : decode prog_1_method_27_code 84 = .ok (.invokevirtual 189, 3) := by decide +kernel
theorem dC_hasAlike_87 : decode prog_1_method_27_code 87 = .ok (.ifCond .eq 5, 3) := by decide +kernel
theorem dC_hasAlike_90 : decode prog_1_method_27_code 90 = .ok (.iconst 1, 1) := by decide +kernel
theorem dC_hasAlike_91 : decode prog_1_method_27_code 91 = .ok (.ireturn, 1) := by decide +kernel
theorem dC_hasAlike_92 : decode prog_1_method_27_code 92 = .ok (.iinc 5 1, 3) := by decide +kernel
theorem dC_hasAlike_95 : decode prog_1_method_27_code 95 = .ok (.goto (-69), 3) := by decide +kernel
theorem dC_hasAlike_98 : decode prog_1_method_27_code 98 = .ok (.iconst 0, 1) := by decide +kernel
theorem dC_hasAlike_99 : decode prog_1_method_27_code 99 = .ok (.ireturn, 1) := by decide +kernel
theorem dC_placesOf_0 : decode prog_1_method_28_code 0 = .ok (.iload_n 0, 1) := by decide +kernel
theorem dC_placesOf_1 : decode prog_1_method_28_code 1 = .ok (.iconst 2, 1) := by decide +kernel
theorem dC_placesOf_2 : decode prog_1_method_28_code 2 = .ok (.if_icmp .ge 7, 3) := by decide +kernel
theorem dC_placesOf_5 : decode prog_1_method_28_code 5 = .ok (.iconst 0, 1) := by decide +kernel
theorem dC_placesOf_6 : decode prog_1_method_28_code 6 = .ok (.goto 6, 3) := by decide +kernel
theorem dC_placesOf_9 : decode prog_1_method_28_code 9 = .ok (.iload_n 0, 1) := by decide +kernel
theorem dC_placesOf_10 : decode prog_1_method_28_code 10 = .ok (.iconst 1, 1) := by decide +kernel
theorem dC_placesOf_11 : decode prog_1_method_28_code 11 = .ok (.isub, 1) := by decide +kernel
theorem dC_placesOf_12 : decode prog_1_method_28_code 12 = .ok (.ireturn, 1) := by decide +kernel
theorem dC_bitOfOne_0 : decode prog_1_method_29_code 0 = .ok (.iconst 2, 1) := by decide +kernel
theorem dC_bitOfOne_1 : decode prog_1_method_29_code 1 = .ok (.iload_n 0, 1) := by decide +kernel
theorem dC_bitOfOne_2 : decode prog_1_method_29_code 2 = .ok (.iadd, 1) := by decide +kernel
theorem dC_bitOfOne_3 : decode prog_1_method_29_code 3 = .ok (.ireturn, 1) := by decide +kernel
theorem dC_bitOfTwo_0 : decode prog_1_method_30_code 0 = .ok (.iconst 5, 1) := by decide +kernel
theorem dC_bitOfTwo_1 : decode prog_1_method_30_code 1 = .ok (.iconst 3, 1) := by decide +kernel
theorem dC_bitOfTwo_2 : decode prog_1_method_30_code 2 = .ok (.iload_n 0, 1) := by decide +kernel
theorem dC_bitOfTwo_3 : decode prog_1_method_30_code 3 = .ok (.imul, 1) := by decide +kernel
theorem dC_bitOfTwo_4 : decode prog_1_method_30_code 4 = .ok (.iadd, 1) := by decide +kernel
theorem dC_bitOfTwo_5 : decode prog_1_method_30_code 5 = .ok (.iload_n 1, 1) := by decide +kernel
theorem dC_bitOfTwo_6 : decode prog_1_method_30_code 6 = .ok (.iadd, 1) := by decide +kernel
theorem dC_bitOfTwo_7 : decode prog_1_method_30_code 7 = .ok (.ireturn, 1) := by decide +kernel
theorem dC_bitsOf_0 : decode prog_1_method_31_code 0 = .ok (.iconst 3, 1) := by decide +kernel
theorem dC_bitsOf_1 : decode prog_1_method_31_code 1 = .ok (.istore_n 1, 1) := by decide +kernel
theorem dC_bitsOf_2 : decode prog_1_method_31_code 2 = .ok (.iconst 0, 1) := by decide +kernel
theorem dC_bitsOf_3 : decode prog_1_method_31_code 3 = .ok (.istore_n 2, 1) := by decide +kernel
theorem dC_bitsOf_4 : decode prog_1_method_31_code 4 = .ok (.iload_n 2, 1) := by decide +kernel
theorem dC_bitsOf_5 : decode prog_1_method_31_code 5 = .ok (.iload_n 0, 1) := by decide +kernel
theorem dC_bitsOf_6 : decode prog_1_method_31_code 6 = .ok (.if_icmp .ge 41, 3) := by decide +kernel
theorem dC_bitsOf_9 : decode prog_1_method_31_code 9 = .ok (.iload_n 1, 1) := by decide +kernel
theorem dC_bitsOf_10 : decode prog_1_method_31_code 10 = .ok (.iconst 1, 1) := by decide +kernel
theorem dC_bitsOf_11 : decode prog_1_method_31_code 11 = .ok (.iload_n 2, 1) := by decide +kernel
theorem dC_bitsOf_12 : decode prog_1_method_31_code 12 = .ok (.invokestatic 193, 3) := by decide +kernel
theorem dC_bitsOf_15 : decode prog_1_method_31_code 15 = .ok (.ishl, 1) := by decide +kernel
theorem dC_bitsOf_16 : decode prog_1_method_31_code 16 = .ok (.ior, 1) := by decide +kernel
theorem dC_bitsOf_17 : decode prog_1_method_31_code 17 = .ok (.istore_n 1, 1) := by decide +kernel
theorem dC_bitsOf_18 : decode prog_1_method_31_code 18 = .ok (.iconst 0, 1) := by decide +kernel
theorem dC_bitsOf_19 : decode prog_1_method_31_code 19 = .ok (.istore_n 3, 1) := by decide +kernel
theorem dC_bitsOf_20 : decode prog_1_method_31_code 20 = .ok (.iload_n 3, 1) := by decide +kernel
theorem dC_bitsOf_21 : decode prog_1_method_31_code 21 = .ok (.iload_n 0, 1) := by decide +kernel
theorem dC_bitsOf_22 : decode prog_1_method_31_code 22 = .ok (.if_icmp .ge 19, 3) := by decide +kernel
theorem dC_bitsOf_25 : decode prog_1_method_31_code 25 = .ok (.iload_n 1, 1) := by decide +kernel
theorem dC_bitsOf_26 : decode prog_1_method_31_code 26 = .ok (.iconst 1, 1) := by decide +kernel
theorem dC_bitsOf_27 : decode prog_1_method_31_code 27 = .ok (.iload_n 2, 1) := by decide +kernel
theorem dC_bitsOf_28 : decode prog_1_method_31_code 28 = .ok (.iload_n 3, 1) := by decide +kernel
theorem dC_bitsOf_29 : decode prog_1_method_31_code 29 = .ok (.invokestatic 196, 3) := by decide +kernel
theorem dC_bitsOf_32 : decode prog_1_method_31_code 32 = .ok (.ishl, 1) := by decide +kernel
theorem dC_bitsOf_33 : decode prog_1_method_31_code 33 = .ok (.ior, 1) := by decide +kernel
theorem dC_bitsOf_34 : decode prog_1_method_31_code 34 = .ok (.istore_n 1, 1) := by decide +kernel
theorem dC_bitsOf_35 : decode prog_1_method_31_code 35 = .ok (.iinc 3 1, 3) := by decide +kernel
theorem dC_bitsOf_38 : decode prog_1_method_31_code 38 = .ok (.goto (-18), 3) := by decide +kernel
theorem dC_bitsOf_41 : decode prog_1_method_31_code 41 = .ok (.iinc 2 1, 3) := by decide +kernel
theorem dC_bitsOf_44 : decode prog_1_method_31_code 44 = .ok (.goto (-40), 3) := by decide +kernel
theorem dC_bitsOf_47 : decode prog_1_method_31_code 47 = .ok (.iload_n 1, 1) := by decide +kernel
theorem dC_bitsOf_48 : decode prog_1_method_31_code 48 = .ok (.ireturn, 1) := by decide +kernel
theorem dC_isAmong_0 : decode prog_1_method_32_code 0 = .ok (.iload_n 1, 1) := by decide +kernel
theorem dC_isAmong_1 : decode prog_1_method_32_code 1 = .ok (.iconst (-1), 1) := by decide +kernel
theorem dC_isAmong_2 : decode prog_1_method_32_code 2 = .ok (.if_icmp .eq 16, 3) := by decide +kernel
theorem dC_isAmong_5 : decode prog_1_method_32_code 5 = .ok (.iload_n 0, 1) := by decide +kernel
theorem dC_isAmong_6 : decode prog_1_method_32_code 6 = .ok (.iload_n 1, 1) := by decide +kernel
theorem dC_isAmong_7 : decode prog_1_method_32_code 7 = .ok (.ishr, 1) := by decide +kernel
theorem dC_isAmong_8 : decode prog_1_method_32_code 8 = .ok (.iconst 1, 1) := by decide +kernel
theorem dC_isAmong_9 : decode prog_1_method_32_code 9 = .ok (.iand, 1) := by decide +kernel
theorem dC_isAmong_10 : decode prog_1_method_32_code 10 = .ok (.iconst 1, 1) := by decide +kernel
theorem dC_isAmong_11 : decode prog_1_method_32_code 11 = .ok (.if_icmp .ne 7, 3) := by decide +kernel
theorem dC_isAmong_14 : decode prog_1_method_32_code 14 = .ok (.iconst 1, 1) := by decide +kernel
theorem dC_isAmong_15 : decode prog_1_method_32_code 15 = .ok (.goto 4, 3) := by decide +kernel
theorem dC_isAmong_18 : decode prog_1_method_32_code 18 = .ok (.iconst 0, 1) := by decide +kernel
theorem dC_isAmong_19 : decode prog_1_method_32_code 19 = .ok (.ireturn, 1) := by decide +kernel
