/-! printed by wip/whole/gen_names.py: decode rows -/
theorem dL_cut_0 : decode method_3_code 0 = .ok (.aload_n 2, 1) := by decide +kernel
theorem dL_cut_1 : decode method_3_code 1 = .ok (.iconst 0, 1) := by decide +kernel
theorem dL_cut_2 : decode method_3_code 2 = .ok (.aload_n 0, 1) := by decide +kernel
theorem dL_cut_3 : decode method_3_code 3 = .ok (.iload_n 1, 1) := by decide +kernel
theorem dL_cut_4 : decode method_3_code 4 = .ok (.invokevirtual 7, 3) := by decide +kernel
theorem dL_cut_7 : decode method_3_code 7 = .ok (.i2l, 1) := by decide +kernel
theorem dL_cut_8 : decode method_3_code 8 = .ok (.lastore, 1) := by decide +kernel
theorem dL_cut_9 : decode method_3_code 9 = .ok (.goto 12, 3) := by decide +kernel
theorem dL_cut_12 : decode method_3_code 12 = .ok (.astore_n 3, 1) := by decide +kernel
theorem dL_cut_13 : decode method_3_code 13 = .ok (.iconst 1, 1) := by decide +kernel
theorem dL_cut_14 : decode method_3_code 14 = .ok (.ireturn, 1) := by decide +kernel
theorem dL_cut_15 : decode method_3_code 15 = .ok (.astore_n 3, 1) := by decide +kernel
theorem dL_cut_16 : decode method_3_code 16 = .ok (.iconst 2, 1) := by decide +kernel
theorem dL_cut_17 : decode method_3_code 17 = .ok (.ireturn, 1) := by decide +kernel
theorem dL_cut_18 : decode method_3_code 18 = .ok (.astore_n 3, 1) := by decide +kernel
theorem dL_cut_19 : decode method_3_code 19 = .ok (.iconst 3, 1) := by decide +kernel
theorem dL_cut_20 : decode method_3_code 20 = .ok (.ireturn, 1) := by decide +kernel
theorem dL_cut_21 : decode method_3_code 21 = .ok (.iconst 0, 1) := by decide +kernel
theorem dL_cut_22 : decode method_3_code 22 = .ok (.ireturn, 1) := by decide +kernel
theorem dL_line_0 : decode method_4_code 0 = .ok (.aload_n 2, 1) := by decide +kernel
theorem dL_line_1 : decode method_4_code 1 = .ok (.iconst 0, 1) := by decide +kernel
theorem dL_line_2 : decode method_4_code 2 = .ok (.aload_n 0, 1) := by decide +kernel
theorem dL_line_3 : decode method_4_code 3 = .ok (.iload_n 1, 1) := by decide +kernel
theorem dL_line_4 : decode method_4_code 4 = .ok (.invokevirtual 19, 3) := by decide +kernel
theorem dL_line_7 : decode method_4_code 7 = .ok (.i2l, 1) := by decide +kernel
theorem dL_line_8 : decode method_4_code 8 = .ok (.lastore, 1) := by decide +kernel
theorem dL_line_9 : decode method_4_code 9 = .ok (.goto 12, 3) := by decide +kernel
theorem dL_line_12 : decode method_4_code 12 = .ok (.astore_n 3, 1) := by decide +kernel
theorem dL_line_13 : decode method_4_code 13 = .ok (.iconst 1, 1) := by decide +kernel
theorem dL_line_14 : decode method_4_code 14 = .ok (.ireturn, 1) := by decide +kernel
theorem dL_line_15 : decode method_4_code 15 = .ok (.astore_n 3, 1) := by decide +kernel
theorem dL_line_16 : decode method_4_code 16 = .ok (.iconst 2, 1) := by decide +kernel
theorem dL_line_17 : decode method_4_code 17 = .ok (.ireturn, 1) := by decide +kernel
theorem dL_line_18 : decode method_4_code 18 = .ok (.astore_n 3, 1) := by decide +kernel
theorem dL_line_19 : decode method_4_code 19 = .ok (.iconst 3, 1) := by decide +kernel
theorem dL_line_20 : decode method_4_code 20 = .ok (.ireturn, 1) := by decide +kernel
theorem dL_line_21 : decode method_4_code 21 = .ok (.iconst 0, 1) := by decide +kernel
theorem dL_line_22 : decode method_4_code 22 = .ok (.ireturn, 1) := by decide +kernel
theorem dL_spot_0 : decode method_5_code 0 = .ok (.aload 5, 2) := by decide +kernel
theorem dL_spot_2 : decode method_5_code 2 = .ok (.iconst 0, 1) := by decide +kernel
theorem dL_spot_3 : decode method_5_code 3 = .ok (.aload_n 0, 1) := by decide +kernel
theorem dL_spot_4 : decode method_5_code 4 = .ok (.iload_n 1, 1) := by decide +kernel
theorem dL_spot_5 : decode method_5_code 5 = .ok (.iload_n 2, 1) := by decide +kernel
theorem dL_spot_6 : decode method_5_code 6 = .ok (.iload_n 3, 1) := by decide +kernel
theorem dL_spot_7 : decode method_5_code 7 = .ok (.iload 4, 2) := by decide +kernel
theorem dL_spot_9 : decode method_5_code 9 = .ok (.invokevirtual 22, 3) := by decide +kernel
theorem dL_spot_12 : decode method_5_code 12 = .ok (.i2l, 1) := by decide +kernel
theorem dL_spot_13 : decode method_5_code 13 = .ok (.lastore, 1) := by decide +kernel
theorem dL_spot_14 : decode method_5_code 14 = .ok (.goto 15, 3) := by decide +kernel
theorem dL_spot_17 : decode method_5_code 17 = .ok (.astore 6, 2) := by decide +kernel
theorem dL_spot_19 : decode method_5_code 19 = .ok (.iconst 1, 1) := by decide +kernel
theorem dL_spot_20 : decode method_5_code 20 = .ok (.ireturn, 1) := by decide +kernel
theorem dL_spot_21 : decode method_5_code 21 = .ok (.astore 6, 2) := by decide +kernel
theorem dL_spot_23 : decode method_5_code 23 = .ok (.iconst 2, 1) := by decide +kernel
theorem dL_spot_24 : decode method_5_code 24 = .ok (.ireturn, 1) := by decide +kernel
theorem dL_spot_25 : decode method_5_code 25 = .ok (.astore 6, 2) := by decide +kernel
theorem dL_spot_27 : decode method_5_code 27 = .ok (.iconst 3, 1) := by decide +kernel
theorem dL_spot_28 : decode method_5_code 28 = .ok (.ireturn, 1) := by decide +kernel
theorem dL_spot_29 : decode method_5_code 29 = .ok (.iconst 0, 1) := by decide +kernel
theorem dL_spot_30 : decode method_5_code 30 = .ok (.ireturn, 1) := by decide +kernel
theorem dL_start_0 : decode method_6_code 0 = .ok (.aload_n 0, 1) := by decide +kernel
theorem dL_start_1 : decode method_6_code 1 = .ok (.invokevirtual 26, 3) := by decide +kernel
theorem dL_start_4 : decode method_6_code 4 = .ok (.goto 6, 3) := by decide +kernel
theorem dL_start_7 : decode method_6_code 7 = .ok (.astore_n 1, 1) := by decide +kernel
theorem dL_start_8 : decode method_6_code 8 = .ok (.iconst 1, 1) := by decide +kernel
theorem dL_start_9 : decode method_6_code 9 = .ok (.ireturn, 1) := by decide +kernel
theorem dL_start_10 : decode method_6_code 10 = .ok (.iconst 0, 1) := by decide +kernel
theorem dL_start_11 : decode method_6_code 11 = .ok (.ireturn, 1) := by decide +kernel
theorem dL_erase_0 : decode method_7_code 0 = .ok (.aload_n 3, 1) := by decide +kernel
theorem dL_erase_1 : decode method_7_code 1 = .ok (.iconst 0, 1) := by decide +kernel
theorem dL_erase_2 : decode method_7_code 2 = .ok (.aload_n 0, 1) := by decide +kernel
theorem dL_erase_3 : decode method_7_code 3 = .ok (.iload_n 1, 1) := by decide +kernel
theorem dL_erase_4 : decode method_7_code 4 = .ok (.iload_n 2, 1) := by decide +kernel
theorem dL_erase_5 : decode method_7_code 5 = .ok (.invokevirtual 29, 3) := by decide +kernel
theorem dL_erase_8 : decode method_7_code 8 = .ok (.i2l, 1) := by decide +kernel
theorem dL_erase_9 : decode method_7_code 9 = .ok (.lastore, 1) := by decide +kernel
theorem dL_erase_10 : decode method_7_code 10 = .ok (.goto 15, 3) := by decide +kernel
theorem dL_erase_13 : decode method_7_code 13 = .ok (.astore 4, 2) := by decide +kernel
theorem dL_erase_15 : decode method_7_code 15 = .ok (.iconst 1, 1) := by decide +kernel
theorem dL_erase_16 : decode method_7_code 16 = .ok (.ireturn, 1) := by decide +kernel
theorem dL_erase_17 : decode method_7_code 17 = .ok (.astore 4, 2) := by decide +kernel
theorem dL_erase_19 : decode method_7_code 19 = .ok (.iconst 2, 1) := by decide +kernel
theorem dL_erase_20 : decode method_7_code 20 = .ok (.ireturn, 1) := by decide +kernel
theorem dL_erase_21 : decode method_7_code 21 = .ok (.astore 4, 2) := by decide +kernel
theorem dL_erase_23 : decode method_7_code 23 = .ok (.iconst 3, 1) := by decide +kernel
theorem dL_erase_24 : decode method_7_code 24 = .ok (.ireturn, 1) := by decide +kernel
theorem dL_erase_25 : decode method_7_code 25 = .ok (.iconst 0, 1) := by decide +kernel
theorem dL_erase_26 : decode method_7_code 26 = .ok (.ireturn, 1) := by decide +kernel
theorem dL_copy_0 : decode method_8_code 0 = .ok (.aload 4, 2) := by decide +kernel
theorem dL_copy_2 : decode method_8_code 2 = .ok (.iconst 0, 1) := by decide +kernel
theorem dL_copy_3 : decode method_8_code 3 = .ok (.aload_n 0, 1) := by decide +kernel
theorem dL_copy_4 : decode method_8_code 4 = .ok (.iload_n 1, 1) := by decide +kernel
theorem dL_copy_5 : decode method_8_code 5 = .ok (.iload_n 2, 1) := by decide +kernel
theorem dL_copy_6 : decode method_8_code 6 = .ok (.iload_n 3, 1) := by decide +kernel
theorem dL_copy_7 : decode method_8_code 7 = .ok (.invokevirtual 33, 3) := by decide +kernel
theorem dL_copy_10 : decode method_8_code 10 = .ok (.i2l, 1) := by decide +kernel
theorem dL_copy_11 : decode method_8_code 11 = .ok (.lastore, 1) := by decide +kernel
theorem dL_copy_12 : decode method_8_code 12 = .ok (.goto 15, 3) := by decide +kernel
theorem dL_copy_15 : decode method_8_code 15 = .ok (.astore 5, 2) := by decide +kernel
theorem dL_copy_17 : decode method_8_code 17 = .ok (.iconst 1, 1) := by decide +kernel
theorem dL_copy_18 : decode method_8_code 18 = .ok (.ireturn, 1) := by decide +kernel
theorem dL_copy_19 : decode method_8_code 19 = .ok (.astore 5, 2) := by decide +kernel
theorem dL_copy_21 : decode method_8_code 21 = .ok (.iconst 2, 1) := by decide +kernel
theorem dL_copy_22 : decode method_8_code 22 = .ok (.ireturn, 1) := by decide +kernel
theorem dL_copy_23 : decode method_8_code 23 = .ok (.astore 5, 2) := by decide +kernel
theorem dL_copy_25 : decode method_8_code 25 = .ok (.iconst 3, 1) := by decide +kernel
theorem dL_copy_26 : decode method_8_code 26 = .ok (.ireturn, 1) := by decide +kernel
theorem dL_copy_27 : decode method_8_code 27 = .ok (.iconst 0, 1) := by decide +kernel
theorem dL_copy_28 : decode method_8_code 28 = .ok (.ireturn, 1) := by decide +kernel
theorem dL_uncopy_0 : decode method_9_code 0 = .ok (.aload_n 3, 1) := by decide +kernel
theorem dL_uncopy_1 : decode method_9_code 1 = .ok (.iconst 0, 1) := by decide +kernel
theorem dL_uncopy_2 : decode method_9_code 2 = .ok (.aload_n 0, 1) := by decide +kernel
theorem dL_uncopy_3 : decode method_9_code 3 = .ok (.iload_n 1, 1) := by decide +kernel
theorem dL_uncopy_4 : decode method_9_code 4 = .ok (.iload_n 2, 1) := by decide +kernel
theorem dL_uncopy_5 : decode method_9_code 5 = .ok (.invokevirtual 37, 3) := by decide +kernel
theorem dL_uncopy_8 : decode method_9_code 8 = .ok (.i2l, 1) := by decide +kernel
theorem dL_uncopy_9 : decode method_9_code 9 = .ok (.lastore, 1) := by decide +kernel
theorem dL_uncopy_10 : decode method_9_code 10 = .ok (.goto 15, 3) := by decide +kernel
theorem dL_uncopy_13 : decode method_9_code 13 = .ok (.astore 4, 2) := by decide +kernel
theorem dL_uncopy_15 : decode method_9_code 15 = .ok (.iconst 1, 1) := by decide +kernel
theorem dL_uncopy_16 : decode method_9_code 16 = .ok (.ireturn, 1) := by decide +kernel
theorem dL_uncopy_17 : decode method_9_code 17 = .ok (.astore 4, 2) := by decide +kernel
theorem dL_uncopy_19 : decode method_9_code 19 = .ok (.iconst 2, 1) := by decide +kernel
theorem dL_uncopy_20 : decode method_9_code 20 = .ok (.ireturn, 1) := by decide +kernel
theorem dL_uncopy_21 : decode method_9_code 21 = .ok (.astore 4, 2) := by decide +kernel
theorem dL_uncopy_23 : decode method_9_code 23 = .ok (.iconst 3, 1) := by decide +kernel
theorem dL_uncopy_24 : decode method_9_code 24 = .ok (.ireturn, 1) := by decide +kernel
theorem dL_uncopy_25 : decode method_9_code 25 = .ok (.iconst 0, 1) := by decide +kernel
theorem dL_uncopy_26 : decode method_9_code 26 = .ok (.ireturn, 1) := by decide +kernel
theorem dL_wrap_0 : decode method_10_code 0 = .ok (.aload_n 3, 1) := by decide +kernel
theorem dL_wrap_1 : decode method_10_code 1 = .ok (.iconst 0, 1) := by decide +kernel
theorem dL_wrap_2 : decode method_10_code 2 = .ok (.aload_n 0, 1) := by decide +kernel
theorem dL_wrap_3 : decode method_10_code 3 = .ok (.iload_n 1, 1) := by decide +kernel
theorem dL_wrap_4 : decode method_10_code 4 = .ok (.iload_n 2, 1) := by decide +kernel
theorem dL_wrap_5 : decode method_10_code 5 = .ok (.invokevirtual 40, 3) := by decide +kernel
theorem dL_wrap_8 : decode method_10_code 8 = .ok (.i2l, 1) := by decide +kernel
theorem dL_wrap_9 : decode method_10_code 9 = .ok (.lastore, 1) := by decide +kernel
theorem dL_wrap_10 : decode method_10_code 10 = .ok (.goto 15, 3) := by decide +kernel
theorem dL_wrap_13 : decode method_10_code 13 = .ok (.astore 4, 2) := by decide +kernel
theorem dL_wrap_15 : decode method_10_code 15 = .ok (.iconst 1, 1) := by decide +kernel
theorem dL_wrap_16 : decode method_10_code 16 = .ok (.ireturn, 1) := by decide +kernel
theorem dL_wrap_17 : decode method_10_code 17 = .ok (.astore 4, 2) := by decide +kernel
theorem dL_wrap_19 : decode method_10_code 19 = .ok (.iconst 2, 1) := by decide +kernel
theorem dL_wrap_20 : decode method_10_code 20 = .ok (.ireturn, 1) := by decide +kernel
theorem dL_wrap_21 : decode method_10_code 21 = .ok (.astore 4, 2) := by decide +kernel
theorem dL_wrap_23 : decode method_10_code 23 = .ok (.iconst 3, 1) := by decide +kernel
theorem dL_wrap_24 : decode method_10_code 24 = .ok (.ireturn, 1) := by decide +kernel
theorem dL_wrap_25 : decode method_10_code 25 = .ok (.iconst 0, 1) := by decide +kernel
theorem dL_wrap_26 : decode method_10_code 26 = .ok (.ireturn, 1) := by decide +kernel
theorem dL_unwrap_0 : decode method_11_code 0 = .ok (.aload_n 2, 1) := by decide +kernel
theorem dL_unwrap_1 : decode method_11_code 1 = .ok (.iconst 0, 1) := by decide +kernel
theorem dL_unwrap_2 : decode method_11_code 2 = .ok (.aload_n 0, 1) := by decide +kernel
theorem dL_unwrap_3 : decode method_11_code 3 = .ok (.iload_n 1, 1) := by decide +kernel
theorem dL_unwrap_4 : decode method_11_code 4 = .ok (.invokevirtual 43, 3) := by decide +kernel
theorem dL_unwrap_7 : decode method_11_code 7 = .ok (.i2l, 1) := by decide +kernel
theorem dL_unwrap_8 : decode method_11_code 8 = .ok (.lastore, 1) := by decide +kernel
theorem dL_unwrap_9 : decode method_11_code 9 = .ok (.goto 12, 3) := by decide +kernel
theorem dL_unwrap_12 : decode method_11_code 12 = .ok (.astore_n 3, 1) := by decide +kernel
theorem dL_unwrap_13 : decode method_11_code 13 = .ok (.iconst 1, 1) := by decide +kernel
theorem dL_unwrap_14 : decode method_11_code 14 = .ok (.ireturn, 1) := by decide +kernel
theorem dL_unwrap_15 : decode method_11_code 15 = .ok (.astore_n 3, 1) := by decide +kernel
theorem dL_unwrap_16 : decode method_11_code 16 = .ok (.iconst 2, 1) := by decide +kernel
theorem dL_unwrap_17 : decode method_11_code 17 = .ok (.ireturn, 1) := by decide +kernel
theorem dL_unwrap_18 : decode method_11_code 18 = .ok (.astore_n 3, 1) := by decide +kernel
theorem dL_unwrap_19 : decode method_11_code 19 = .ok (.iconst 3, 1) := by decide +kernel
theorem dL_unwrap_20 : decode method_11_code 20 = .ok (.ireturn, 1) := by decide +kernel
theorem dL_unwrap_21 : decode method_11_code 21 = .ok (.iconst 0, 1) := by decide +kernel
theorem dL_unwrap_22 : decode method_11_code 22 = .ok (.ireturn, 1) := by decide +kernel
theorem dL_join_0 : decode method_12_code 0 = .ok (.aload_n 3, 1) := by decide +kernel
theorem dL_join_1 : decode method_12_code 1 = .ok (.iconst 0, 1) := by decide +kernel
theorem dL_join_2 : decode method_12_code 2 = .ok (.aload_n 0, 1) := by decide +kernel
theorem dL_join_3 : decode method_12_code 3 = .ok (.iload_n 1, 1) := by decide +kernel
theorem dL_join_4 : decode method_12_code 4 = .ok (.iload_n 2, 1) := by decide +kernel
theorem dL_join_5 : decode method_12_code 5 = .ok (.invokevirtual 46, 3) := by decide +kernel
theorem dL_join_8 : decode method_12_code 8 = .ok (.i2l, 1) := by decide +kernel
theorem dL_join_9 : decode method_12_code 9 = .ok (.lastore, 1) := by decide +kernel
theorem dL_join_10 : decode method_12_code 10 = .ok (.goto 15, 3) := by decide +kernel
theorem dL_join_13 : decode method_12_code 13 = .ok (.astore 4, 2) := by decide +kernel
theorem dL_join_15 : decode method_12_code 15 = .ok (.iconst 1, 1) := by decide +kernel
theorem dL_join_16 : decode method_12_code 16 = .ok (.ireturn, 1) := by decide +kernel
theorem dL_join_17 : decode method_12_code 17 = .ok (.astore 4, 2) := by decide +kernel
theorem dL_join_19 : decode method_12_code 19 = .ok (.iconst 2, 1) := by decide +kernel
theorem dL_join_20 : decode method_12_code 20 = .ok (.ireturn, 1) := by decide +kernel
theorem dL_join_21 : decode method_12_code 21 = .ok (.astore 4, 2) := by decide +kernel
theorem dL_join_23 : decode method_12_code 23 = .ok (.iconst 3, 1) := by decide +kernel
theorem dL_join_24 : decode method_12_code 24 = .ok (.ireturn, 1) := by decide +kernel
theorem dL_join_25 : decode method_12_code 25 = .ok (.iconst 0, 1) := by decide +kernel
theorem dL_join_26 : decode method_12_code 26 = .ok (.ireturn, 1) := by decide +kernel
theorem dL_sever_0 : decode method_13_code 0 = .ok (.aload_n 3, 1) := by decide +kernel
theorem dL_sever_1 : decode method_13_code 1 = .ok (.iconst 0, 1) := by decide +kernel
theorem dL_sever_2 : decode method_13_code 2 = .ok (.aload_n 0, 1) := by decide +kernel
theorem dL_sever_3 : decode method_13_code 3 = .ok (.iload_n 1, 1) := by decide +kernel
theorem dL_sever_4 : decode method_13_code 4 = .ok (.iload_n 2, 1) := by decide +kernel
theorem dL_sever_5 : decode method_13_code 5 = .ok (.invokevirtual 49, 3) := by decide +kernel
theorem dL_sever_8 : decode method_13_code 8 = .ok (.i2l, 1) := by decide +kernel
theorem dL_sever_9 : decode method_13_code 9 = .ok (.lastore, 1) := by decide +kernel
theorem dL_sever_10 : decode method_13_code 10 = .ok (.goto 15, 3) := by decide +kernel
theorem dL_sever_13 : decode method_13_code 13 = .ok (.astore 4, 2) := by decide +kernel
theorem dL_sever_15 : decode method_13_code 15 = .ok (.iconst 1, 1) := by decide +kernel
theorem dL_sever_16 : decode method_13_code 16 = .ok (.ireturn, 1) := by decide +kernel
theorem dL_sever_17 : decode method_13_code 17 = .ok (.astore 4, 2) := by decide +kernel
theorem dL_sever_19 : decode method_13_code 19 = .ok (.iconst 2, 1) := by decide +kernel
theorem dL_sever_20 : decode method_13_code 20 = .ok (.ireturn, 1) := by decide +kernel
theorem dL_sever_21 : decode method_13_code 21 = .ok (.astore 4, 2) := by decide +kernel
theorem dL_sever_23 : decode method_13_code 23 = .ok (.iconst 3, 1) := by decide +kernel
theorem dL_sever_24 : decode method_13_code 24 = .ok (.ireturn, 1) := by decide +kernel
theorem dL_sever_25 : decode method_13_code 25 = .ok (.iconst 0, 1) := by decide +kernel
theorem dL_sever_26 : decode method_13_code 26 = .ok (.ireturn, 1) := by decide +kernel
theorem dL_back_0 : decode method_14_code 0 = .ok (.aload_n 1, 1) := by decide +kernel
theorem dL_back_1 : decode method_14_code 1 = .ok (.iconst 0, 1) := by decide +kernel
theorem dL_back_2 : decode method_14_code 2 = .ok (.aload_n 0, 1) := by decide +kernel
theorem dL_back_3 : decode method_14_code 3 = .ok (.invokevirtual 52, 3) := by decide +kernel
theorem dL_back_6 : decode method_14_code 6 = .ok (.i2l, 1) := by decide +kernel
theorem dL_back_7 : decode method_14_code 7 = .ok (.lastore, 1) := by decide +kernel
theorem dL_back_8 : decode method_14_code 8 = .ok (.goto 6, 3) := by decide +kernel
theorem dL_back_11 : decode method_14_code 11 = .ok (.astore_n 2, 1) := by decide +kernel
theorem dL_back_12 : decode method_14_code 12 = .ok (.iconst 1, 1) := by decide +kernel
theorem dL_back_13 : decode method_14_code 13 = .ok (.ireturn, 1) := by decide +kernel
theorem dL_back_14 : decode method_14_code 14 = .ok (.iconst 0, 1) := by decide +kernel
theorem dL_back_15 : decode method_14_code 15 = .ok (.ireturn, 1) := by decide +kernel
theorem dL_depth_0 : decode method_15_code 0 = .ok (.aload_n 2, 1) := by decide +kernel
theorem dL_depth_1 : decode method_15_code 1 = .ok (.iconst 0, 1) := by decide +kernel
theorem dL_depth_2 : decode method_15_code 2 = .ok (.aload_n 0, 1) := by decide +kernel
theorem dL_depth_3 : decode method_15_code 3 = .ok (.iload_n 1, 1) := by decide +kernel
theorem dL_depth_4 : decode method_15_code 4 = .ok (.invokevirtual 56, 3) := by decide +kernel
theorem dL_depth_7 : decode method_15_code 7 = .ok (.i2l, 1) := by decide +kernel
theorem dL_depth_8 : decode method_15_code 8 = .ok (.lastore, 1) := by decide +kernel
theorem dL_depth_9 : decode method_15_code 9 = .ok (.goto 6, 3) := by decide +kernel
theorem dL_depth_12 : decode method_15_code 12 = .ok (.astore_n 3, 1) := by decide +kernel
theorem dL_depth_13 : decode method_15_code 13 = .ok (.iconst 1, 1) := by decide +kernel
theorem dL_depth_14 : decode method_15_code 14 = .ok (.ireturn, 1) := by decide +kernel
theorem dL_depth_15 : decode method_15_code 15 = .ok (.iconst 0, 1) := by decide +kernel
theorem dL_depth_16 : decode method_15_code 16 = .ok (.ireturn, 1) := by decide +kernel
theorem dL_read_0 : decode method_16_code 0 = .ok (.aload_n 2, 1) := by decide +kernel
theorem dL_read_1 : decode method_16_code 1 = .ok (.iconst 0, 1) := by decide +kernel
theorem dL_read_2 : decode method_16_code 2 = .ok (.aload_n 0, 1) := by decide +kernel
theorem dL_read_3 : decode method_16_code 3 = .ok (.iload_n 1, 1) := by decide +kernel
theorem dL_read_4 : decode method_16_code 4 = .ok (.invokevirtual 59, 3) := by decide +kernel
theorem dL_read_7 : decode method_16_code 7 = .ok (.i2l, 1) := by decide +kernel
theorem dL_read_8 : decode method_16_code 8 = .ok (.lastore, 1) := by decide +kernel
theorem dL_read_9 : decode method_16_code 9 = .ok (.goto 6, 3) := by decide +kernel
theorem dL_read_12 : decode method_16_code 12 = .ok (.astore_n 3, 1) := by decide +kernel
theorem dL_read_13 : decode method_16_code 13 = .ok (.iconst 1, 1) := by decide +kernel
theorem dL_read_14 : decode method_16_code 14 = .ok (.ireturn, 1) := by decide +kernel
theorem dL_read_15 : decode method_16_code 15 = .ok (.iconst 0, 1) := by decide +kernel
theorem dL_read_16 : decode method_16_code 16 = .ok (.ireturn, 1) := by decide +kernel
theorem dL_token_0 : decode method_17_code 0 = .ok (.aload_n 2, 1) := by decide +kernel
theorem dL_token_1 : decode method_17_code 1 = .ok (.iconst 0, 1) := by decide +kernel
theorem dL_token_2 : decode method_17_code 2 = .ok (.aload_n 0, 1) := by decide +kernel
theorem dL_token_3 : decode method_17_code 3 = .ok (.iload_n 1, 1) := by decide +kernel
theorem dL_token_4 : decode method_17_code 4 = .ok (.invokevirtual 62, 3) := by decide +kernel
theorem dL_token_7 : decode method_17_code 7 = .ok (.i2l, 1) := by decide +kernel
theorem dL_token_8 : decode method_17_code 8 = .ok (.lastore, 1) := by decide +kernel
theorem dL_token_9 : decode method_17_code 9 = .ok (.goto 6, 3) := by decide +kernel
theorem dL_token_12 : decode method_17_code 12 = .ok (.astore_n 3, 1) := by decide +kernel
theorem dL_token_13 : decode method_17_code 13 = .ok (.iconst 1, 1) := by decide +kernel
theorem dL_token_14 : decode method_17_code 14 = .ok (.ireturn, 1) := by decide +kernel
theorem dL_token_15 : decode method_17_code 15 = .ok (.iconst 0, 1) := by decide +kernel
theorem dL_token_16 : decode method_17_code 16 = .ok (.ireturn, 1) := by decide +kernel
theorem dL_holds_0 : decode method_18_code 0 = .ok (.aload 4, 2) := by decide +kernel
theorem dL_holds_2 : decode method_18_code 2 = .ok (.iconst 0, 1) := by decide +kernel
theorem dL_holds_3 : decode method_18_code 3 = .ok (.aload_n 0, 1) := by decide +kernel
theorem dL_holds_4 : decode method_18_code 4 = .ok (.iload_n 1, 1) := by decide +kernel
theorem dL_holds_5 : decode method_18_code 5 = .ok (.iload_n 2, 1) := by decide +kernel
theorem dL_holds_6 : decode method_18_code 6 = .ok (.iload_n 3, 1) := by decide +kernel
theorem dL_holds_7 : decode method_18_code 7 = .ok (.invokevirtual 67, 3) := by decide +kernel
theorem dL_holds_10 : decode method_18_code 10 = .ok (.ifCond .eq 7, 3) := by decide +kernel
theorem dL_holds_13 : decode method_18_code 13 = .ok (.lconst 1, 1) := by decide +kernel
theorem dL_holds_14 : decode method_18_code 14 = .ok (.goto 4, 3) := by decide +kernel
theorem dL_holds_17 : decode method_18_code 17 = .ok (.lconst 0, 1) := by decide +kernel
theorem dL_holds_18 : decode method_18_code 18 = .ok (.lastore, 1) := by decide +kernel
theorem dL_holds_19 : decode method_18_code 19 = .ok (.goto 11, 3) := by decide +kernel
theorem dL_holds_22 : decode method_18_code 22 = .ok (.astore 5, 2) := by decide +kernel
theorem dL_holds_24 : decode method_18_code 24 = .ok (.iconst 1, 1) := by decide +kernel
theorem dL_holds_25 : decode method_18_code 25 = .ok (.ireturn, 1) := by decide +kernel
theorem dL_holds_26 : decode method_18_code 26 = .ok (.astore 5, 2) := by decide +kernel
theorem dL_holds_28 : decode method_18_code 28 = .ok (.iconst 2, 1) := by decide +kernel
theorem dL_holds_29 : decode method_18_code 29 = .ok (.ireturn, 1) := by decide +kernel
theorem dL_holds_30 : decode method_18_code 30 = .ok (.iconst 0, 1) := by decide +kernel
theorem dL_holds_31 : decode method_18_code 31 = .ok (.ireturn, 1) := by decide +kernel
theorem dL_refutes_0 : decode method_19_code 0 = .ok (.aload_n 2, 1) := by decide +kernel
theorem dL_refutes_1 : decode method_19_code 1 = .ok (.iconst 0, 1) := by decide +kernel
theorem dL_refutes_2 : decode method_19_code 2 = .ok (.aload_n 0, 1) := by decide +kernel
theorem dL_refutes_3 : decode method_19_code 3 = .ok (.iload_n 1, 1) := by decide +kernel
theorem dL_refutes_4 : decode method_19_code 4 = .ok (.invokevirtual 71, 3) := by decide +kernel
theorem dL_refutes_7 : decode method_19_code 7 = .ok (.i2l, 1) := by decide +kernel
theorem dL_refutes_8 : decode method_19_code 8 = .ok (.lastore, 1) := by decide +kernel
theorem dL_refutes_9 : decode method_19_code 9 = .ok (.goto 9, 3) := by decide +kernel
theorem dL_refutes_12 : decode method_19_code 12 = .ok (.astore_n 3, 1) := by decide +kernel
theorem dL_refutes_13 : decode method_19_code 13 = .ok (.iconst 1, 1) := by decide +kernel
theorem dL_refutes_14 : decode method_19_code 14 = .ok (.ireturn, 1) := by decide +kernel
theorem dL_refutes_15 : decode method_19_code 15 = .ok (.astore_n 3, 1) := by decide +kernel
theorem dL_refutes_16 : decode method_19_code 16 = .ok (.iconst 2, 1) := by decide +kernel
theorem dL_refutes_17 : decode method_19_code 17 = .ok (.ireturn, 1) := by decide +kernel
theorem dL_refutes_18 : decode method_19_code 18 = .ok (.iconst 0, 1) := by decide +kernel
theorem dL_refutes_19 : decode method_19_code 19 = .ok (.ireturn, 1) := by decide +kernel
theorem dL_count_0 : decode method_20_code 0 = .ok (.aload_n 2, 1) := by decide +kernel
theorem dL_count_1 : decode method_20_code 1 = .ok (.iconst 0, 1) := by decide +kernel
theorem dL_count_2 : decode method_20_code 2 = .ok (.aload_n 0, 1) := by decide +kernel
theorem dL_count_3 : decode method_20_code 3 = .ok (.iload_n 1, 1) := by decide +kernel
theorem dL_count_4 : decode method_20_code 4 = .ok (.invokevirtual 74, 3) := by decide +kernel
theorem dL_count_7 : decode method_20_code 7 = .ok (.i2l, 1) := by decide +kernel
theorem dL_count_8 : decode method_20_code 8 = .ok (.lastore, 1) := by decide +kernel
theorem dL_count_9 : decode method_20_code 9 = .ok (.goto 6, 3) := by decide +kernel
theorem dL_count_12 : decode method_20_code 12 = .ok (.astore_n 3, 1) := by decide +kernel
theorem dL_count_13 : decode method_20_code 13 = .ok (.iconst 1, 1) := by decide +kernel
theorem dL_count_14 : decode method_20_code 14 = .ok (.ireturn, 1) := by decide +kernel
theorem dL_count_15 : decode method_20_code 15 = .ok (.iconst 0, 1) := by decide +kernel
theorem dL_count_16 : decode method_20_code 16 = .ok (.ireturn, 1) := by decide +kernel
theorem dL_law_0 : decode code 0 = .ok (.new 8, 3) := by decide +kernel
theorem dL_law_3 : decode code 3 = .ok (.dup, 1) := by decide +kernel
theorem dL_law_4 : decode code 4 = .ok (.invokespecial 77, 3) := by decide +kernel
theorem dL_law_7 : decode code 7 = .ok (.astore_n 1, 1) := by decide +kernel
theorem dL_law_8 : decode code 8 = .ok (.new 78, 3) := by decide +kernel
theorem dL_law_11 : decode code 11 = .ok (.dup, 1) := by decide +kernel
theorem dL_law_12 : decode code 12 = .ok (.invokespecial 80, 3) := by decide +kernel
theorem dL_law_15 : decode code 15 = .ok (.astore_n 2, 1) := by decide +kernel
theorem dL_law_16 : decode code 16 = .ok (.iconst 1, 1) := by decide +kernel
theorem dL_law_17 : decode code 17 = .ok (.newarray .long, 2) := by decide +kernel
theorem dL_law_19 : decode code 19 = .ok (.astore_n 3, 1) := by decide +kernel
theorem dL_law_20 : decode code 20 = .ok (.iconst 0, 1) := by decide +kernel
theorem dL_law_21 : decode code 21 = .ok (.istore 4, 2) := by decide +kernel
theorem dL_law_23 : decode code 23 = .ok (.iload 4, 2) := by decide +kernel
theorem dL_law_25 : decode code 25 = .ok (.aload_n 0, 1) := by decide +kernel
theorem dL_law_26 : decode code 26 = .ok (.arraylength, 1) := by decide +kernel
theorem dL_law_27 : decode code 27 = .ok (.iconst 5, 1) := by decide +kernel
theorem dL_law_28 : decode code 28 = .ok (.isub, 1) := by decide +kernel
theorem dL_law_29 : decode code 29 = .ok (.if_icmp .gt 1232, 3) := by decide +kernel
theorem dL_law_32 : decode code 32 = .ok (.aload_n 0, 1) := by decide +kernel
theorem dL_law_33 : decode code 33 = .ok (.iload 4, 2) := by decide +kernel
theorem dL_law_35 : decode code 35 = .ok (.iaload, 1) := by decide +kernel
theorem dL_law_36 : decode code 36 = .ok (.bipush 31, 2) := by decide +kernel
theorem dL_law_38 : decode code 38 = .ok (.iand, 1) := by decide +kernel
theorem dL_law_39 : decode code 39 = .ok (.tableswitch 1216 0 17 #[85, 141, 197, 289, 313, 381, 461, 529, 597, 653, 721, 789, 833, 889, 945, 1001, 1104, 1160], 85) := by decide +kernel
theorem dL_law_124 : decode code 124 = .ok (.aload_n 1, 1) := by decide +kernel
theorem dL_law_125 : decode code 125 = .ok (.aload_n 0, 1) := by decide +kernel
theorem dL_law_126 : decode code 126 = .ok (.iload 4, 2) := by decide +kernel
theorem dL_law_128 : decode code 128 = .ok (.iconst 1, 1) := by decide +kernel
theorem dL_law_129 : decode code 129 = .ok (.iadd, 1) := by decide +kernel
theorem dL_law_130 : decode code 130 = .ok (.iaload, 1) := by decide +kernel
theorem dL_law_131 : decode code 131 = .ok (.aload_n 3, 1) := by decide +kernel
theorem dL_law_132 : decode code 132 = .ok (.invokestatic 81, 3) := by decide +kernel
theorem dL_law_135 : decode code 135 = .ok (.istore 5, 2) := by decide +kernel
theorem dL_law_137 : decode code 137 = .ok (.aload_n 2, 1) := by decide +kernel
theorem dL_law_138 : decode code 138 = .ok (.aload_n 0, 1) := by decide +kernel
theorem dL_law_139 : decode code 139 = .ok (.iload 4, 2) := by decide +kernel
theorem dL_law_141 : decode code 141 = .ok (.iconst 1, 1) := by decide +kernel
theorem dL_law_142 : decode code 142 = .ok (.iadd, 1) := by decide +kernel
theorem dL_law_143 : decode code 143 = .ok (.iaload, 1) := by decide +kernel
theorem dL_law_144 : decode code 144 = .ok (.invokevirtual 86, 3) := by decide +kernel
theorem dL_law_147 : decode code 147 = .ok (.istore 6, 2) := by decide +kernel
theorem dL_law_149 : decode code 149 = .ok (.aload_n 2, 1) := by decide +kernel
theorem dL_law_150 : decode code 150 = .ok (.invokevirtual 87, 3) := by decide +kernel
theorem dL_law_153 : decode code 153 = .ok (.iload 5, 2) := by decide +kernel
theorem dL_law_155 : decode code 155 = .ok (.if_icmp .eq 5, 3) := by decide +kernel
theorem dL_law_158 : decode code 158 = .ok (.iconst 0, 1) := by decide +kernel
theorem dL_law_159 : decode code 159 = .ok (.ireturn, 1) := by decide +kernel
theorem dL_law_160 : decode code 160 = .ok (.iload 5, 2) := by decide +kernel
theorem dL_law_162 : decode code 162 = .ok (.ifCond .ne 15, 3) := by decide +kernel
theorem dL_law_165 : decode code 165 = .ok (.aload_n 3, 1) := by decide +kernel
theorem dL_law_166 : decode code 166 = .ok (.iconst 0, 1) := by decide +kernel
theorem dL_law_167 : decode code 167 = .ok (.laload, 1) := by decide +kernel
theorem dL_law_168 : decode code 168 = .ok (.iload 6, 2) := by decide +kernel
theorem dL_law_170 : decode code 170 = .ok (.i2l, 1) := by decide +kernel
theorem dL_law_171 : decode code 171 = .ok (.lcmp, 1) := by decide +kernel
theorem dL_law_172 : decode code 172 = .ok (.ifCond .eq 5, 3) := by decide +kernel
theorem dL_law_175 : decode code 175 = .ok (.iconst 0, 1) := by decide +kernel
theorem dL_law_176 : decode code 176 = .ok (.ireturn, 1) := by decide +kernel
theorem dL_law_177 : decode code 177 = .ok (.goto 1078, 3) := by decide +kernel
theorem dL_law_180 : decode code 180 = .ok (.aload_n 1, 1) := by decide +kernel
theorem dL_law_181 : decode code 181 = .ok (.aload_n 0, 1) := by decide +kernel
theorem dL_law_182 : decode code 182 = .ok (.iload 4, 2) := by decide +kernel
theorem dL_law_184 : decode code 184 = .ok (.iconst 1, 1) := by decide +kernel
theorem dL_law_185 : decode code 185 = .ok (.iadd, 1) := by decide +kernel
theorem dL_law_186 : decode code 186 = .ok (.iaload, 1) := by decide +kernel
theorem dL_law_187 : decode code 187 = .ok (.aload_n 3, 1) := by decide +kernel
theorem dL_law_188 : decode code 188 = .ok (.invokestatic 90, 3) := by decide +kernel
theorem dL_law_191 : decode code 191 = .ok (.istore 5, 2) := by decide +kernel
theorem dL_law_193 : decode code 193 = .ok (.aload_n 2, 1) := by decide +kernel
theorem dL_law_194 : decode code 194 = .ok (.aload_n 0, 1) := by decide +kernel
theorem dL_law_195 : decode code 195 = .ok (.iload 4, 2) := by decide +kernel
theorem dL_law_197 : decode code 197 = .ok (.iconst 1, 1) := by decide +kernel
theorem dL_law_198 : decode code 198 = .ok (.iadd, 1) := by decide +kernel
theorem dL_law_199 : decode code 199 = .ok (.iaload, 1) := by decide +kernel
theorem dL_law_200 : decode code 200 = .ok (.invokevirtual 92, 3) := by decide +kernel
theorem dL_law_203 : decode code 203 = .ok (.istore 6, 2) := by decide +kernel
theorem dL_law_205 : decode code 205 = .ok (.aload_n 2, 1) := by decide +kernel
theorem dL_law_206 : decode code 206 = .ok (.invokevirtual 87, 3) := by decide +kernel
theorem dL_law_209 : decode code 209 = .ok (.iload 5, 2) := by decide +kernel
theorem dL_law_211 : decode code 211 = .ok (.if_icmp .eq 5, 3) := by decide +kernel
theorem dL_law_214 : decode code 214 = .ok (.iconst 0, 1) := by decide +kernel
theorem dL_law_215 : decode code 215 = .ok (.ireturn, 1) := by decide +kernel
theorem dL_law_216 : decode code 216 = .ok (.iload 5, 2) := by decide +kernel
theorem dL_law_218 : decode code 218 = .ok (.ifCond .ne 15, 3) := by decide +kernel
theorem dL_law_221 : decode code 221 = .ok (.aload_n 3, 1) := by decide +kernel
theorem dL_law_222 : decode code 222 = .ok (.iconst 0, 1) := by decide +kernel
theorem dL_law_223 : decode code 223 = .ok (.laload, 1) := by decide +kernel
theorem dL_law_224 : decode code 224 = .ok (.iload 6, 2) := by decide +kernel
theorem dL_law_226 : decode code 226 = .ok (.i2l, 1) := by decide +kernel
theorem dL_law_227 : decode code 227 = .ok (.lcmp, 1) := by decide +kernel
theorem dL_law_228 : decode code 228 = .ok (.ifCond .eq 5, 3) := by decide +kernel
theorem dL_law_231 : decode code 231 = .ok (.iconst 0, 1) := by decide +kernel
theorem dL_law_232 : decode code 232 = .ok (.ireturn, 1) := by decide +kernel
theorem dL_law_233 : decode code 233 = .ok (.goto 1022, 3) := by decide +kernel
theorem dL_law_236 : decode code 236 = .ok (.aload_n 1, 1) := by decide +kernel
theorem dL_law_237 : decode code 237 = .ok (.aload_n 0, 1) := by decide +kernel
theorem dL_law_238 : decode code 238 = .ok (.iload 4, 2) := by decide +kernel
theorem dL_law_240 : decode code 240 = .ok (.iconst 1, 1) := by decide +kernel
theorem dL_law_241 : decode code 241 = .ok (.iadd, 1) := by decide +kernel
theorem dL_law_242 : decode code 242 = .ok (.iaload, 1) := by decide +kernel
theorem dL_law_243 : decode code 243 = .ok (.aload_n 0, 1) := by decide +kernel
theorem dL_law_244 : decode code 244 = .ok (.iload 4, 2) := by decide +kernel
theorem dL_law_246 : decode code 246 = .ok (.iconst 2, 1) := by decide +kernel
theorem dL_law_247 : decode code 247 = .ok (.iadd, 1) := by decide +kernel
theorem dL_law_248 : decode code 248 = .ok (.iaload, 1) := by decide +kernel
theorem dL_law_249 : decode code 249 = .ok (.aload_n 0, 1) := by decide +kernel
theorem dL_law_250 : decode code 250 = .ok (.iload 4, 2) := by decide +kernel
theorem dL_law_252 : decode code 252 = .ok (.iconst 3, 1) := by decide +kernel
theorem dL_law_253 : decode code 253 = .ok (.iadd, 1) := by decide +kernel
theorem dL_law_254 : decode code 254 = .ok (.iaload, 1) := by decide +kernel
theorem dL_law_255 : decode code 255 = .ok (.aload_n 0, 1) := by decide +kernel
theorem dL_law_256 : decode code 256 = .ok (.iload 4, 2) := by decide +kernel
theorem dL_law_258 : decode code 258 = .ok (.iconst 4, 1) := by decide +kernel
theorem dL_law_259 : decode code 259 = .ok (.iadd, 1) := by decide +kernel
theorem dL_law_260 : decode code 260 = .ok (.iaload, 1) := by decide +kernel
theorem dL_law_261 : decode code 261 = .ok (.aload_n 3, 1) := by decide +kernel
theorem dL_law_262 : decode code 262 = .ok (.invokestatic 93, 3) := by decide +kernel
theorem dL_law_265 : decode code 265 = .ok (.istore 5, 2) := by decide +kernel
theorem dL_law_267 : decode code 267 = .ok (.aload_n 2, 1) := by decide +kernel
theorem dL_law_268 : decode code 268 = .ok (.aload_n 0, 1) := by decide +kernel
theorem dL_law_269 : decode code 269 = .ok (.iload 4, 2) := by decide +kernel
theorem dL_law_271 : decode code 271 = .ok (.iconst 1, 1) := by decide +kernel
theorem dL_law_272 : decode code 272 = .ok (.iadd, 1) := by decide +kernel
theorem dL_law_273 : decode code 273 = .ok (.iaload, 1) := by decide +kernel
theorem dL_law_274 : decode code 274 = .ok (.aload_n 0, 1) := by decide +kernel
theorem dL_law_275 : decode code 275 = .ok (.iload 4, 2) := by decide +kernel
theorem dL_law_277 : decode code 277 = .ok (.iconst 2, 1) := by decide +kernel
theorem dL_law_278 : decode code 278 = .ok (.iadd, 1) := by decide +kernel
theorem dL_law_279 : decode code 279 = .ok (.iaload, 1) := by decide +kernel
theorem dL_law_280 : decode code 280 = .ok (.aload_n 0, 1) := by decide +kernel
theorem dL_law_281 : decode code 281 = .ok (.iload 4, 2) := by decide +kernel
theorem dL_law_283 : decode code 283 = .ok (.iconst 3, 1) := by decide +kernel
theorem dL_law_284 : decode code 284 = .ok (.iadd, 1) := by decide +kernel
theorem dL_law_285 : decode code 285 = .ok (.iaload, 1) := by decide +kernel
theorem dL_law_286 : decode code 286 = .ok (.aload_n 0, 1) := by decide +kernel
theorem dL_law_287 : decode code 287 = .ok (.iload 4, 2) := by decide +kernel
theorem dL_law_289 : decode code 289 = .ok (.iconst 4, 1) := by decide +kernel
theorem dL_law_290 : decode code 290 = .ok (.iadd, 1) := by decide +kernel
theorem dL_law_291 : decode code 291 = .ok (.iaload, 1) := by decide +kernel
theorem dL_law_292 : decode code 292 = .ok (.invokevirtual 96, 3) := by decide +kernel
theorem dL_law_295 : decode code 295 = .ok (.istore 6, 2) := by decide +kernel
theorem dL_law_297 : decode code 297 = .ok (.aload_n 2, 1) := by decide +kernel
theorem dL_law_298 : decode code 298 = .ok (.invokevirtual 87, 3) := by decide +kernel
theorem dL_law_301 : decode code 301 = .ok (.iload 5, 2) := by decide +kernel
theorem dL_law_303 : decode code 303 = .ok (.if_icmp .eq 5, 3) := by decide +kernel
theorem dL_law_306 : decode code 306 = .ok (.iconst 0, 1) := by decide +kernel
theorem dL_law_307 : decode code 307 = .ok (.ireturn, 1) := by decide +kernel
theorem dL_law_308 : decode code 308 = .ok (.iload 5, 2) := by decide +kernel
theorem dL_law_310 : decode code 310 = .ok (.ifCond .ne 15, 3) := by decide +kernel
theorem dL_law_313 : decode code 313 = .ok (.aload_n 3, 1) := by decide +kernel
theorem dL_law_314 : decode code 314 = .ok (.iconst 0, 1) := by decide +kernel
theorem dL_law_315 : decode code 315 = .ok (.laload, 1) := by decide +kernel
theorem dL_law_316 : decode code 316 = .ok (.iload 6, 2) := by decide +kernel
theorem dL_law_318 : decode code 318 = .ok (.i2l, 1) := by decide +kernel
theorem dL_law_319 : decode code 319 = .ok (.lcmp, 1) := by decide +kernel
theorem dL_law_320 : decode code 320 = .ok (.ifCond .eq 5, 3) := by decide +kernel
theorem dL_law_323 : decode code 323 = .ok (.iconst 0, 1) := by decide +kernel
theorem dL_law_324 : decode code 324 = .ok (.ireturn, 1) := by decide +kernel
theorem dL_law_325 : decode code 325 = .ok (.goto 930, 3) := by decide +kernel
theorem dL_law_328 : decode code 328 = .ok (.aload_n 1, 1) := by decide +kernel
theorem dL_law_329 : decode code 329 = .ok (.invokestatic 97, 3) := by decide +kernel
theorem dL_law_332 : decode code 332 = .ok (.istore 5, 2) := by decide +kernel
theorem dL_law_334 : decode code 334 = .ok (.aload_n 2, 1) := by decide +kernel
theorem dL_law_335 : decode code 335 = .ok (.invokevirtual 100, 3) := by decide +kernel
theorem dL_law_338 : decode code 338 = .ok (.aload_n 2, 1) := by decide +kernel
theorem dL_law_339 : decode code 339 = .ok (.invokevirtual 87, 3) := by decide +kernel
theorem dL_law_342 : decode code 342 = .ok (.iload 5, 2) := by decide +kernel
theorem dL_law_344 : decode code 344 = .ok (.if_icmp .eq 5, 3) := by decide +kernel
theorem dL_law_347 : decode code 347 = .ok (.iconst 0, 1) := by decide +kernel
theorem dL_law_348 : decode code 348 = .ok (.ireturn, 1) := by decide +kernel
theorem dL_law_349 : decode code 349 = .ok (.goto 906, 3) := by decide +kernel
theorem dL_law_352 : decode code 352 = .ok (.aload_n 1, 1) := by decide +kernel
theorem dL_law_353 : decode code 353 = .ok (.aload_n 0, 1) := by decide +kernel
theorem dL_law_354 : decode code 354 = .ok (.iload 4, 2) := by decide +kernel
theorem dL_law_356 : decode code 356 = .ok (.iconst 1, 1) := by decide +kernel
theorem dL_law_357 : decode code 357 = .ok (.iadd, 1) := by decide +kernel
theorem dL_law_358 : decode code 358 = .ok (.iaload, 1) := by decide +kernel
theorem dL_law_359 : decode code 359 = .ok (.aload_n 0, 1) := by decide +kernel
theorem dL_law_360 : decode code 360 = .ok (.iload 4, 2) := by decide +kernel
theorem dL_law_362 : decode code 362 = .ok (.iconst 2, 1) := by decide +kernel
theorem dL_law_363 : decode code 363 = .ok (.iadd, 1) := by decide +kernel
theorem dL_law_364 : decode code 364 = .ok (.iaload, 1) := by decide +kernel
theorem dL_law_365 : decode code 365 = .ok (.aload_n 3, 1) := by decide +kernel
theorem dL_law_366 : decode code 366 = .ok (.invokestatic 101, 3) := by decide +kernel
theorem dL_law_369 : decode code 369 = .ok (.istore 5, 2) := by decide +kernel
theorem dL_law_371 : decode code 371 = .ok (.aload_n 2, 1) := by decide +kernel
theorem dL_law_372 : decode code 372 = .ok (.aload_n 0, 1) := by decide +kernel
theorem dL_law_373 : decode code 373 = .ok (.iload 4, 2) := by decide +kernel
theorem dL_law_375 : decode code 375 = .ok (.iconst 1, 1) := by decide +kernel
theorem dL_law_376 : decode code 376 = .ok (.iadd, 1) := by decide +kernel
theorem dL_law_377 : decode code 377 = .ok (.iaload, 1) := by decide +kernel
theorem dL_law_378 : decode code 378 = .ok (.aload_n 0, 1) := by decide +kernel
theorem dL_law_379 : decode code 379 = .ok (.iload 4, 2) := by decide +kernel
theorem dL_law_381 : decode code 381 = .ok (.iconst 2, 1) := by decide +kernel
theorem dL_law_382 : decode code 382 = .ok (.iadd, 1) := by decide +kernel
theorem dL_law_383 : decode code 383 = .ok (.iaload, 1) := by decide +kernel
theorem dL_law_384 : decode code 384 = .ok (.invokevirtual 104, 3) := by decide +kernel
theorem dL_law_387 : decode code 387 = .ok (.istore 6, 2) := by decide +kernel
theorem dL_law_389 : decode code 389 = .ok (.aload_n 2, 1) := by decide +kernel
theorem dL_law_390 : decode code 390 = .ok (.invokevirtual 87, 3) := by decide +kernel
theorem dL_law_393 : decode code 393 = .ok (.iload 5, 2) := by decide +kernel
theorem dL_law_395 : decode code 395 = .ok (.if_icmp .eq 5, 3) := by decide +kernel
theorem dL_law_398 : decode code 398 = .ok (.iconst 0, 1) := by decide +kernel
theorem dL_law_399 : decode code 399 = .ok (.ireturn, 1) := by decide +kernel
theorem dL_law_400 : decode code 400 = .ok (.iload 5, 2) := by decide +kernel
theorem dL_law_402 : decode code 402 = .ok (.ifCond .ne 15, 3) := by decide +kernel
theorem dL_law_405 : decode code 405 = .ok (.aload_n 3, 1) := by decide +kernel
theorem dL_law_406 : decode code 406 = .ok (.iconst 0, 1) := by decide +kernel
theorem dL_law_407 : decode code 407 = .ok (.laload, 1) := by decide +kernel
theorem dL_law_408 : decode code 408 = .ok (.iload 6, 2) := by decide +kernel
theorem dL_law_410 : decode code 410 = .ok (.i2l, 1) := by decide +kernel
theorem dL_law_411 : decode code 411 = .ok (.lcmp, 1) := by decide +kernel
theorem dL_law_412 : decode code 412 = .ok (.ifCond .eq 5, 3) := by decide +kernel
theorem dL_law_415 : decode code 415 = .ok (.iconst 0, 1) := by decide +kernel
theorem dL_law_416 : decode code 416 = .ok (.ireturn, 1) := by decide +kernel
theorem dL_law_417 : decode code 417 = .ok (.goto 838, 3) := by decide +kernel
theorem dL_law_420 : decode code 420 = .ok (.aload_n 1, 1) := by decide +kernel
theorem dL_law_421 : decode code 421 = .ok (.aload_n 0, 1) := by decide +kernel
theorem dL_law_422 : decode code 422 = .ok (.iload 4, 2) := by decide +kernel
theorem dL_law_424 : decode code 424 = .ok (.iconst 1, 1) := by decide +kernel
theorem dL_law_425 : decode code 425 = .ok (.iadd, 1) := by decide +kernel
theorem dL_law_426 : decode code 426 = .ok (.iaload, 1) := by decide +kernel
theorem dL_law_427 : decode code 427 = .ok (.aload_n 0, 1) := by decide +kernel
theorem dL_law_428 : decode code 428 = .ok (.iload 4, 2) := by decide +kernel
theorem dL_law_430 : decode code 430 = .ok (.iconst 2, 1) := by decide +kernel
theorem dL_law_431 : decode code 431 = .ok (.iadd, 1) := by decide +kernel
theorem dL_law_432 : decode code 432 = .ok (.iaload, 1) := by decide +kernel
theorem dL_law_433 : decode code 433 = .ok (.aload_n 0, 1) := by decide +kernel
theorem dL_law_434 : decode code 434 = .ok (.iload 4, 2) := by decide +kernel
theorem dL_law_436 : decode code 436 = .ok (.iconst 3, 1) := by decide +kernel
theorem dL_law_437 : decode code 437 = .ok (.iadd, 1) := by decide +kernel
theorem dL_law_438 : decode code 438 = .ok (.iaload, 1) := by decide +kernel
theorem dL_law_439 : decode code 439 = .ok (.aload_n 3, 1) := by decide +kernel
theorem dL_law_440 : decode code 440 = .ok (.invokestatic 105, 3) := by decide +kernel
theorem dL_law_443 : decode code 443 = .ok (.istore 5, 2) := by decide +kernel
theorem dL_law_445 : decode code 445 = .ok (.aload_n 2, 1) := by decide +kernel
theorem dL_law_446 : decode code 446 = .ok (.aload_n 0, 1) := by decide +kernel
theorem dL_law_447 : decode code 447 = .ok (.iload 4, 2) := by decide +kernel
theorem dL_law_449 : decode code 449 = .ok (.iconst 1, 1) := by decide +kernel
theorem dL_law_450 : decode code 450 = .ok (.iadd, 1) := by decide +kernel
theorem dL_law_451 : decode code 451 = .ok (.iaload, 1) := by decide +kernel
theorem dL_law_452 : decode code 452 = .ok (.aload_n 0, 1) := by decide +kernel
theorem dL_law_453 : decode code 453 = .ok (.iload 4, 2) := by decide +kernel
theorem dL_law_455 : decode code 455 = .ok (.iconst 2, 1) := by decide +kernel
theorem dL_law_456 : decode code 456 = .ok (.iadd, 1) := by decide +kernel
theorem dL_law_457 : decode code 457 = .ok (.iaload, 1) := by decide +kernel
theorem dL_law_458 : decode code 458 = .ok (.aload_n 0, 1) := by decide +kernel
theorem dL_law_459 : decode code 459 = .ok (.iload 4, 2) := by decide +kernel
theorem dL_law_461 : decode code 461 = .ok (.iconst 3, 1) := by decide +kernel
theorem dL_law_462 : decode code 462 = .ok (.iadd, 1) := by decide +kernel
theorem dL_law_463 : decode code 463 = .ok (.iaload, 1) := by decide +kernel
theorem dL_law_464 : decode code 464 = .ok (.invokevirtual 108, 3) := by decide +kernel
theorem dL_law_467 : decode code 467 = .ok (.istore 6, 2) := by decide +kernel
theorem dL_law_469 : decode code 469 = .ok (.aload_n 2, 1) := by decide +kernel
theorem dL_law_470 : decode code 470 = .ok (.invokevirtual 87, 3) := by decide +kernel
theorem dL_law_473 : decode code 473 = .ok (.iload 5, 2) := by decide +kernel
theorem dL_law_475 : decode code 475 = .ok (.if_icmp .eq 5, 3) := by decide +kernel
theorem dL_law_478 : decode code 478 = .ok (.iconst 0, 1) := by decide +kernel
theorem dL_law_479 : decode code 479 = .ok (.ireturn, 1) := by decide +kernel
theorem dL_law_480 : decode code 480 = .ok (.iload 5, 2) := by decide +kernel
theorem dL_law_482 : decode code 482 = .ok (.ifCond .ne 15, 3) := by decide +kernel
theorem dL_law_485 : decode code 485 = .ok (.aload_n 3, 1) := by decide +kernel
theorem dL_law_486 : decode code 486 = .ok (.iconst 0, 1) := by decide +kernel
theorem dL_law_487 : decode code 487 = .ok (.laload, 1) := by decide +kernel
theorem dL_law_488 : decode code 488 = .ok (.iload 6, 2) := by decide +kernel
theorem dL_law_490 : decode code 490 = .ok (.i2l, 1) := by decide +kernel
theorem dL_law_491 : decode code 491 = .ok (.lcmp, 1) := by decide +kernel
theorem dL_law_492 : decode code 492 = .ok (.ifCond .eq 5, 3) := by decide +kernel
theorem dL_law_495 : decode code 495 = .ok (.iconst 0, 1) := by decide +kernel
theorem dL_law_496 : decode code 496 = .ok (.ireturn, 1) := by decide +kernel
theorem dL_law_497 : decode code 497 = .ok (.goto 758, 3) := by decide +kernel
theorem dL_law_500 : decode code 500 = .ok (.aload_n 1, 1) := by decide +kernel
theorem dL_law_501 : decode code 501 = .ok (.aload_n 0, 1) := by decide +kernel
theorem dL_law_502 : decode code 502 = .ok (.iload 4, 2) := by decide +kernel
theorem dL_law_504 : decode code 504 = .ok (.iconst 1, 1) := by decide +kernel
theorem dL_law_505 : decode code 505 = .ok (.iadd, 1) := by decide +kernel
theorem dL_law_506 : decode code 506 = .ok (.iaload, 1) := by decide +kernel
theorem dL_law_507 : decode code 507 = .ok (.aload_n 0, 1) := by decide +kernel
theorem dL_law_508 : decode code 508 = .ok (.iload 4, 2) := by decide +kernel
theorem dL_law_510 : decode code 510 = .ok (.iconst 2, 1) := by decide +kernel
theorem dL_law_511 : decode code 511 = .ok (.iadd, 1) := by decide +kernel
theorem dL_law_512 : decode code 512 = .ok (.iaload, 1) := by decide +kernel
theorem dL_law_513 : decode code 513 = .ok (.aload_n 3, 1) := by decide +kernel
theorem dL_law_514 : decode code 514 = .ok (.invokestatic 109, 3) := by decide +kernel
theorem dL_law_517 : decode code 517 = .ok (.istore 5, 2) := by decide +kernel
theorem dL_law_519 : decode code 519 = .ok (.aload_n 2, 1) := by decide +kernel
theorem dL_law_520 : decode code 520 = .ok (.aload_n 0, 1) := by decide +kernel
theorem dL_law_521 : decode code 521 = .ok (.iload 4, 2) := by decide +kernel
theorem dL_law_523 : decode code 523 = .ok (.iconst 1, 1) := by decide +kernel
theorem dL_law_524 : decode code 524 = .ok (.iadd, 1) := by decide +kernel
theorem dL_law_525 : decode code 525 = .ok (.iaload, 1) := by decide +kernel
theorem dL_law_526 : decode code 526 = .ok (.aload_n 0, 1) := by decide +kernel
theorem dL_law_527 : decode code 527 = .ok (.iload 4, 2) := by decide +kernel
theorem dL_law_529 : decode code 529 = .ok (.iconst 2, 1) := by decide +kernel
theorem dL_law_530 : decode code 530 = .ok (.iadd, 1) := by decide +kernel
theorem dL_law_531 : decode code 531 = .ok (.iaload, 1) := by decide +kernel
theorem dL_law_532 : decode code 532 = .ok (.invokevirtual 111, 3) := by decide +kernel
theorem dL_law_535 : decode code 535 = .ok (.istore 6, 2) := by decide +kernel
theorem dL_law_537 : decode code 537 = .ok (.aload_n 2, 1) := by decide +kernel
theorem dL_law_538 : decode code 538 = .ok (.invokevirtual 87, 3) := by decide +kernel
theorem dL_law_541 : decode code 541 = .ok (.iload 5, 2) := by decide +kernel
theorem dL_law_543 : decode code 543 = .ok (.if_icmp .eq 5, 3) := by decide +kernel
theorem dL_law_546 : decode code 546 = .ok (.iconst 0, 1) := by decide +kernel
theorem dL_law_547 : decode code 547 = .ok (.ireturn, 1) := by decide +kernel
theorem dL_law_548 : decode code 548 = .ok (.iload 5, 2) := by decide +kernel
theorem dL_law_550 : decode code 550 = .ok (.ifCond .ne 15, 3) := by decide +kernel
theorem dL_law_553 : decode code 553 = .ok (.aload_n 3, 1) := by decide +kernel
theorem dL_law_554 : decode code 554 = .ok (.iconst 0, 1) := by decide +kernel
theorem dL_law_555 : decode code 555 = .ok (.laload, 1) := by decide +kernel
theorem dL_law_556 : decode code 556 = .ok (.iload 6, 2) := by decide +kernel
theorem dL_law_558 : decode code 558 = .ok (.i2l, 1) := by decide +kernel
theorem dL_law_559 : decode code 559 = .ok (.lcmp, 1) := by decide +kernel
theorem dL_law_560 : decode code 560 = .ok (.ifCond .eq 5, 3) := by decide +kernel
theorem dL_law_563 : decode code 563 = .ok (.iconst 0, 1) := by decide +kernel
theorem dL_law_564 : decode code 564 = .ok (.ireturn, 1) := by decide +kernel
theorem dL_law_565 : decode code 565 = .ok (.goto 690, 3) := by decide +kernel
theorem dL_law_568 : decode code 568 = .ok (.aload_n 1, 1) := by decide +kernel
theorem dL_law_569 : decode code 569 = .ok (.aload_n 0, 1) := by decide +kernel
theorem dL_law_570 : decode code 570 = .ok (.iload 4, 2) := by decide +kernel
theorem dL_law_572 : decode code 572 = .ok (.iconst 1, 1) := by decide +kernel
theorem dL_law_573 : decode code 573 = .ok (.iadd, 1) := by decide +kernel
theorem dL_law_574 : decode code 574 = .ok (.iaload, 1) := by decide +kernel
theorem dL_law_575 : decode code 575 = .ok (.aload_n 0, 1) := by decide +kernel
theorem dL_law_576 : decode code 576 = .ok (.iload 4, 2) := by decide +kernel
theorem dL_law_578 : decode code 578 = .ok (.iconst 2, 1) := by decide +kernel
theorem dL_law_579 : decode code 579 = .ok (.iadd, 1) := by decide +kernel
theorem dL_law_580 : decode code 580 = .ok (.iaload, 1) := by decide +kernel
theorem dL_law_581 : decode code 581 = .ok (.aload_n 3, 1) := by decide +kernel
theorem dL_law_582 : decode code 582 = .ok (.invokestatic 112, 3) := by decide +kernel
theorem dL_law_585 : decode code 585 = .ok (.istore 5, 2) := by decide +kernel
theorem dL_law_587 : decode code 587 = .ok (.aload_n 2, 1) := by decide +kernel
theorem dL_law_588 : decode code 588 = .ok (.aload_n 0, 1) := by decide +kernel
theorem dL_law_589 : decode code 589 = .ok (.iload 4, 2) := by decide +kernel
theorem dL_law_591 : decode code 591 = .ok (.iconst 1, 1) := by decide +kernel
theorem dL_law_592 : decode code 592 = .ok (.iadd, 1) := by decide +kernel
theorem dL_law_593 : decode code 593 = .ok (.iaload, 1) := by decide +kernel
theorem dL_law_594 : decode code 594 = .ok (.aload_n 0, 1) := by decide +kernel
theorem dL_law_595 : decode code 595 = .ok (.iload 4, 2) := by decide +kernel
theorem dL_law_597 : decode code 597 = .ok (.iconst 2, 1) := by decide +kernel
theorem dL_law_598 : decode code 598 = .ok (.iadd, 1) := by decide +kernel
theorem dL_law_599 : decode code 599 = .ok (.iaload, 1) := by decide +kernel
theorem dL_law_600 : decode code 600 = .ok (.invokevirtual 114, 3) := by decide +kernel
theorem dL_law_603 : decode code 603 = .ok (.istore 6, 2) := by decide +kernel
theorem dL_law_605 : decode code 605 = .ok (.aload_n 2, 1) := by decide +kernel
theorem dL_law_606 : decode code 606 = .ok (.invokevirtual 87, 3) := by decide +kernel
theorem dL_law_609 : decode code 609 = .ok (.iload 5, 2) := by decide +kernel
theorem dL_law_611 : decode code 611 = .ok (.if_icmp .eq 5, 3) := by decide +kernel
theorem dL_law_614 : decode code 614 = .ok (.iconst 0, 1) := by decide +kernel
theorem dL_law_615 : decode code 615 = .ok (.ireturn, 1) := by decide +kernel
theorem dL_law_616 : decode code 616 = .ok (.iload 5, 2) := by decide +kernel
theorem dL_law_618 : decode code 618 = .ok (.ifCond .ne 15, 3) := by decide +kernel
theorem dL_law_621 : decode code 621 = .ok (.aload_n 3, 1) := by decide +kernel
theorem dL_law_622 : decode code 622 = .ok (.iconst 0, 1) := by decide +kernel
theorem dL_law_623 : decode code 623 = .ok (.laload, 1) := by decide +kernel
theorem dL_law_624 : decode code 624 = .ok (.iload 6, 2) := by decide +kernel
theorem dL_law_626 : decode code 626 = .ok (.i2l, 1) := by decide +kernel
theorem dL_law_627 : decode code 627 = .ok (.lcmp, 1) := by decide +kernel
theorem dL_law_628 : decode code 628 = .ok (.ifCond .eq 5, 3) := by decide +kernel
theorem dL_law_631 : decode code 631 = .ok (.iconst 0, 1) := by decide +kernel
theorem dL_law_632 : decode code 632 = .ok (.ireturn, 1) := by decide +kernel
theorem dL_law_633 : decode code 633 = .ok (.goto 622, 3) := by decide +kernel
theorem dL_law_636 : decode code 636 = .ok (.aload_n 1, 1) := by decide +kernel
theorem dL_law_637 : decode code 637 = .ok (.aload_n 0, 1) := by decide +kernel
theorem dL_law_638 : decode code 638 = .ok (.iload 4, 2) := by decide +kernel
theorem dL_law_640 : decode code 640 = .ok (.iconst 1, 1) := by decide +kernel
theorem dL_law_641 : decode code 641 = .ok (.iadd, 1) := by decide +kernel
theorem dL_law_642 : decode code 642 = .ok (.iaload, 1) := by decide +kernel
theorem dL_law_643 : decode code 643 = .ok (.aload_n 3, 1) := by decide +kernel
theorem dL_law_644 : decode code 644 = .ok (.invokestatic 115, 3) := by decide +kernel
theorem dL_law_647 : decode code 647 = .ok (.istore 5, 2) := by decide +kernel
theorem dL_law_649 : decode code 649 = .ok (.aload_n 2, 1) := by decide +kernel
theorem dL_law_650 : decode code 650 = .ok (.aload_n 0, 1) := by decide +kernel
theorem dL_law_651 : decode code 651 = .ok (.iload 4, 2) := by decide +kernel
theorem dL_law_653 : decode code 653 = .ok (.iconst 1, 1) := by decide +kernel
theorem dL_law_654 : decode code 654 = .ok (.iadd, 1) := by decide +kernel
theorem dL_law_655 : decode code 655 = .ok (.iaload, 1) := by decide +kernel
theorem dL_law_656 : decode code 656 = .ok (.invokevirtual 117, 3) := by decide +kernel
theorem dL_law_659 : decode code 659 = .ok (.istore 6, 2) := by decide +kernel
theorem dL_law_661 : decode code 661 = .ok (.aload_n 2, 1) := by decide +kernel
theorem dL_law_662 : decode code 662 = .ok (.invokevirtual 87, 3) := by decide +kernel
theorem dL_law_665 : decode code 665 = .ok (.iload 5, 2) := by decide +kernel
theorem dL_law_667 : decode code 667 = .ok (.if_icmp .eq 5, 3) := by decide +kernel
theorem dL_law_670 : decode code 670 = .ok (.iconst 0, 1) := by decide +kernel
theorem dL_law_671 : decode code 671 = .ok (.ireturn, 1) := by decide +kernel
theorem dL_law_672 : decode code 672 = .ok (.iload 5, 2) := by decide +kernel
theorem dL_law_674 : decode code 674 = .ok (.ifCond .ne 15, 3) := by decide +kernel
theorem dL_law_677 : decode code 677 = .ok (.aload_n 3, 1) := by decide +kernel
theorem dL_law_678 : decode code 678 = .ok (.iconst 0, 1) := by decide +kernel
theorem dL_law_679 : decode code 679 = .ok (.laload, 1) := by decide +kernel
theorem dL_law_680 : decode code 680 = .ok (.iload 6, 2) := by decide +kernel
