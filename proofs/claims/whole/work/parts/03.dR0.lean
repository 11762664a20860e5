/-! printed by wip/whole/gen_names.py: decode rows -/
theorem dR_init_0 : decode prog_4_method_1_code 0 = .ok (.aload_n 0, 1) := by decide +kernel
theorem dR_init_1 : decode prog_4_method_1_code 1 = .ok (.invokespecial 3, 3) := by decide +kernel
theorem dR_init_4 : decode prog_4_method_1_code 4 = .ok (.aload_n 0, 1) := by decide +kernel
theorem dR_init_5 : decode prog_4_method_1_code 5 = .ok (.bipush 66, 2) := by decide +kernel
theorem dR_init_7 : decode prog_4_method_1_code 7 = .ok (.newarray .int, 2) := by decide +kernel
theorem dR_init_9 : decode prog_4_method_1_code 9 = .ok (.putfield 9, 3) := by decide +kernel
theorem dR_init_12 : decode prog_4_method_1_code 12 = .ok (.aload_n 0, 1) := by decide +kernel
theorem dR_init_13 : decode prog_4_method_1_code 13 = .ok (.iconst 0, 1) := by decide +kernel
theorem dR_init_14 : decode prog_4_method_1_code 14 = .ok (.putfield 15, 3) := by decide +kernel
theorem dR_init_17 : decode prog_4_method_1_code 17 = .ok (.aload_n 0, 1) := by decide +kernel
theorem dR_init_18 : decode prog_4_method_1_code 18 = .ok (.iconst 0, 1) := by decide +kernel
theorem dR_init_19 : decode prog_4_method_1_code 19 = .ok (.putfield 19, 3) := by decide +kernel
theorem dR_init_22 : decode prog_4_method_1_code 22 = .ok (.aload_n 0, 1) := by decide +kernel
theorem dR_init_23 : decode prog_4_method_1_code 23 = .ok (.bipush 6, 2) := by decide +kernel
theorem dR_init_25 : decode prog_4_method_1_code 25 = .ok (.newarray .int, 2) := by decide +kernel
theorem dR_init_27 : decode prog_4_method_1_code 27 = .ok (.putfield 22, 3) := by decide +kernel
theorem dR_init_30 : decode prog_4_method_1_code 30 = .ok (.aload_n 0, 1) := by decide +kernel
theorem dR_init_31 : decode prog_4_method_1_code 31 = .ok (.iconst 0, 1) := by decide +kernel
theorem dR_init_32 : decode prog_4_method_1_code 32 = .ok (.putfield 25, 3) := by decide +kernel
theorem dR_init_35 : decode prog_4_method_1_code 35 = .ok (.return_, 1) := by decide +kernel
theorem dR_takeArea_0 : decode prog_4_method_2_code 0 = .ok (.aload_n 0, 1) := by decide +kernel
theorem dR_takeArea_1 : decode prog_4_method_2_code 1 = .ok (.iconst 0, 1) := by decide +kernel
theorem dR_takeArea_2 : decode prog_4_method_2_code 2 = .ok (.invokevirtual 28, 3) := by decide +kernel
theorem dR_takeArea_5 : decode prog_4_method_2_code 5 = .ok (.aload_n 0, 1) := by decide +kernel
theorem dR_takeArea_6 : decode prog_4_method_2_code 6 = .ok (.aload_n 1, 1) := by decide +kernel
theorem dR_takeArea_7 : decode prog_4_method_2_code 7 = .ok (.iload_n 2, 1) := by decide +kernel
theorem dR_takeArea_8 : decode prog_4_method_2_code 8 = .ok (.iconst 0, 1) := by decide +kernel
theorem dR_takeArea_9 : decode prog_4_method_2_code 9 = .ok (.invokevirtual 32, 3) := by decide +kernel
theorem dR_takeArea_12 : decode prog_4_method_2_code 12 = .ok (.return_, 1) := by decide +kernel
theorem dR_takePart_0 : decode prog_4_method_3_code 0 = .ok (.iload_n 2, 1) := by decide +kernel
theorem dR_takePart_1 : decode prog_4_method_3_code 1 = .ok (.ifCond .ne 17, 3) := by decide +kernel
theorem dR_takePart_4 : decode prog_4_method_3_code 4 = .ok (.aload_n 0, 1) := by decide +kernel
theorem dR_takePart_5 : decode prog_4_method_3_code 5 = .ok (.iconst 0, 1) := by decide +kernel
theorem dR_takePart_6 : decode prog_4_method_3_code 6 = .ok (.invokevirtual 28, 3) := by decide +kernel
theorem dR_takePart_9 : decode prog_4_method_3_code 9 = .ok (.aload_n 0, 1) := by decide +kernel
theorem dR_takePart_10 : decode prog_4_method_3_code 10 = .ok (.aload_n 1, 1) := by decide +kernel
theorem dR_takePart_11 : decode prog_4_method_3_code 11 = .ok (.iload_n 3, 1) := by decide +kernel
theorem dR_takePart_12 : decode prog_4_method_3_code 12 = .ok (.invokevirtual 36, 3) := by decide +kernel
theorem dR_takePart_15 : decode prog_4_method_3_code 15 = .ok (.goto 19, 3) := by decide +kernel
theorem dR_takePart_18 : decode prog_4_method_3_code 18 = .ok (.aload_n 0, 1) := by decide +kernel
theorem dR_takePart_19 : decode prog_4_method_3_code 19 = .ok (.aload_n 1, 1) := by decide +kernel
theorem dR_takePart_20 : decode prog_4_method_3_code 20 = .ok (.iload_n 3, 1) := by decide +kernel
theorem dR_takePart_21 : decode prog_4_method_3_code 21 = .ok (.invokevirtual 40, 3) := by decide +kernel
theorem dR_takePart_24 : decode prog_4_method_3_code 24 = .ok (.invokevirtual 28, 3) := by decide +kernel
theorem dR_takePart_27 : decode prog_4_method_3_code 27 = .ok (.aload_n 0, 1) := by decide +kernel
theorem dR_takePart_28 : decode prog_4_method_3_code 28 = .ok (.aload_n 1, 1) := by decide +kernel
theorem dR_takePart_29 : decode prog_4_method_3_code 29 = .ok (.iload_n 3, 1) := by decide +kernel
theorem dR_takePart_30 : decode prog_4_method_3_code 30 = .ok (.iconst 0, 1) := by decide +kernel
theorem dR_takePart_31 : decode prog_4_method_3_code 31 = .ok (.invokevirtual 32, 3) := by decide +kernel
theorem dR_takePart_34 : decode prog_4_method_3_code 34 = .ok (.return_, 1) := by decide +kernel
theorem dR_isSame_0 : decode prog_4_method_4_code 0 = .ok (.aload_n 0, 1) := by decide +kernel
theorem dR_isSame_1 : decode prog_4_method_4_code 1 = .ok (.getfield 15, 3) := by decide +kernel
theorem dR_isSame_4 : decode prog_4_method_4_code 4 = .ok (.aload_n 1, 1) := by decide +kernel
theorem dR_isSame_5 : decode prog_4_method_4_code 5 = .ok (.getfield 15, 3) := by decide +kernel
theorem dR_isSame_8 : decode prog_4_method_4_code 8 = .ok (.if_icmp .eq 5, 3) := by decide +kernel
theorem dR_isSame_11 : decode prog_4_method_4_code 11 = .ok (.iconst 0, 1) := by decide +kernel
theorem dR_isSame_12 : decode prog_4_method_4_code 12 = .ok (.ireturn, 1) := by decide +kernel
theorem dR_isSame_13 : decode prog_4_method_4_code 13 = .ok (.iconst 0, 1) := by decide +kernel
theorem dR_isSame_14 : decode prog_4_method_4_code 14 = .ok (.istore_n 2, 1) := by decide +kernel
theorem dR_isSame_15 : decode prog_4_method_4_code 15 = .ok (.iload_n 2, 1) := by decide +kernel
theorem dR_isSame_16 : decode prog_4_method_4_code 16 = .ok (.aload_n 0, 1) := by decide +kernel
theorem dR_isSame_17 : decode prog_4_method_4_code 17 = .ok (.getfield 15, 3) := by decide +kernel
theorem dR_isSame_20 : decode prog_4_method_4_code 20 = .ok (.if_icmp .ge 26, 3) := by decide +kernel
theorem dR_isSame_23 : decode prog_4_method_4_code 23 = .ok (.aload_n 0, 1) := by decide +kernel
theorem dR_isSame_24 : decode prog_4_method_4_code 24 = .ok (.getfield 9, 3) := by decide +kernel
theorem dR_isSame_27 : decode prog_4_method_4_code 27 = .ok (.iload_n 2, 1) := by decide +kernel
theorem dR_isSame_28 : decode prog_4_method_4_code 28 = .ok (.iaload, 1) := by decide +kernel
theorem dR_isSame_29 : decode prog_4_method_4_code 29 = .ok (.aload_n 1, 1) := by decide +kernel
theorem dR_isSame_30 : decode prog_4_method_4_code 30 = .ok (.getfield 9, 3) := by decide +kernel
theorem dR_isSame_33 : decode prog_4_method_4_code 33 = .ok (.iload_n 2, 1) := by decide +kernel
theorem dR_isSame_34 : decode prog_4_method_4_code 34 = .ok (.iaload, 1) := by decide +kernel
theorem dR_isSame_35 : decode prog_4_method_4_code 35 = .ok (.if_icmp .eq 5, 3) := by decide +kernel
theorem dR_isSame_38 : decode prog_4_method_4_code 38 = .ok (.iconst 0, 1) := by decide +kernel
theorem dR_isSame_39 : decode prog_4_method_4_code 39 = .ok (.ireturn, 1) := by decide +kernel
theorem dR_isSame_40 : decode prog_4_method_4_code 40 = .ok (.iinc 2 1, 3) := by decide +kernel
theorem dR_isSame_43 : decode prog_4_method_4_code 43 = .ok (.goto (-28), 3) := by decide +kernel
theorem dR_isSame_46 : decode prog_4_method_4_code 46 = .ok (.iconst 1, 1) := by decide +kernel
theorem dR_isSame_47 : decode prog_4_method_4_code 47 = .ok (.ireturn, 1) := by decide +kernel
theorem dR_clear_0 : decode prog_4_method_5_code 0 = .ok (.aload_n 0, 1) := by decide +kernel
theorem dR_clear_1 : decode prog_4_method_5_code 1 = .ok (.iconst 0, 1) := by decide +kernel
theorem dR_clear_2 : decode prog_4_method_5_code 2 = .ok (.putfield 15, 3) := by decide +kernel
theorem dR_clear_5 : decode prog_4_method_5_code 5 = .ok (.aload_n 0, 1) := by decide +kernel
theorem dR_clear_6 : decode prog_4_method_5_code 6 = .ok (.iload_n 1, 1) := by decide +kernel
theorem dR_clear_7 : decode prog_4_method_5_code 7 = .ok (.putfield 19, 3) := by decide +kernel
theorem dR_clear_10 : decode prog_4_method_5_code 10 = .ok (.aload_n 0, 1) := by decide +kernel
theorem dR_clear_11 : decode prog_4_method_5_code 11 = .ok (.iconst 0, 1) := by decide +kernel
theorem dR_clear_12 : decode prog_4_method_5_code 12 = .ok (.putfield 25, 3) := by decide +kernel
theorem dR_clear_15 : decode prog_4_method_5_code 15 = .ok (.iconst 0, 1) := by decide +kernel
theorem dR_clear_16 : decode prog_4_method_5_code 16 = .ok (.istore_n 2, 1) := by decide +kernel
theorem dR_clear_17 : decode prog_4_method_5_code 17 = .ok (.iload_n 2, 1) := by decide +kernel
theorem dR_clear_18 : decode prog_4_method_5_code 18 = .ok (.bipush 6, 2) := by decide +kernel
theorem dR_clear_20 : decode prog_4_method_5_code 20 = .ok (.if_icmp .ge 16, 3) := by decide +kernel
theorem dR_clear_23 : decode prog_4_method_5_code 23 = .ok (.aload_n 0, 1) := by decide +kernel
theorem dR_clear_24 : decode prog_4_method_5_code 24 = .ok (.getfield 22, 3) := by decide +kernel
theorem dR_clear_27 : decode prog_4_method_5_code 27 = .ok (.iload_n 2, 1) := by decide +kernel
theorem dR_clear_28 : decode prog_4_method_5_code 28 = .ok (.iconst (-1), 1) := by decide +kernel
theorem dR_clear_29 : decode prog_4_method_5_code 29 = .ok (.iastore, 1) := by decide +kernel
theorem dR_clear_30 : decode prog_4_method_5_code 30 = .ok (.iinc 2 1, 3) := by decide +kernel
theorem dR_clear_33 : decode prog_4_method_5_code 33 = .ok (.goto (-16), 3) := by decide +kernel
theorem dR_clear_36 : decode prog_4_method_5_code 36 = .ok (.return_, 1) := by decide +kernel
theorem dR_addArea_0 : decode prog_4_method_6_code 0 = .ok (.iload_n 3, 1) := by decide +kernel
theorem dR_addArea_1 : decode prog_4_method_6_code 1 = .ok (.bipush 12, 2) := by decide +kernel
theorem dR_addArea_3 : decode prog_4_method_6_code 3 = .ok (.if_icmp .le 4, 3) := by decide +kernel
theorem dR_addArea_6 : decode prog_4_method_6_code 6 = .ok (.return_, 1) := by decide +kernel
theorem dR_addArea_7 : decode prog_4_method_6_code 7 = .ok (.iconst 0, 1) := by decide +kernel
theorem dR_addArea_8 : decode prog_4_method_6_code 8 = .ok (.istore 4, 2) := by decide +kernel
theorem dR_addArea_10 : decode prog_4_method_6_code 10 = .ok (.iload 4, 2) := by decide +kernel
theorem dR_addArea_12 : decode prog_4_method_6_code 12 = .ok (.bipush 6, 2) := by decide +kernel
theorem dR_addArea_14 : decode prog_4_method_6_code 14 = .ok (.if_icmp .ge 27, 3) := by decide +kernel
theorem dR_addArea_17 : decode prog_4_method_6_code 17 = .ok (.aload_n 1, 1) := by decide +kernel
theorem dR_addArea_18 : decode prog_4_method_6_code 18 = .ok (.getfield 46, 3) := by decide +kernel
theorem dR_addArea_21 : decode prog_4_method_6_code 21 = .ok (.iload 4, 2) := by decide +kernel
theorem dR_addArea_23 : decode prog_4_method_6_code 23 = .ok (.iaload, 1) := by decide +kernel
theorem dR_addArea_24 : decode prog_4_method_6_code 24 = .ok (.iload_n 2, 1) := by decide +kernel
theorem dR_addArea_25 : decode prog_4_method_6_code 25 = .ok (.if_icmp .ne 10, 3) := by decide +kernel
theorem dR_addArea_28 : decode prog_4_method_6_code 28 = .ok (.aload_n 0, 1) := by decide +kernel
theorem dR_addArea_29 : decode prog_4_method_6_code 29 = .ok (.aload_n 1, 1) := by decide +kernel
theorem dR_addArea_30 : decode prog_4_method_6_code 30 = .ok (.iload 4, 2) := by decide +kernel
theorem dR_addArea_32 : decode prog_4_method_6_code 32 = .ok (.invokevirtual 49, 3) := by decide +kernel
theorem dR_addArea_35 : decode prog_4_method_6_code 35 = .ok (.iinc 4 1, 3) := by decide +kernel
theorem dR_addArea_38 : decode prog_4_method_6_code 38 = .ok (.goto (-28), 3) := by decide +kernel
theorem dR_addArea_41 : decode prog_4_method_6_code 41 = .ok (.iconst 0, 1) := by decide +kernel
theorem dR_addArea_42 : decode prog_4_method_6_code 42 = .ok (.istore 4, 2) := by decide +kernel
theorem dR_addArea_44 : decode prog_4_method_6_code 44 = .ok (.iload 4, 2) := by decide +kernel
theorem dR_addArea_46 : decode prog_4_method_6_code 46 = .ok (.bipush 12, 2) := by decide +kernel
theorem dR_addArea_48 : decode prog_4_method_6_code 48 = .ok (.if_icmp .ge 27, 3) := by decide +kernel
theorem dR_addArea_51 : decode prog_4_method_6_code 51 = .ok (.aload_n 1, 1) := by decide +kernel
theorem dR_addArea_52 : decode prog_4_method_6_code 52 = .ok (.getfield 52, 3) := by decide +kernel
theorem dR_addArea_55 : decode prog_4_method_6_code 55 = .ok (.iload 4, 2) := by decide +kernel
theorem dR_addArea_57 : decode prog_4_method_6_code 57 = .ok (.iaload, 1) := by decide +kernel
theorem dR_addArea_58 : decode prog_4_method_6_code 58 = .ok (.iload_n 2, 1) := by decide +kernel
theorem dR_addArea_59 : decode prog_4_method_6_code 59 = .ok (.if_icmp .ne 10, 3) := by decide +kernel
theorem dR_addArea_62 : decode prog_4_method_6_code 62 = .ok (.aload_n 0, 1) := by decide +kernel
theorem dR_addArea_63 : decode prog_4_method_6_code 63 = .ok (.aload_n 1, 1) := by decide +kernel
theorem dR_addArea_64 : decode prog_4_method_6_code 64 = .ok (.iload 4, 2) := by decide +kernel
theorem dR_addArea_66 : decode prog_4_method_6_code 66 = .ok (.invokevirtual 36, 3) := by decide +kernel
theorem dR_addArea_69 : decode prog_4_method_6_code 69 = .ok (.iinc 4 1, 3) := by decide +kernel
theorem dR_addArea_72 : decode prog_4_method_6_code 72 = .ok (.goto (-28), 3) := by decide +kernel
theorem dR_addArea_75 : decode prog_4_method_6_code 75 = .ok (.aload_n 0, 1) := by decide +kernel
theorem dR_addArea_76 : decode prog_4_method_6_code 76 = .ok (.aload_n 1, 1) := by decide +kernel
theorem dR_addArea_77 : decode prog_4_method_6_code 77 = .ok (.iload_n 2, 1) := by decide +kernel
theorem dR_addArea_78 : decode prog_4_method_6_code 78 = .ok (.iload_n 3, 1) := by decide +kernel
theorem dR_addArea_79 : decode prog_4_method_6_code 79 = .ok (.invokevirtual 55, 3) := by decide +kernel
theorem dR_addArea_82 : decode prog_4_method_6_code 82 = .ok (.return_, 1) := by decide +kernel
theorem dR_addCutsIn_0 : decode prog_4_method_7_code 0 = .ok (.iconst 1, 1) := by decide +kernel
theorem dR_addCutsIn_1 : decode prog_4_method_7_code 1 = .ok (.istore 4, 2) := by decide +kernel
theorem dR_addCutsIn_3 : decode prog_4_method_7_code 3 = .ok (.iload 4, 2) := by decide +kernel
theorem dR_addCutsIn_5 : decode prog_4_method_7_code 5 = .ok (.bipush 13, 2) := by decide +kernel
theorem dR_addCutsIn_7 : decode prog_4_method_7_code 7 = .ok (.if_icmp .ge 40, 3) := by decide +kernel
theorem dR_addCutsIn_10 : decode prog_4_method_7_code 10 = .ok (.aload_n 1, 1) := by decide +kernel
theorem dR_addCutsIn_11 : decode prog_4_method_7_code 11 = .ok (.getfield 58, 3) := by decide +kernel
theorem dR_addCutsIn_14 : decode prog_4_method_7_code 14 = .ok (.iload 4, 2) := by decide +kernel
theorem dR_addCutsIn_16 : decode prog_4_method_7_code 16 = .ok (.iaload, 1) := by decide +kernel
theorem dR_addCutsIn_17 : decode prog_4_method_7_code 17 = .ok (.iload_n 2, 1) := by decide +kernel
theorem dR_addCutsIn_18 : decode prog_4_method_7_code 18 = .ok (.if_icmp .ne 23, 3) := by decide +kernel
theorem dR_addCutsIn_21 : decode prog_4_method_7_code 21 = .ok (.aload_n 0, 1) := by decide +kernel
theorem dR_addCutsIn_22 : decode prog_4_method_7_code 22 = .ok (.iconst 1, 1) := by decide +kernel
theorem dR_addCutsIn_23 : decode prog_4_method_7_code 23 = .ok (.invokevirtual 61, 3) := by decide +kernel
theorem dR_addCutsIn_26 : decode prog_4_method_7_code 26 = .ok (.aload_n 0, 1) := by decide +kernel
theorem dR_addCutsIn_27 : decode prog_4_method_7_code 27 = .ok (.aload_n 1, 1) := by decide +kernel
theorem dR_addCutsIn_28 : decode prog_4_method_7_code 28 = .ok (.iload 4, 2) := by decide +kernel
theorem dR_addCutsIn_30 : decode prog_4_method_7_code 30 = .ok (.iload_n 3, 1) := by decide +kernel
theorem dR_addCutsIn_31 : decode prog_4_method_7_code 31 = .ok (.iconst 1, 1) := by decide +kernel
theorem dR_addCutsIn_32 : decode prog_4_method_7_code 32 = .ok (.iadd, 1) := by decide +kernel
theorem dR_addCutsIn_33 : decode prog_4_method_7_code 33 = .ok (.invokevirtual 32, 3) := by decide +kernel
theorem dR_addCutsIn_36 : decode prog_4_method_7_code 36 = .ok (.aload_n 0, 1) := by decide +kernel
theorem dR_addCutsIn_37 : decode prog_4_method_7_code 37 = .ok (.iconst 2, 1) := by decide +kernel
theorem dR_addCutsIn_38 : decode prog_4_method_7_code 38 = .ok (.invokevirtual 61, 3) := by decide +kernel
theorem dR_addCutsIn_41 : decode prog_4_method_7_code 41 = .ok (.iinc 4 1, 3) := by decide +kernel
theorem dR_addCutsIn_44 : decode prog_4_method_7_code 44 = .ok (.goto (-41), 3) := by decide +kernel
theorem dR_addCutsIn_47 : decode prog_4_method_7_code 47 = .ok (.return_, 1) := by decide +kernel
theorem dR_addSpot_0 : decode prog_4_method_8_code 0 = .ok (.aload_n 0, 1) := by decide +kernel
theorem dR_addSpot_1 : decode prog_4_method_8_code 1 = .ok (.bipush 10, 2) := by decide +kernel
theorem dR_addSpot_3 : decode prog_4_method_8_code 3 = .ok (.aload_n 1, 1) := by decide +kernel
theorem dR_addSpot_4 : decode prog_4_method_8_code 4 = .ok (.getfield 64, 3) := by decide +kernel
theorem dR_addSpot_7 : decode prog_4_method_8_code 7 = .ok (.iload_n 2, 1) := by decide +kernel
theorem dR_addSpot_8 : decode prog_4_method_8_code 8 = .ok (.iaload, 1) := by decide +kernel
theorem dR_addSpot_9 : decode prog_4_method_8_code 9 = .ok (.iadd, 1) := by decide +kernel
theorem dR_addSpot_10 : decode prog_4_method_8_code 10 = .ok (.invokevirtual 61, 3) := by decide +kernel
theorem dR_addSpot_13 : decode prog_4_method_8_code 13 = .ok (.iconst 0, 1) := by decide +kernel
theorem dR_addSpot_14 : decode prog_4_method_8_code 14 = .ok (.istore_n 3, 1) := by decide +kernel
theorem dR_addSpot_15 : decode prog_4_method_8_code 15 = .ok (.iload_n 3, 1) := by decide +kernel
theorem dR_addSpot_16 : decode prog_4_method_8_code 16 = .ok (.aload_n 1, 1) := by decide +kernel
theorem dR_addSpot_17 : decode prog_4_method_8_code 17 = .ok (.getfield 64, 3) := by decide +kernel
theorem dR_addSpot_20 : decode prog_4_method_8_code 20 = .ok (.iload_n 2, 1) := by decide +kernel
theorem dR_addSpot_21 : decode prog_4_method_8_code 21 = .ok (.iaload, 1) := by decide +kernel
theorem dR_addSpot_22 : decode prog_4_method_8_code 22 = .ok (.invokestatic 67, 3) := by decide +kernel
theorem dR_addSpot_25 : decode prog_4_method_8_code 25 = .ok (.if_icmp .ge 24, 3) := by decide +kernel
theorem dR_addSpot_28 : decode prog_4_method_8_code 28 = .ok (.aload_n 0, 1) := by decide +kernel
theorem dR_addSpot_29 : decode prog_4_method_8_code 29 = .ok (.aload_n 1, 1) := by decide +kernel
theorem dR_addSpot_30 : decode prog_4_method_8_code 30 = .ok (.aload_n 1, 1) := by decide +kernel
theorem dR_addSpot_31 : decode prog_4_method_8_code 31 = .ok (.getfield 70, 3) := by decide +kernel
theorem dR_addSpot_34 : decode prog_4_method_8_code 34 = .ok (.iconst 2, 1) := by decide +kernel
theorem dR_addSpot_35 : decode prog_4_method_8_code 35 = .ok (.iload_n 2, 1) := by decide +kernel
theorem dR_addSpot_36 : decode prog_4_method_8_code 36 = .ok (.imul, 1) := by decide +kernel
theorem dR_addSpot_37 : decode prog_4_method_8_code 37 = .ok (.iload_n 3, 1) := by decide +kernel
theorem dR_addSpot_38 : decode prog_4_method_8_code 38 = .ok (.iadd, 1) := by decide +kernel
theorem dR_addSpot_39 : decode prog_4_method_8_code 39 = .ok (.iaload, 1) := by decide +kernel
theorem dR_addSpot_40 : decode prog_4_method_8_code 40 = .ok (.invokevirtual 49, 3) := by decide +kernel
theorem dR_addSpot_43 : decode prog_4_method_8_code 43 = .ok (.iinc 3 1, 3) := by decide +kernel
theorem dR_addSpot_46 : decode prog_4_method_8_code 46 = .ok (.goto (-31), 3) := by decide +kernel
theorem dR_addSpot_49 : decode prog_4_method_8_code 49 = .ok (.return_, 1) := by decide +kernel
theorem dR_addLine_0 : decode prog_4_method_9_code 0 = .ok (.iload_n 2, 1) := by decide +kernel
theorem dR_addLine_1 : decode prog_4_method_9_code 1 = .ok (.iconst (-1), 1) := by decide +kernel
theorem dR_addLine_2 : decode prog_4_method_9_code 2 = .ok (.if_icmp .ne 7, 3) := by decide +kernel
theorem dR_addLine_5 : decode prog_4_method_9_code 5 = .ok (.iconst (-1), 1) := by decide +kernel
theorem dR_addLine_6 : decode prog_4_method_9_code 6 = .ok (.goto 9, 3) := by decide +kernel
theorem dR_addLine_9 : decode prog_4_method_9_code 9 = .ok (.aload_n 1, 1) := by decide +kernel
theorem dR_addLine_10 : decode prog_4_method_9_code 10 = .ok (.getfield 46, 3) := by decide +kernel
theorem dR_addLine_13 : decode prog_4_method_9_code 13 = .ok (.iload_n 2, 1) := by decide +kernel
theorem dR_addLine_14 : decode prog_4_method_9_code 14 = .ok (.iaload, 1) := by decide +kernel
theorem dR_addLine_15 : decode prog_4_method_9_code 15 = .ok (.istore_n 3, 1) := by decide +kernel
theorem dR_addLine_16 : decode prog_4_method_9_code 16 = .ok (.aload_n 0, 1) := by decide +kernel
theorem dR_addLine_17 : decode prog_4_method_9_code 17 = .ok (.getfield 19, 3) := by decide +kernel
theorem dR_addLine_20 : decode prog_4_method_9_code 20 = .ok (.iload_n 3, 1) := by decide +kernel
theorem dR_addLine_21 : decode prog_4_method_9_code 21 = .ok (.invokestatic 73, 3) := by decide +kernel
theorem dR_addLine_24 : decode prog_4_method_9_code 24 = .ok (.ifCond .ne 12, 3) := by decide +kernel
theorem dR_addLine_27 : decode prog_4_method_9_code 27 = .ok (.aload_n 0, 1) := by decide +kernel
theorem dR_addLine_28 : decode prog_4_method_9_code 28 = .ok (.bipush 100, 2) := by decide +kernel
theorem dR_addLine_30 : decode prog_4_method_9_code 30 = .ok (.iload_n 2, 1) := by decide +kernel
theorem dR_addLine_31 : decode prog_4_method_9_code 31 = .ok (.iadd, 1) := by decide +kernel
theorem dR_addLine_32 : decode prog_4_method_9_code 32 = .ok (.invokevirtual 61, 3) := by decide +kernel
theorem dR_addLine_35 : decode prog_4_method_9_code 35 = .ok (.return_, 1) := by decide +kernel
theorem dR_addLine_36 : decode prog_4_method_9_code 36 = .ok (.aload_n 0, 1) := by decide +kernel
theorem dR_addLine_37 : decode prog_4_method_9_code 37 = .ok (.getfield 22, 3) := by decide +kernel
theorem dR_addLine_40 : decode prog_4_method_9_code 40 = .ok (.iload_n 2, 1) := by decide +kernel
theorem dR_addLine_41 : decode prog_4_method_9_code 41 = .ok (.iaload, 1) := by decide +kernel
theorem dR_addLine_42 : decode prog_4_method_9_code 42 = .ok (.iconst (-1), 1) := by decide +kernel
theorem dR_addLine_43 : decode prog_4_method_9_code 43 = .ok (.if_icmp .ne 23, 3) := by decide +kernel
theorem dR_addLine_46 : decode prog_4_method_9_code 46 = .ok (.aload_n 0, 1) := by decide +kernel
theorem dR_addLine_47 : decode prog_4_method_9_code 47 = .ok (.getfield 22, 3) := by decide +kernel
theorem dR_addLine_50 : decode prog_4_method_9_code 50 = .ok (.iload_n 2, 1) := by decide +kernel
theorem dR_addLine_51 : decode prog_4_method_9_code 51 = .ok (.aload_n 0, 1) := by decide +kernel
theorem dR_addLine_52 : decode prog_4_method_9_code 52 = .ok (.getfield 25, 3) := by decide +kernel
theorem dR_addLine_55 : decode prog_4_method_9_code 55 = .ok (.iastore, 1) := by decide +kernel
theorem dR_addLine_56 : decode prog_4_method_9_code 56 = .ok (.aload_n 0, 1) := by decide +kernel
theorem dR_addLine_57 : decode prog_4_method_9_code 57 = .ok (.dup, 1) := by decide +kernel
theorem dR_addLine_58 : decode prog_4_method_9_code 58 = .ok (.getfield 25, 3) := by decide +kernel
theorem dR_addLine_61 : decode prog_4_method_9_code 61 = .ok (.iconst 1, 1) := by decide +kernel
theorem dR_addLine_62 : decode prog_4_method_9_code 62 = .ok (.iadd, 1) := by decide +kernel
theorem dR_addLine_63 : decode prog_4_method_9_code 63 = .ok (.putfield 25, 3) := by decide +kernel
theorem dR_addLine_66 : decode prog_4_method_9_code 66 = .ok (.aload_n 0, 1) := by decide +kernel
theorem dR_addLine_67 : decode prog_4_method_9_code 67 = .ok (.sipush 200, 3) := by decide +kernel
theorem dR_addLine_70 : decode prog_4_method_9_code 70 = .ok (.aload_n 0, 1) := by decide +kernel
theorem dR_addLine_71 : decode prog_4_method_9_code 71 = .ok (.getfield 22, 3) := by decide +kernel
theorem dR_addLine_74 : decode prog_4_method_9_code 74 = .ok (.iload_n 2, 1) := by decide +kernel
theorem dR_addLine_75 : decode prog_4_method_9_code 75 = .ok (.iaload, 1) := by decide +kernel
theorem dR_addLine_76 : decode prog_4_method_9_code 76 = .ok (.iadd, 1) := by decide +kernel
theorem dR_addLine_77 : decode prog_4_method_9_code 77 = .ok (.invokevirtual 61, 3) := by decide +kernel
theorem dR_addLine_80 : decode prog_4_method_9_code 80 = .ok (.return_, 1) := by decide +kernel
theorem dR_add_0 : decode prog_4_method_10_code 0 = .ok (.aload_n 0, 1) := by decide +kernel
theorem dR_add_1 : decode prog_4_method_10_code 1 = .ok (.getfield 15, 3) := by decide +kernel
theorem dR_add_4 : decode prog_4_method_10_code 4 = .ok (.aload_n 0, 1) := by decide +kernel
theorem dR_add_5 : decode prog_4_method_10_code 5 = .ok (.getfield 9, 3) := by decide +kernel
theorem dR_add_8 : decode prog_4_method_10_code 8 = .ok (.arraylength, 1) := by decide +kernel
theorem dR_add_9 : decode prog_4_method_10_code 9 = .ok (.if_icmp .ge 23, 3) := by decide +kernel
theorem dR_add_12 : decode prog_4_method_10_code 12 = .ok (.aload_n 0, 1) := by decide +kernel
theorem dR_add_13 : decode prog_4_method_10_code 13 = .ok (.getfield 9, 3) := by decide +kernel
theorem dR_add_16 : decode prog_4_method_10_code 16 = .ok (.aload_n 0, 1) := by decide +kernel
theorem dR_add_17 : decode prog_4_method_10_code 17 = .ok (.getfield 15, 3) := by decide +kernel
theorem dR_add_20 : decode prog_4_method_10_code 20 = .ok (.iload_n 1, 1) := by decide +kernel
theorem dR_add_21 : decode prog_4_method_10_code 21 = .ok (.iastore, 1) := by decide +kernel
theorem dR_add_22 : decode prog_4_method_10_code 22 = .ok (.aload_n 0, 1) := by decide +kernel
theorem dR_add_23 : decode prog_4_method_10_code 23 = .ok (.dup, 1) := by decide +kernel
theorem dR_add_24 : decode prog_4_method_10_code 24 = .ok (.getfield 15, 3) := by decide +kernel
theorem dR_add_27 : decode prog_4_method_10_code 27 = .ok (.iconst 1, 1) := by decide +kernel
theorem dR_add_28 : decode prog_4_method_10_code 28 = .ok (.iadd, 1) := by decide +kernel
theorem dR_add_29 : decode prog_4_method_10_code 29 = .ok (.putfield 15, 3) := by decide +kernel
theorem dR_add_32 : decode prog_4_method_10_code 32 = .ok (.return_, 1) := by decide +kernel
