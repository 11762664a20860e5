/-! printed by wip/whole/gen_names.py: decode rows -/
theorem dS_init_0 : decode prog_5_method_1_code 0 = .ok (.aload_n 0, 1) := by decide +kernel
theorem dS_init_1 : decode prog_5_method_1_code 1 = .ok (.invokespecial 3, 3) := by decide +kernel
theorem dS_init_4 : decode prog_5_method_1_code 4 = .ok (.aload_n 0, 1) := by decide +kernel
theorem dS_init_5 : decode prog_5_method_1_code 5 = .ok (.bipush 12, 2) := by decide +kernel
theorem dS_init_7 : decode prog_5_method_1_code 7 = .ok (.newarray .int, 2) := by decide +kernel
theorem dS_init_9 : decode prog_5_method_1_code 9 = .ok (.putfield 9, 3) := by decide +kernel
theorem dS_init_12 : decode prog_5_method_1_code 12 = .ok (.aload_n 0, 1) := by decide +kernel
theorem dS_init_13 : decode prog_5_method_1_code 13 = .ok (.bipush 13, 2) := by decide +kernel
theorem dS_init_15 : decode prog_5_method_1_code 15 = .ok (.newarray .int, 2) := by decide +kernel
theorem dS_init_17 : decode prog_5_method_1_code 17 = .ok (.putfield 15, 3) := by decide +kernel
theorem dS_init_20 : decode prog_5_method_1_code 20 = .ok (.aload_n 0, 1) := by decide +kernel
theorem dS_init_21 : decode prog_5_method_1_code 21 = .ok (.bipush 6, 2) := by decide +kernel
theorem dS_init_23 : decode prog_5_method_1_code 23 = .ok (.newarray .int, 2) := by decide +kernel
theorem dS_init_25 : decode prog_5_method_1_code 25 = .ok (.putfield 18, 3) := by decide +kernel
theorem dS_init_28 : decode prog_5_method_1_code 28 = .ok (.aload_n 0, 1) := by decide +kernel
theorem dS_init_29 : decode prog_5_method_1_code 29 = .ok (.bipush 12, 2) := by decide +kernel
theorem dS_init_31 : decode prog_5_method_1_code 31 = .ok (.newarray .int, 2) := by decide +kernel
theorem dS_init_33 : decode prog_5_method_1_code 33 = .ok (.putfield 21, 3) := by decide +kernel
theorem dS_init_36 : decode prog_5_method_1_code 36 = .ok (.aload_n 0, 1) := by decide +kernel
theorem dS_init_37 : decode prog_5_method_1_code 37 = .ok (.bipush 24, 2) := by decide +kernel
theorem dS_init_39 : decode prog_5_method_1_code 39 = .ok (.newarray .int, 2) := by decide +kernel
theorem dS_init_41 : decode prog_5_method_1_code 41 = .ok (.putfield 24, 3) := by decide +kernel
theorem dS_init_44 : decode prog_5_method_1_code 44 = .ok (.iconst 0, 1) := by decide +kernel
theorem dS_init_45 : decode prog_5_method_1_code 45 = .ok (.istore_n 1, 1) := by decide +kernel
theorem dS_init_46 : decode prog_5_method_1_code 46 = .ok (.iload_n 1, 1) := by decide +kernel
theorem dS_init_47 : decode prog_5_method_1_code 47 = .ok (.bipush 12, 2) := by decide +kernel
theorem dS_init_49 : decode prog_5_method_1_code 49 = .ok (.if_icmp .ge 16, 3) := by decide +kernel
theorem dS_init_52 : decode prog_5_method_1_code 52 = .ok (.aload_n 0, 1) := by decide +kernel
theorem dS_init_53 : decode prog_5_method_1_code 53 = .ok (.getfield 9, 3) := by decide +kernel
theorem dS_init_56 : decode prog_5_method_1_code 56 = .ok (.iload_n 1, 1) := by decide +kernel
theorem dS_init_57 : decode prog_5_method_1_code 57 = .ok (.iconst (-1), 1) := by decide +kernel
theorem dS_init_58 : decode prog_5_method_1_code 58 = .ok (.iastore, 1) := by decide +kernel
theorem dS_init_59 : decode prog_5_method_1_code 59 = .ok (.iinc 1 1, 3) := by decide +kernel
theorem dS_init_62 : decode prog_5_method_1_code 62 = .ok (.goto (-16), 3) := by decide +kernel
theorem dS_init_65 : decode prog_5_method_1_code 65 = .ok (.iconst 0, 1) := by decide +kernel
theorem dS_init_66 : decode prog_5_method_1_code 66 = .ok (.istore_n 1, 1) := by decide +kernel
theorem dS_init_67 : decode prog_5_method_1_code 67 = .ok (.iload_n 1, 1) := by decide +kernel
theorem dS_init_68 : decode prog_5_method_1_code 68 = .ok (.bipush 13, 2) := by decide +kernel
theorem dS_init_70 : decode prog_5_method_1_code 70 = .ok (.if_icmp .ge 16, 3) := by decide +kernel
theorem dS_init_73 : decode prog_5_method_1_code 73 = .ok (.aload_n 0, 1) := by decide +kernel
theorem dS_init_74 : decode prog_5_method_1_code 74 = .ok (.getfield 15, 3) := by decide +kernel
theorem dS_init_77 : decode prog_5_method_1_code 77 = .ok (.iload_n 1, 1) := by decide +kernel
theorem dS_init_78 : decode prog_5_method_1_code 78 = .ok (.iconst (-1), 1) := by decide +kernel
theorem dS_init_79 : decode prog_5_method_1_code 79 = .ok (.iastore, 1) := by decide +kernel
theorem dS_init_80 : decode prog_5_method_1_code 80 = .ok (.iinc 1 1, 3) := by decide +kernel
theorem dS_init_83 : decode prog_5_method_1_code 83 = .ok (.goto (-16), 3) := by decide +kernel
theorem dS_init_86 : decode prog_5_method_1_code 86 = .ok (.iconst 0, 1) := by decide +kernel
theorem dS_init_87 : decode prog_5_method_1_code 87 = .ok (.istore_n 1, 1) := by decide +kernel
theorem dS_init_88 : decode prog_5_method_1_code 88 = .ok (.iload_n 1, 1) := by decide +kernel
theorem dS_init_89 : decode prog_5_method_1_code 89 = .ok (.bipush 6, 2) := by decide +kernel
theorem dS_init_91 : decode prog_5_method_1_code 91 = .ok (.if_icmp .ge 16, 3) := by decide +kernel
theorem dS_init_94 : decode prog_5_method_1_code 94 = .ok (.aload_n 0, 1) := by decide +kernel
theorem dS_init_95 : decode prog_5_method_1_code 95 = .ok (.getfield 18, 3) := by decide +kernel
theorem dS_init_98 : decode prog_5_method_1_code 98 = .ok (.iload_n 1, 1) := by decide +kernel
theorem dS_init_99 : decode prog_5_method_1_code 99 = .ok (.iconst (-1), 1) := by decide +kernel
theorem dS_init_100 : decode prog_5_method_1_code 100 = .ok (.iastore, 1) := by decide +kernel
theorem dS_init_101 : decode prog_5_method_1_code 101 = .ok (.iinc 1 1, 3) := by decide +kernel
theorem dS_init_104 : decode prog_5_method_1_code 104 = .ok (.goto (-16), 3) := by decide +kernel
theorem dS_init_107 : decode prog_5_method_1_code 107 = .ok (.return_, 1) := by decide +kernel
theorem dS_takeOver_0 : decode prog_5_method_2_code 0 = .ok (.aload_n 1, 1) := by decide +kernel
theorem dS_takeOver_1 : decode prog_5_method_2_code 1 = .ok (.getfield 9, 3) := by decide +kernel
theorem dS_takeOver_4 : decode prog_5_method_2_code 4 = .ok (.iconst 0, 1) := by decide +kernel
theorem dS_takeOver_5 : decode prog_5_method_2_code 5 = .ok (.aload_n 0, 1) := by decide +kernel
theorem dS_takeOver_6 : decode prog_5_method_2_code 6 = .ok (.getfield 9, 3) := by decide +kernel
theorem dS_takeOver_9 : decode prog_5_method_2_code 9 = .ok (.iconst 0, 1) := by decide +kernel
theorem dS_takeOver_10 : decode prog_5_method_2_code 10 = .ok (.bipush 12, 2) := by decide +kernel
theorem dS_takeOver_12 : decode prog_5_method_2_code 12 = .ok (.invokestatic 27, 3) := by decide +kernel
theorem dS_takeOver_15 : decode prog_5_method_2_code 15 = .ok (.aload_n 1, 1) := by decide +kernel
theorem dS_takeOver_16 : decode prog_5_method_2_code 16 = .ok (.getfield 15, 3) := by decide +kernel
theorem dS_takeOver_19 : decode prog_5_method_2_code 19 = .ok (.iconst 0, 1) := by decide +kernel
theorem dS_takeOver_20 : decode prog_5_method_2_code 20 = .ok (.aload_n 0, 1) := by decide +kernel
theorem dS_takeOver_21 : decode prog_5_method_2_code 21 = .ok (.getfield 15, 3) := by decide +kernel
theorem dS_takeOver_24 : decode prog_5_method_2_code 24 = .ok (.iconst 0, 1) := by decide +kernel
theorem dS_takeOver_25 : decode prog_5_method_2_code 25 = .ok (.bipush 13, 2) := by decide +kernel
theorem dS_takeOver_27 : decode prog_5_method_2_code 27 = .ok (.invokestatic 27, 3) := by decide +kernel
theorem dS_takeOver_30 : decode prog_5_method_2_code 30 = .ok (.aload_n 1, 1) := by decide +kernel
theorem dS_takeOver_31 : decode prog_5_method_2_code 31 = .ok (.getfield 18, 3) := by decide +kernel
theorem dS_takeOver_34 : decode prog_5_method_2_code 34 = .ok (.iconst 0, 1) := by decide +kernel
theorem dS_takeOver_35 : decode prog_5_method_2_code 35 = .ok (.aload_n 0, 1) := by decide +kernel
theorem dS_takeOver_36 : decode prog_5_method_2_code 36 = .ok (.getfield 18, 3) := by decide +kernel
theorem dS_takeOver_39 : decode prog_5_method_2_code 39 = .ok (.iconst 0, 1) := by decide +kernel
theorem dS_takeOver_40 : decode prog_5_method_2_code 40 = .ok (.bipush 6, 2) := by decide +kernel
theorem dS_takeOver_42 : decode prog_5_method_2_code 42 = .ok (.invokestatic 27, 3) := by decide +kernel
theorem dS_takeOver_45 : decode prog_5_method_2_code 45 = .ok (.aload_n 1, 1) := by decide +kernel
theorem dS_takeOver_46 : decode prog_5_method_2_code 46 = .ok (.getfield 21, 3) := by decide +kernel
theorem dS_takeOver_49 : decode prog_5_method_2_code 49 = .ok (.iconst 0, 1) := by decide +kernel
theorem dS_takeOver_50 : decode prog_5_method_2_code 50 = .ok (.aload_n 0, 1) := by decide +kernel
theorem dS_takeOver_51 : decode prog_5_method_2_code 51 = .ok (.getfield 21, 3) := by decide +kernel
theorem dS_takeOver_54 : decode prog_5_method_2_code 54 = .ok (.iconst 0, 1) := by decide +kernel
theorem dS_takeOver_55 : decode prog_5_method_2_code 55 = .ok (.bipush 12, 2) := by decide +kernel
theorem dS_takeOver_57 : decode prog_5_method_2_code 57 = .ok (.invokestatic 27, 3) := by decide +kernel
theorem dS_takeOver_60 : decode prog_5_method_2_code 60 = .ok (.aload_n 1, 1) := by decide +kernel
theorem dS_takeOver_61 : decode prog_5_method_2_code 61 = .ok (.getfield 24, 3) := by decide +kernel
theorem dS_takeOver_64 : decode prog_5_method_2_code 64 = .ok (.iconst 0, 1) := by decide +kernel
theorem dS_takeOver_65 : decode prog_5_method_2_code 65 = .ok (.aload_n 0, 1) := by decide +kernel
theorem dS_takeOver_66 : decode prog_5_method_2_code 66 = .ok (.getfield 24, 3) := by decide +kernel
theorem dS_takeOver_69 : decode prog_5_method_2_code 69 = .ok (.iconst 0, 1) := by decide +kernel
theorem dS_takeOver_70 : decode prog_5_method_2_code 70 = .ok (.bipush 24, 2) := by decide +kernel
theorem dS_takeOver_72 : decode prog_5_method_2_code 72 = .ok (.invokestatic 27, 3) := by decide +kernel
theorem dS_takeOver_75 : decode prog_5_method_2_code 75 = .ok (.return_, 1) := by decide +kernel
theorem dS_areas_0 : decode prog_5_method_3_code 0 = .ok (.iload_n 1, 1) := by decide +kernel
theorem dS_areas_1 : decode prog_5_method_3_code 1 = .ok (.ifCond .ne 8, 3) := by decide +kernel
theorem dS_areas_4 : decode prog_5_method_3_code 4 = .ok (.aload_n 0, 1) := by decide +kernel
theorem dS_areas_5 : decode prog_5_method_3_code 5 = .ok (.getfield 9, 3) := by decide +kernel
theorem dS_areas_8 : decode prog_5_method_3_code 8 = .ok (.areturn, 1) := by decide +kernel
theorem dS_areas_9 : decode prog_5_method_3_code 9 = .ok (.iload_n 1, 1) := by decide +kernel
theorem dS_areas_10 : decode prog_5_method_3_code 10 = .ok (.iconst 1, 1) := by decide +kernel
theorem dS_areas_11 : decode prog_5_method_3_code 11 = .ok (.if_icmp .ne 10, 3) := by decide +kernel
theorem dS_areas_14 : decode prog_5_method_3_code 14 = .ok (.aload_n 0, 1) := by decide +kernel
theorem dS_areas_15 : decode prog_5_method_3_code 15 = .ok (.getfield 15, 3) := by decide +kernel
theorem dS_areas_18 : decode prog_5_method_3_code 18 = .ok (.goto 7, 3) := by decide +kernel
theorem dS_areas_21 : decode prog_5_method_3_code 21 = .ok (.aload_n 0, 1) := by decide +kernel
theorem dS_areas_22 : decode prog_5_method_3_code 22 = .ok (.getfield 18, 3) := by decide +kernel
theorem dS_areas_25 : decode prog_5_method_3_code 25 = .ok (.areturn, 1) := by decide +kernel
theorem dS_leastNumber_0 : decode prog_5_method_4_code 0 = .ok (.iload_n 1, 1) := by decide +kernel
theorem dS_leastNumber_1 : decode prog_5_method_4_code 1 = .ok (.iconst 1, 1) := by decide +kernel
theorem dS_leastNumber_2 : decode prog_5_method_4_code 2 = .ok (.if_icmp .ne 7, 3) := by decide +kernel
theorem dS_leastNumber_5 : decode prog_5_method_4_code 5 = .ok (.iconst 1, 1) := by decide +kernel
theorem dS_leastNumber_6 : decode prog_5_method_4_code 6 = .ok (.goto 4, 3) := by decide +kernel
theorem dS_leastNumber_9 : decode prog_5_method_4_code 9 = .ok (.iconst 0, 1) := by decide +kernel
theorem dS_leastNumber_10 : decode prog_5_method_4_code 10 = .ok (.ireturn, 1) := by decide +kernel
theorem dS_has_0 : decode prog_5_method_5_code 0 = .ok (.iload_n 1, 1) := by decide +kernel
theorem dS_has_1 : decode prog_5_method_5_code 1 = .ok (.ifCond .lt 37, 3) := by decide +kernel
theorem dS_has_4 : decode prog_5_method_5_code 4 = .ok (.iload_n 1, 1) := by decide +kernel
theorem dS_has_5 : decode prog_5_method_5_code 5 = .ok (.iconst 3, 1) := by decide +kernel
theorem dS_has_6 : decode prog_5_method_5_code 6 = .ok (.if_icmp .ge 32, 3) := by decide +kernel
theorem dS_has_9 : decode prog_5_method_5_code 9 = .ok (.iload_n 2, 1) := by decide +kernel
theorem dS_has_10 : decode prog_5_method_5_code 10 = .ok (.ifCond .lt 28, 3) := by decide +kernel
theorem dS_has_13 : decode prog_5_method_5_code 13 = .ok (.iload_n 2, 1) := by decide +kernel
theorem dS_has_14 : decode prog_5_method_5_code 14 = .ok (.aload_n 0, 1) := by decide +kernel
theorem dS_has_15 : decode prog_5_method_5_code 15 = .ok (.iload_n 1, 1) := by decide +kernel
theorem dS_has_16 : decode prog_5_method_5_code 16 = .ok (.invokevirtual 33, 3) := by decide +kernel
theorem dS_has_19 : decode prog_5_method_5_code 19 = .ok (.arraylength, 1) := by decide +kernel
theorem dS_has_20 : decode prog_5_method_5_code 20 = .ok (.if_icmp .ge 18, 3) := by decide +kernel
theorem dS_has_23 : decode prog_5_method_5_code 23 = .ok (.aload_n 0, 1) := by decide +kernel
theorem dS_has_24 : decode prog_5_method_5_code 24 = .ok (.iload_n 1, 1) := by decide +kernel
theorem dS_has_25 : decode prog_5_method_5_code 25 = .ok (.invokevirtual 33, 3) := by decide +kernel
theorem dS_has_28 : decode prog_5_method_5_code 28 = .ok (.iload_n 2, 1) := by decide +kernel
theorem dS_has_29 : decode prog_5_method_5_code 29 = .ok (.iaload, 1) := by decide +kernel
theorem dS_has_30 : decode prog_5_method_5_code 30 = .ok (.iconst (-1), 1) := by decide +kernel
theorem dS_has_31 : decode prog_5_method_5_code 31 = .ok (.if_icmp .eq 7, 3) := by decide +kernel
theorem dS_has_34 : decode prog_5_method_5_code 34 = .ok (.iconst 1, 1) := by decide +kernel
theorem dS_has_35 : decode prog_5_method_5_code 35 = .ok (.goto 4, 3) := by decide +kernel
theorem dS_has_38 : decode prog_5_method_5_code 38 = .ok (.iconst 0, 1) := by decide +kernel
theorem dS_has_39 : decode prog_5_method_5_code 39 = .ok (.ireturn, 1) := by decide +kernel
theorem dS_hasPart_0 : decode prog_5_method_6_code 0 = .ok (.iload_n 1, 1) := by decide +kernel
theorem dS_hasPart_1 : decode prog_5_method_6_code 1 = .ok (.iconst 2, 1) := by decide +kernel
theorem dS_hasPart_2 : decode prog_5_method_6_code 2 = .ok (.if_icmp .eq 16, 3) := by decide +kernel
theorem dS_hasPart_5 : decode prog_5_method_6_code 5 = .ok (.aload_n 0, 1) := by decide +kernel
theorem dS_hasPart_6 : decode prog_5_method_6_code 6 = .ok (.iload_n 1, 1) := by decide +kernel
theorem dS_hasPart_7 : decode prog_5_method_6_code 7 = .ok (.iload_n 2, 1) := by decide +kernel
theorem dS_hasPart_8 : decode prog_5_method_6_code 8 = .ok (.invokevirtual 37, 3) := by decide +kernel
theorem dS_hasPart_11 : decode prog_5_method_6_code 11 = .ok (.ifCond .eq 7, 3) := by decide +kernel
theorem dS_hasPart_14 : decode prog_5_method_6_code 14 = .ok (.iconst 1, 1) := by decide +kernel
theorem dS_hasPart_15 : decode prog_5_method_6_code 15 = .ok (.goto 4, 3) := by decide +kernel
theorem dS_hasPart_18 : decode prog_5_method_6_code 18 = .ok (.iconst 0, 1) := by decide +kernel
theorem dS_hasPart_19 : decode prog_5_method_6_code 19 = .ok (.ireturn, 1) := by decide +kernel
theorem dS_hasArea_0 : decode prog_5_method_7_code 0 = .ok (.iload_n 1, 1) := by decide +kernel
theorem dS_hasArea_1 : decode prog_5_method_7_code 1 = .ok (.ifCond .eq 12, 3) := by decide +kernel
theorem dS_hasArea_4 : decode prog_5_method_7_code 4 = .ok (.aload_n 0, 1) := by decide +kernel
theorem dS_hasArea_5 : decode prog_5_method_7_code 5 = .ok (.iconst 1, 1) := by decide +kernel
theorem dS_hasArea_6 : decode prog_5_method_7_code 6 = .ok (.iload_n 1, 1) := by decide +kernel
theorem dS_hasArea_7 : decode prog_5_method_7_code 7 = .ok (.invokevirtual 37, 3) := by decide +kernel
theorem dS_hasArea_10 : decode prog_5_method_7_code 10 = .ok (.ifCond .eq 7, 3) := by decide +kernel
theorem dS_hasArea_13 : decode prog_5_method_7_code 13 = .ok (.iconst 1, 1) := by decide +kernel
theorem dS_hasArea_14 : decode prog_5_method_7_code 14 = .ok (.goto 4, 3) := by decide +kernel
theorem dS_hasArea_17 : decode prog_5_method_7_code 17 = .ok (.iconst 0, 1) := by decide +kernel
theorem dS_hasArea_18 : decode prog_5_method_7_code 18 = .ok (.ireturn, 1) := by decide +kernel
theorem dS_areaOf_0 : decode prog_5_method_8_code 0 = .ok (.aload_n 0, 1) := by decide +kernel
theorem dS_areaOf_1 : decode prog_5_method_8_code 1 = .ok (.iload_n 1, 1) := by decide +kernel
theorem dS_areaOf_2 : decode prog_5_method_8_code 2 = .ok (.iload_n 2, 1) := by decide +kernel
theorem dS_areaOf_3 : decode prog_5_method_8_code 3 = .ok (.invokevirtual 37, 3) := by decide +kernel
theorem dS_areaOf_6 : decode prog_5_method_8_code 6 = .ok (.ifCond .eq 13, 3) := by decide +kernel
theorem dS_areaOf_9 : decode prog_5_method_8_code 9 = .ok (.aload_n 0, 1) := by decide +kernel
theorem dS_areaOf_10 : decode prog_5_method_8_code 10 = .ok (.iload_n 1, 1) := by decide +kernel
theorem dS_areaOf_11 : decode prog_5_method_8_code 11 = .ok (.invokevirtual 33, 3) := by decide +kernel
theorem dS_areaOf_14 : decode prog_5_method_8_code 14 = .ok (.iload_n 2, 1) := by decide +kernel
theorem dS_areaOf_15 : decode prog_5_method_8_code 15 = .ok (.iaload, 1) := by decide +kernel
theorem dS_areaOf_16 : decode prog_5_method_8_code 16 = .ok (.goto 4, 3) := by decide +kernel
theorem dS_areaOf_19 : decode prog_5_method_8_code 19 = .ok (.iconst (-1), 1) := by decide +kernel
theorem dS_areaOf_20 : decode prog_5_method_8_code 20 = .ok (.ireturn, 1) := by decide +kernel
theorem dS_howMany_0 : decode prog_5_method_9_code 0 = .ok (.aload_n 0, 1) := by decide +kernel
theorem dS_howMany_1 : decode prog_5_method_9_code 1 = .ok (.iload_n 1, 1) := by decide +kernel
theorem dS_howMany_2 : decode prog_5_method_9_code 2 = .ok (.sipush 8191, 3) := by decide +kernel
theorem dS_howMany_5 : decode prog_5_method_9_code 5 = .ok (.invokevirtual 41, 3) := by decide +kernel
theorem dS_howMany_8 : decode prog_5_method_9_code 8 = .ok (.ireturn, 1) := by decide +kernel
theorem dS_free_0 : decode prog_5_method_10_code 0 = .ok (.aload_n 0, 1) := by decide +kernel
theorem dS_free_1 : decode prog_5_method_10_code 1 = .ok (.iload_n 1, 1) := by decide +kernel
theorem dS_free_2 : decode prog_5_method_10_code 2 = .ok (.invokevirtual 33, 3) := by decide +kernel
theorem dS_free_5 : decode prog_5_method_10_code 5 = .ok (.arraylength, 1) := by decide +kernel
theorem dS_free_6 : decode prog_5_method_10_code 6 = .ok (.aload_n 0, 1) := by decide +kernel
theorem dS_free_7 : decode prog_5_method_10_code 7 = .ok (.iload_n 1, 1) := by decide +kernel
theorem dS_free_8 : decode prog_5_method_10_code 8 = .ok (.invokevirtual 45, 3) := by decide +kernel
theorem dS_free_11 : decode prog_5_method_10_code 11 = .ok (.isub, 1) := by decide +kernel
theorem dS_free_12 : decode prog_5_method_10_code 12 = .ok (.aload_n 0, 1) := by decide +kernel
theorem dS_free_13 : decode prog_5_method_10_code 13 = .ok (.iload_n 1, 1) := by decide +kernel
theorem dS_free_14 : decode prog_5_method_10_code 14 = .ok (.invokevirtual 49, 3) := by decide +kernel
theorem dS_free_17 : decode prog_5_method_10_code 17 = .ok (.isub, 1) := by decide +kernel
theorem dS_free_18 : decode prog_5_method_10_code 18 = .ok (.ireturn, 1) := by decide +kernel
theorem dS_howManyIn_0 : decode prog_5_method_11_code 0 = .ok (.iconst 0, 1) := by decide +kernel
theorem dS_howManyIn_1 : decode prog_5_method_11_code 1 = .ok (.istore_n 3, 1) := by decide +kernel
theorem dS_howManyIn_2 : decode prog_5_method_11_code 2 = .ok (.iconst 0, 1) := by decide +kernel
theorem dS_howManyIn_3 : decode prog_5_method_11_code 3 = .ok (.istore 4, 2) := by decide +kernel
theorem dS_howManyIn_5 : decode prog_5_method_11_code 5 = .ok (.iload 4, 2) := by decide +kernel
theorem dS_howManyIn_7 : decode prog_5_method_11_code 7 = .ok (.aload_n 0, 1) := by decide +kernel
theorem dS_howManyIn_8 : decode prog_5_method_11_code 8 = .ok (.iload_n 1, 1) := by decide +kernel
theorem dS_howManyIn_9 : decode prog_5_method_11_code 9 = .ok (.invokevirtual 33, 3) := by decide +kernel
theorem dS_howManyIn_12 : decode prog_5_method_11_code 12 = .ok (.arraylength, 1) := by decide +kernel
theorem dS_howManyIn_13 : decode prog_5_method_11_code 13 = .ok (.if_icmp .ge 27, 3) := by decide +kernel
theorem dS_howManyIn_16 : decode prog_5_method_11_code 16 = .ok (.iload_n 2, 1) := by decide +kernel
theorem dS_howManyIn_17 : decode prog_5_method_11_code 17 = .ok (.aload_n 0, 1) := by decide +kernel
theorem dS_howManyIn_18 : decode prog_5_method_11_code 18 = .ok (.iload_n 1, 1) := by decide +kernel
theorem dS_howManyIn_19 : decode prog_5_method_11_code 19 = .ok (.invokevirtual 33, 3) := by decide +kernel
theorem dS_howManyIn_22 : decode prog_5_method_11_code 22 = .ok (.iload 4, 2) := by decide +kernel
theorem dS_howManyIn_24 : decode prog_5_method_11_code 24 = .ok (.iaload, 1) := by decide +kernel
theorem dS_howManyIn_25 : decode prog_5_method_11_code 25 = .ok (.invokestatic 52, 3) := by decide +kernel
theorem dS_howManyIn_28 : decode prog_5_method_11_code 28 = .ok (.ifCond .eq 6, 3) := by decide +kernel
theorem dS_howManyIn_31 : decode prog_5_method_11_code 31 = .ok (.iinc 3 1, 3) := by decide +kernel
theorem dS_howManyIn_34 : decode prog_5_method_11_code 34 = .ok (.iinc 4 1, 3) := by decide +kernel
theorem dS_howManyIn_37 : decode prog_5_method_11_code 37 = .ok (.goto (-32), 3) := by decide +kernel
theorem dS_howManyIn_40 : decode prog_5_method_11_code 40 = .ok (.iload_n 3, 1) := by decide +kernel
theorem dS_howManyIn_41 : decode prog_5_method_11_code 41 = .ok (.ireturn, 1) := by decide +kernel
theorem dS_depthOf_0 : decode prog_5_method_12_code 0 = .ok (.iconst 0, 1) := by decide +kernel
theorem dS_depthOf_1 : decode prog_5_method_12_code 1 = .ok (.istore_n 2, 1) := by decide +kernel
theorem dS_depthOf_2 : decode prog_5_method_12_code 2 = .ok (.aload_n 0, 1) := by decide +kernel
theorem dS_depthOf_3 : decode prog_5_method_12_code 3 = .ok (.iconst 1, 1) := by decide +kernel
theorem dS_depthOf_4 : decode prog_5_method_12_code 4 = .ok (.iload_n 1, 1) := by decide +kernel
theorem dS_depthOf_5 : decode prog_5_method_12_code 5 = .ok (.invokevirtual 55, 3) := by decide +kernel
theorem dS_depthOf_8 : decode prog_5_method_12_code 8 = .ok (.istore_n 3, 1) := by decide +kernel
theorem dS_depthOf_9 : decode prog_5_method_12_code 9 = .ok (.iload_n 3, 1) := by decide +kernel
theorem dS_depthOf_10 : decode prog_5_method_12_code 10 = .ok (.iconst (-1), 1) := by decide +kernel
theorem dS_depthOf_11 : decode prog_5_method_12_code 11 = .ok (.if_icmp .eq 22, 3) := by decide +kernel
theorem dS_depthOf_14 : decode prog_5_method_12_code 14 = .ok (.iload_n 2, 1) := by decide +kernel
theorem dS_depthOf_15 : decode prog_5_method_12_code 15 = .ok (.bipush 12, 2) := by decide +kernel
theorem dS_depthOf_17 : decode prog_5_method_12_code 17 = .ok (.if_icmp .ge 16, 3) := by decide +kernel
theorem dS_depthOf_20 : decode prog_5_method_12_code 20 = .ok (.iinc 2 1, 3) := by decide +kernel
theorem dS_depthOf_23 : decode prog_5_method_12_code 23 = .ok (.aload_n 0, 1) := by decide +kernel
theorem dS_depthOf_24 : decode prog_5_method_12_code 24 = .ok (.getfield 15, 3) := by decide +kernel
theorem dS_depthOf_27 : decode prog_5_method_12_code 27 = .ok (.iload_n 3, 1) := by decide +kernel
theorem dS_depthOf_28 : decode prog_5_method_12_code 28 = .ok (.iaload, 1) := by decide +kernel
theorem dS_depthOf_29 : decode prog_5_method_12_code 29 = .ok (.istore_n 3, 1) := by decide +kernel
theorem dS_depthOf_30 : decode prog_5_method_12_code 30 = .ok (.goto (-21), 3) := by decide +kernel
theorem dS_depthOf_33 : decode prog_5_method_12_code 33 = .ok (.iload_n 2, 1) := by decide +kernel
theorem dS_depthOf_34 : decode prog_5_method_12_code 34 = .ok (.ireturn, 1) := by decide +kernel
theorem dS_isOdd_0 : decode prog_5_method_13_code 0 = .ok (.aload_n 0, 1) := by decide +kernel
theorem dS_isOdd_1 : decode prog_5_method_13_code 1 = .ok (.iload_n 1, 1) := by decide +kernel
theorem dS_isOdd_2 : decode prog_5_method_13_code 2 = .ok (.invokevirtual 58, 3) := by decide +kernel
theorem dS_isOdd_5 : decode prog_5_method_13_code 5 = .ok (.iconst 2, 1) := by decide +kernel
theorem dS_isOdd_6 : decode prog_5_method_13_code 6 = .ok (.irem, 1) := by decide +kernel
theorem dS_isOdd_7 : decode prog_5_method_13_code 7 = .ok (.iconst 1, 1) := by decide +kernel
theorem dS_isOdd_8 : decode prog_5_method_13_code 8 = .ok (.if_icmp .ne 7, 3) := by decide +kernel
theorem dS_isOdd_11 : decode prog_5_method_13_code 11 = .ok (.iconst 1, 1) := by decide +kernel
theorem dS_isOdd_12 : decode prog_5_method_13_code 12 = .ok (.goto 4, 3) := by decide +kernel
theorem dS_isOdd_15 : decode prog_5_method_13_code 15 = .ok (.iconst 0, 1) := by decide +kernel
theorem dS_isOdd_16 : decode prog_5_method_13_code 16 = .ok (.ireturn, 1) := by decide +kernel
theorem dS_isWithin_0 : decode prog_5_method_14_code 0 = .ok (.iload_n 1, 1) := by decide +kernel
theorem dS_isWithin_1 : decode prog_5_method_14_code 1 = .ok (.istore_n 3, 1) := by decide +kernel
theorem dS_isWithin_2 : decode prog_5_method_14_code 2 = .ok (.iconst 0, 1) := by decide +kernel
theorem dS_isWithin_3 : decode prog_5_method_14_code 3 = .ok (.istore 4, 2) := by decide +kernel
theorem dS_isWithin_5 : decode prog_5_method_14_code 5 = .ok (.iload 4, 2) := by decide +kernel
theorem dS_isWithin_7 : decode prog_5_method_14_code 7 = .ok (.bipush 13, 2) := by decide +kernel
theorem dS_isWithin_9 : decode prog_5_method_14_code 9 = .ok (.if_icmp .ge 28, 3) := by decide +kernel
theorem dS_isWithin_12 : decode prog_5_method_14_code 12 = .ok (.iload_n 3, 1) := by decide +kernel
theorem dS_isWithin_13 : decode prog_5_method_14_code 13 = .ok (.iconst (-1), 1) := by decide +kernel
theorem dS_isWithin_14 : decode prog_5_method_14_code 14 = .ok (.if_icmp .eq 23, 3) := by decide +kernel
theorem dS_isWithin_17 : decode prog_5_method_14_code 17 = .ok (.iload_n 3, 1) := by decide +kernel
theorem dS_isWithin_18 : decode prog_5_method_14_code 18 = .ok (.iload_n 2, 1) := by decide +kernel
theorem dS_isWithin_19 : decode prog_5_method_14_code 19 = .ok (.if_icmp .ne 5, 3) := by decide +kernel
theorem dS_isWithin_22 : decode prog_5_method_14_code 22 = .ok (.iconst 1, 1) := by decide +kernel
theorem dS_isWithin_23 : decode prog_5_method_14_code 23 = .ok (.ireturn, 1) := by decide +kernel
theorem dS_isWithin_24 : decode prog_5_method_14_code 24 = .ok (.aload_n 0, 1) := by decide +kernel
theorem dS_isWithin_25 : decode prog_5_method_14_code 25 = .ok (.getfield 15, 3) := by decide +kernel
theorem dS_isWithin_28 : decode prog_5_method_14_code 28 = .ok (.iload_n 3, 1) := by decide +kernel
theorem dS_isWithin_29 : decode prog_5_method_14_code 29 = .ok (.iaload, 1) := by decide +kernel
theorem dS_isWithin_30 : decode prog_5_method_14_code 30 = .ok (.istore_n 3, 1) := by decide +kernel
theorem dS_isWithin_31 : decode prog_5_method_14_code 31 = .ok (.iinc 4 1, 3) := by decide +kernel
theorem dS_isWithin_34 : decode prog_5_method_14_code 34 = .ok (.goto (-29), 3) := by decide +kernel
theorem dS_isWithin_37 : decode prog_5_method_14_code 37 = .ok (.iconst 0, 1) := by decide +kernel
theorem dS_isWithin_38 : decode prog_5_method_14_code 38 = .ok (.ireturn, 1) := by decide +kernel
theorem dS_areasWithin_0 : decode prog_5_method_15_code 0 = .ok (.iconst 0, 1) := by decide +kernel
theorem dS_areasWithin_1 : decode prog_5_method_15_code 1 = .ok (.istore_n 2, 1) := by decide +kernel
theorem dS_areasWithin_2 : decode prog_5_method_15_code 2 = .ok (.iconst 0, 1) := by decide +kernel
theorem dS_areasWithin_3 : decode prog_5_method_15_code 3 = .ok (.istore_n 3, 1) := by decide +kernel
theorem dS_areasWithin_4 : decode prog_5_method_15_code 4 = .ok (.iload_n 3, 1) := by decide +kernel
theorem dS_areasWithin_5 : decode prog_5_method_15_code 5 = .ok (.bipush 13, 2) := by decide +kernel
theorem dS_areasWithin_7 : decode prog_5_method_15_code 7 = .ok (.if_icmp .ge 32, 3) := by decide +kernel
theorem dS_areasWithin_10 : decode prog_5_method_15_code 10 = .ok (.aload_n 0, 1) := by decide +kernel
theorem dS_areasWithin_11 : decode prog_5_method_15_code 11 = .ok (.iload_n 3, 1) := by decide +kernel
theorem dS_areasWithin_12 : decode prog_5_method_15_code 12 = .ok (.invokevirtual 61, 3) := by decide +kernel
theorem dS_areasWithin_15 : decode prog_5_method_15_code 15 = .ok (.ifCond .eq 18, 3) := by decide +kernel
theorem dS_areasWithin_18 : decode prog_5_method_15_code 18 = .ok (.aload_n 0, 1) := by decide +kernel
theorem dS_areasWithin_19 : decode prog_5_method_15_code 19 = .ok (.iload_n 3, 1) := by decide +kernel
theorem dS_areasWithin_20 : decode prog_5_method_15_code 20 = .ok (.iload_n 1, 1) := by decide +kernel
theorem dS_areasWithin_21 : decode prog_5_method_15_code 21 = .ok (.invokevirtual 65, 3) := by decide +kernel
theorem dS_areasWithin_24 : decode prog_5_method_15_code 24 = .ok (.ifCond .eq 9, 3) := by decide +kernel
theorem dS_areasWithin_27 : decode prog_5_method_15_code 27 = .ok (.iload_n 2, 1) := by decide +kernel
theorem dS_areasWithin_28 : decode prog_5_method_15_code 28 = .ok (.iconst 1, 1) := by decide +kernel
theorem dS_areasWithin_29 : decode prog_5_method_15_code 29 = .ok (.iload_n 3, 1) := by decide +kernel
theorem dS_areasWithin_30 : decode prog_5_method_15_code 30 = .ok (.ishl, 1) := by decide +kernel
theorem dS_areasWithin_31 : decode prog_5_method_15_code 31 = .ok (.ior, 1) := by decide +kernel
theorem dS_areasWithin_32 : decode prog_5_method_15_code 32 = .ok (.istore_n 2, 1) := by decide +kernel
theorem dS_areasWithin_33 : decode prog_5_method_15_code 33 = .ok (.iinc 3 1, 3) := by decide +kernel
theorem dS_areasWithin_36 : decode prog_5_method_15_code 36 = .ok (.goto (-32), 3) := by decide +kernel
theorem dS_areasWithin_39 : decode prog_5_method_15_code 39 = .ok (.iload_n 2, 1) := by decide +kernel
theorem dS_areasWithin_40 : decode prog_5_method_15_code 40 = .ok (.ireturn, 1) := by decide +kernel
theorem dS_reaches_0 : decode prog_5_method_16_code 0 = .ok (.aload_n 0, 1) := by decide +kernel
theorem dS_reaches_1 : decode prog_5_method_16_code 1 = .ok (.iconst 2, 1) := by decide +kernel
theorem dS_reaches_2 : decode prog_5_method_16_code 2 = .ok (.iload_n 1, 1) := by decide +kernel
theorem dS_reaches_3 : decode prog_5_method_16_code 3 = .ok (.invokevirtual 37, 3) := by decide +kernel
theorem dS_reaches_6 : decode prog_5_method_16_code 6 = .ok (.ifCond .eq 21, 3) := by decide +kernel
theorem dS_reaches_9 : decode prog_5_method_16_code 9 = .ok (.aload_n 0, 1) := by decide +kernel
theorem dS_reaches_10 : decode prog_5_method_16_code 10 = .ok (.iload_n 2, 1) := by decide +kernel
theorem dS_reaches_11 : decode prog_5_method_16_code 11 = .ok (.aload_n 0, 1) := by decide +kernel
theorem dS_reaches_12 : decode prog_5_method_16_code 12 = .ok (.getfield 18, 3) := by decide +kernel
theorem dS_reaches_15 : decode prog_5_method_16_code 15 = .ok (.iload_n 1, 1) := by decide +kernel
theorem dS_reaches_16 : decode prog_5_method_16_code 16 = .ok (.iaload, 1) := by decide +kernel
theorem dS_reaches_17 : decode prog_5_method_16_code 17 = .ok (.invokevirtual 65, 3) := by decide +kernel
theorem dS_reaches_20 : decode prog_5_method_16_code 20 = .ok (.ifCond .eq 7, 3) := by decide +kernel
theorem dS_reaches_23 : decode prog_5_method_16_code 23 = .ok (.iconst 1, 1) := by decide +kernel
theorem dS_reaches_24 : decode prog_5_method_16_code 24 = .ok (.goto 4, 3) := by decide +kernel
theorem dS_reaches_27 : decode prog_5_method_16_code 27 = .ok (.iconst 0, 1) := by decide +kernel
theorem dS_reaches_28 : decode prog_5_method_16_code 28 = .ok (.ireturn, 1) := by decide +kernel
theorem dS_isHooked_0 : decode prog_5_method_17_code 0 = .ok (.iconst 0, 1) := by decide +kernel
theorem dS_isHooked_1 : decode prog_5_method_17_code 1 = .ok (.istore_n 2, 1) := by decide +kernel
theorem dS_isHooked_2 : decode prog_5_method_17_code 2 = .ok (.iload_n 2, 1) := by decide +kernel
theorem dS_isHooked_3 : decode prog_5_method_17_code 3 = .ok (.bipush 12, 2) := by decide +kernel
theorem dS_isHooked_5 : decode prog_5_method_17_code 5 = .ok (.if_icmp .ge 47, 3) := by decide +kernel
theorem dS_isHooked_8 : decode prog_5_method_17_code 8 = .ok (.aload_n 0, 1) := by decide +kernel
theorem dS_isHooked_9 : decode prog_5_method_17_code 9 = .ok (.getfield 9, 3) := by decide +kernel
theorem dS_isHooked_12 : decode prog_5_method_17_code 12 = .ok (.iload_n 2, 1) := by decide +kernel
theorem dS_isHooked_13 : decode prog_5_method_17_code 13 = .ok (.iaload, 1) := by decide +kernel
theorem dS_isHooked_14 : decode prog_5_method_17_code 14 = .ok (.iconst (-1), 1) := by decide +kernel
theorem dS_isHooked_15 : decode prog_5_method_17_code 15 = .ok (.if_icmp .eq 31, 3) := by decide +kernel
theorem dS_isHooked_18 : decode prog_5_method_17_code 18 = .ok (.aload_n 0, 1) := by decide +kernel
theorem dS_isHooked_19 : decode prog_5_method_17_code 19 = .ok (.getfield 24, 3) := by decide +kernel
theorem dS_isHooked_22 : decode prog_5_method_17_code 22 = .ok (.iconst 2, 1) := by decide +kernel
theorem dS_isHooked_23 : decode prog_5_method_17_code 23 = .ok (.iload_n 2, 1) := by decide +kernel
theorem dS_isHooked_24 : decode prog_5_method_17_code 24 = .ok (.imul, 1) := by decide +kernel
theorem dS_isHooked_25 : decode prog_5_method_17_code 25 = .ok (.iaload, 1) := by decide +kernel
theorem dS_isHooked_26 : decode prog_5_method_17_code 26 = .ok (.iload_n 1, 1) := by decide +kernel
theorem dS_isHooked_27 : decode prog_5_method_17_code 27 = .ok (.if_icmp .eq 17, 3) := by decide +kernel
theorem dS_isHooked_30 : decode prog_5_method_17_code 30 = .ok (.aload_n 0, 1) := by decide +kernel
theorem dS_isHooked_31 : decode prog_5_method_17_code 31 = .ok (.getfield 24, 3) := by decide +kernel
theorem dS_isHooked_34 : decode prog_5_method_17_code 34 = .ok (.iconst 2, 1) := by decide +kernel
theorem dS_isHooked_35 : decode prog_5_method_17_code 35 = .ok (.iload_n 2, 1) := by decide +kernel
theorem dS_isHooked_36 : decode prog_5_method_17_code 36 = .ok (.imul, 1) := by decide +kernel
theorem dS_isHooked_37 : decode prog_5_method_17_code 37 = .ok (.iconst 1, 1) := by decide +kernel
theorem dS_isHooked_38 : decode prog_5_method_17_code 38 = .ok (.iadd, 1) := by decide +kernel
theorem dS_isHooked_39 : decode prog_5_method_17_code 39 = .ok (.iaload, 1) := by decide +kernel
theorem dS_isHooked_40 : decode prog_5_method_17_code 40 = .ok (.iload_n 1, 1) := by decide +kernel
theorem dS_isHooked_41 : decode prog_5_method_17_code 41 = .ok (.if_icmp .ne 5, 3) := by decide +kernel
theorem dS_isHooked_44 : decode prog_5_method_17_code 44 = .ok (.iconst 1, 1) := by decide +kernel
theorem dS_isHooked_45 : decode prog_5_method_17_code 45 = .ok (.ireturn, 1) := by decide +kernel
theorem dS_isHooked_46 : decode prog_5_method_17_code 46 = .ok (.iinc 2 1, 3) := by decide +kernel
theorem dS_isHooked_49 : decode prog_5_method_17_code 49 = .ok (.goto (-47), 3) := by decide +kernel
theorem dS_isHooked_52 : decode prog_5_method_17_code 52 = .ok (.iconst 0, 1) := by decide +kernel
theorem dS_isHooked_53 : decode prog_5_method_17_code 53 = .ok (.ireturn, 1) := by decide +kernel
theorem dS_add_0 : decode prog_5_method_18_code 0 = .ok (.aload_n 0, 1) := by decide +kernel
theorem dS_add_1 : decode prog_5_method_18_code 1 = .ok (.iload_n 1, 1) := by decide +kernel
theorem dS_add_2 : decode prog_5_method_18_code 2 = .ok (.invokevirtual 33, 3) := by decide +kernel
theorem dS_add_5 : decode prog_5_method_18_code 5 = .ok (.astore_n 3, 1) := by decide +kernel
theorem dS_add_6 : decode prog_5_method_18_code 6 = .ok (.aload_n 0, 1) := by decide +kernel
theorem dS_add_7 : decode prog_5_method_18_code 7 = .ok (.iload_n 1, 1) := by decide +kernel
theorem dS_add_8 : decode prog_5_method_18_code 8 = .ok (.invokevirtual 45, 3) := by decide +kernel
theorem dS_add_11 : decode prog_5_method_18_code 11 = .ok (.istore 4, 2) := by decide +kernel
theorem dS_add_13 : decode prog_5_method_18_code 13 = .ok (.iload 4, 2) := by decide +kernel
theorem dS_add_15 : decode prog_5_method_18_code 15 = .ok (.aload_n 3, 1) := by decide +kernel
theorem dS_add_16 : decode prog_5_method_18_code 16 = .ok (.arraylength, 1) := by decide +kernel
theorem dS_add_17 : decode prog_5_method_18_code 17 = .ok (.if_icmp .ge 25, 3) := by decide +kernel
theorem dS_add_20 : decode prog_5_method_18_code 20 = .ok (.aload_n 3, 1) := by decide +kernel
theorem dS_add_21 : decode prog_5_method_18_code 21 = .ok (.iload 4, 2) := by decide +kernel
theorem dS_add_23 : decode prog_5_method_18_code 23 = .ok (.iaload, 1) := by decide +kernel
theorem dS_add_24 : decode prog_5_method_18_code 24 = .ok (.iconst (-1), 1) := by decide +kernel
theorem dS_add_25 : decode prog_5_method_18_code 25 = .ok (.if_icmp .ne 11, 3) := by decide +kernel
theorem dS_add_28 : decode prog_5_method_18_code 28 = .ok (.aload_n 3, 1) := by decide +kernel
theorem dS_add_29 : decode prog_5_method_18_code 29 = .ok (.iload 4, 2) := by decide +kernel
theorem dS_add_31 : decode prog_5_method_18_code 31 = .ok (.iload_n 2, 1) := by decide +kernel
theorem dS_add_32 : decode prog_5_method_18_code 32 = .ok (.iastore, 1) := by decide +kernel
theorem dS_add_33 : decode prog_5_method_18_code 33 = .ok (.iload 4, 2) := by decide +kernel
theorem dS_add_35 : decode prog_5_method_18_code 35 = .ok (.ireturn, 1) := by decide +kernel
theorem dS_add_36 : decode prog_5_method_18_code 36 = .ok (.iinc 4 1, 3) := by decide +kernel
theorem dS_add_39 : decode prog_5_method_18_code 39 = .ok (.goto (-26), 3) := by decide +kernel
theorem dS_add_42 : decode prog_5_method_18_code 42 = .ok (.iconst (-1), 1) := by decide +kernel
theorem dS_add_43 : decode prog_5_method_18_code 43 = .ok (.ireturn, 1) := by decide +kernel
theorem dS_addSpot_0 : decode prog_5_method_19_code 0 = .ok (.aload_n 0, 1) := by decide +kernel
theorem dS_addSpot_1 : decode prog_5_method_19_code 1 = .ok (.iconst 0, 1) := by decide +kernel
theorem dS_addSpot_2 : decode prog_5_method_19_code 2 = .ok (.iload_n 1, 1) := by decide +kernel
theorem dS_addSpot_3 : decode prog_5_method_19_code 3 = .ok (.invokevirtual 68, 3) := by decide +kernel
theorem dS_addSpot_6 : decode prog_5_method_19_code 6 = .ok (.istore 5, 2) := by decide +kernel
theorem dS_addSpot_8 : decode prog_5_method_19_code 8 = .ok (.iload 5, 2) := by decide +kernel
theorem dS_addSpot_10 : decode prog_5_method_19_code 10 = .ok (.iconst (-1), 1) := by decide +kernel
theorem dS_addSpot_11 : decode prog_5_method_19_code 11 = .ok (.if_icmp .eq 34, 3) := by decide +kernel
theorem dS_addSpot_14 : decode prog_5_method_19_code 14 = .ok (.aload_n 0, 1) := by decide +kernel
theorem dS_addSpot_15 : decode prog_5_method_19_code 15 = .ok (.getfield 21, 3) := by decide +kernel
theorem dS_addSpot_18 : decode prog_5_method_19_code 18 = .ok (.iload 5, 2) := by decide +kernel
theorem dS_addSpot_20 : decode prog_5_method_19_code 20 = .ok (.iload_n 2, 1) := by decide +kernel
theorem dS_addSpot_21 : decode prog_5_method_19_code 21 = .ok (.iastore, 1) := by decide +kernel
theorem dS_addSpot_22 : decode prog_5_method_19_code 22 = .ok (.aload_n 0, 1) := by decide +kernel
theorem dS_addSpot_23 : decode prog_5_method_19_code 23 = .ok (.getfield 24, 3) := by decide +kernel
theorem dS_addSpot_26 : decode prog_5_method_19_code 26 = .ok (.iconst 2, 1) := by decide +kernel
theorem dS_addSpot_27 : decode prog_5_method_19_code 27 = .ok (.iload 5, 2) := by decide +kernel
theorem dS_addSpot_29 : decode prog_5_method_19_code 29 = .ok (.imul, 1) := by decide +kernel
theorem dS_addSpot_30 : decode prog_5_method_19_code 30 = .ok (.iload_n 3, 1) := by decide +kernel
theorem dS_addSpot_31 : decode prog_5_method_19_code 31 = .ok (.iastore, 1) := by decide +kernel
theorem dS_addSpot_32 : decode prog_5_method_19_code 32 = .ok (.aload_n 0, 1) := by decide +kernel
theorem dS_addSpot_33 : decode prog_5_method_19_code 33 = .ok (.getfield 24, 3) := by decide +kernel
theorem dS_addSpot_36 : decode prog_5_method_19_code 36 = .ok (.iconst 2, 1) := by decide +kernel
theorem dS_addSpot_37 : decode prog_5_method_19_code 37 = .ok (.iload 5, 2) := by decide +kernel
theorem dS_addSpot_39 : decode prog_5_method_19_code 39 = .ok (.imul, 1) := by decide +kernel
theorem dS_addSpot_40 : decode prog_5_method_19_code 40 = .ok (.iconst 1, 1) := by decide +kernel
theorem dS_addSpot_41 : decode prog_5_method_19_code 41 = .ok (.iadd, 1) := by decide +kernel
theorem dS_addSpot_42 : decode prog_5_method_19_code 42 = .ok (.iload 4, 2) := by decide +kernel
theorem dS_addSpot_44 : decode prog_5_method_19_code 44 = .ok (.iastore, 1) := by decide +kernel
theorem dS_addSpot_45 : decode prog_5_method_19_code 45 = .ok (.iload 5, 2) := by decide +kernel
theorem dS_addSpot_47 : decode prog_5_method_19_code 47 = .ok (.ireturn, 1) := by decide +kernel
theorem dS_put_0 : decode prog_5_method_20_code 0 = .ok (.aload_n 0, 1) := by decide +kernel
theorem dS_put_1 : decode prog_5_method_20_code 1 = .ok (.iload_n 1, 1) := by decide +kernel
theorem dS_put_2 : decode prog_5_method_20_code 2 = .ok (.iload_n 2, 1) := by decide +kernel
theorem dS_put_3 : decode prog_5_method_20_code 3 = .ok (.invokevirtual 37, 3) := by decide +kernel
theorem dS_put_6 : decode prog_5_method_20_code 6 = .ok (.ifCond .eq 11, 3) := by decide +kernel
theorem dS_put_9 : decode prog_5_method_20_code 9 = .ok (.aload_n 0, 1) := by decide +kernel
theorem dS_put_10 : decode prog_5_method_20_code 10 = .ok (.iload_n 1, 1) := by decide +kernel
theorem dS_put_11 : decode prog_5_method_20_code 11 = .ok (.invokevirtual 33, 3) := by decide +kernel
theorem dS_put_14 : decode prog_5_method_20_code 14 = .ok (.iload_n 2, 1) := by decide +kernel
theorem dS_put_15 : decode prog_5_method_20_code 15 = .ok (.iload_n 3, 1) := by decide +kernel
theorem dS_put_16 : decode prog_5_method_20_code 16 = .ok (.iastore, 1) := by decide +kernel
theorem dS_put_17 : decode prog_5_method_20_code 17 = .ok (.return_, 1) := by decide +kernel
theorem dS_remove_0 : decode prog_5_method_21_code 0 = .ok (.iload_n 1, 1) := by decide +kernel
theorem dS_remove_1 : decode prog_5_method_21_code 1 = .ok (.iconst 1, 1) := by decide +kernel
theorem dS_remove_2 : decode prog_5_method_21_code 2 = .ok (.if_icmp .ne 13, 3) := by decide +kernel
theorem dS_remove_5 : decode prog_5_method_21_code 5 = .ok (.aload_n 0, 1) := by decide +kernel
theorem dS_remove_6 : decode prog_5_method_21_code 6 = .ok (.aload_n 0, 1) := by decide +kernel
theorem dS_remove_7 : decode prog_5_method_21_code 7 = .ok (.iload_n 2, 1) := by decide +kernel
theorem dS_remove_8 : decode prog_5_method_21_code 8 = .ok (.invokevirtual 71, 3) := by decide +kernel
theorem dS_remove_11 : decode prog_5_method_21_code 11 = .ok (.iconst (-1), 1) := by decide +kernel
theorem dS_remove_12 : decode prog_5_method_21_code 12 = .ok (.invokevirtual 74, 3) := by decide +kernel
theorem dS_remove_15 : decode prog_5_method_21_code 15 = .ok (.aload_n 0, 1) := by decide +kernel
theorem dS_remove_16 : decode prog_5_method_21_code 16 = .ok (.iload_n 1, 1) := by decide +kernel
theorem dS_remove_17 : decode prog_5_method_21_code 17 = .ok (.iload_n 2, 1) := by decide +kernel
theorem dS_remove_18 : decode prog_5_method_21_code 18 = .ok (.iconst (-1), 1) := by decide +kernel
theorem dS_remove_19 : decode prog_5_method_21_code 19 = .ok (.invokevirtual 78, 3) := by decide +kernel
theorem dS_remove_22 : decode prog_5_method_21_code 22 = .ok (.return_, 1) := by decide +kernel
theorem dS_putAll_0 : decode prog_5_method_22_code 0 = .ok (.iconst 0, 1) := by decide +kernel
theorem dS_putAll_1 : decode prog_5_method_22_code 1 = .ok (.istore_n 3, 1) := by decide +kernel
theorem dS_putAll_2 : decode prog_5_method_22_code 2 = .ok (.iload_n 3, 1) := by decide +kernel
theorem dS_putAll_3 : decode prog_5_method_22_code 3 = .ok (.iconst 3, 1) := by decide +kernel
theorem dS_putAll_4 : decode prog_5_method_22_code 4 = .ok (.if_icmp .ge 51, 3) := by decide +kernel
theorem dS_putAll_7 : decode prog_5_method_22_code 7 = .ok (.aload_n 0, 1) := by decide +kernel
theorem dS_putAll_8 : decode prog_5_method_22_code 8 = .ok (.iload_n 3, 1) := by decide +kernel
theorem dS_putAll_9 : decode prog_5_method_22_code 9 = .ok (.invokevirtual 33, 3) := by decide +kernel
theorem dS_putAll_12 : decode prog_5_method_22_code 12 = .ok (.astore 4, 2) := by decide +kernel
theorem dS_putAll_14 : decode prog_5_method_22_code 14 = .ok (.iconst 0, 1) := by decide +kernel
theorem dS_putAll_15 : decode prog_5_method_22_code 15 = .ok (.istore 5, 2) := by decide +kernel
theorem dS_putAll_17 : decode prog_5_method_22_code 17 = .ok (.iload 5, 2) := by decide +kernel
theorem dS_putAll_19 : decode prog_5_method_22_code 19 = .ok (.aload 4, 2) := by decide +kernel
theorem dS_putAll_21 : decode prog_5_method_22_code 21 = .ok (.arraylength, 1) := by decide +kernel
theorem dS_putAll_22 : decode prog_5_method_22_code 22 = .ok (.if_icmp .ge 27, 3) := by decide +kernel
theorem dS_putAll_25 : decode prog_5_method_22_code 25 = .ok (.iload_n 1, 1) := by decide +kernel
theorem dS_putAll_26 : decode prog_5_method_22_code 26 = .ok (.aload 4, 2) := by decide +kernel
theorem dS_putAll_28 : decode prog_5_method_22_code 28 = .ok (.iload 5, 2) := by decide +kernel
theorem dS_putAll_30 : decode prog_5_method_22_code 30 = .ok (.iaload, 1) := by decide +kernel
theorem dS_putAll_31 : decode prog_5_method_22_code 31 = .ok (.invokestatic 52, 3) := by decide +kernel
theorem dS_putAll_34 : decode prog_5_method_22_code 34 = .ok (.ifCond .eq 9, 3) := by decide +kernel
theorem dS_putAll_37 : decode prog_5_method_22_code 37 = .ok (.aload 4, 2) := by decide +kernel
theorem dS_putAll_39 : decode prog_5_method_22_code 39 = .ok (.iload 5, 2) := by decide +kernel
theorem dS_putAll_41 : decode prog_5_method_22_code 41 = .ok (.iload_n 2, 1) := by decide +kernel
theorem dS_putAll_42 : decode prog_5_method_22_code 42 = .ok (.iastore, 1) := by decide +kernel
theorem dS_putAll_43 : decode prog_5_method_22_code 43 = .ok (.iinc 5 1, 3) := by decide +kernel
theorem dS_putAll_46 : decode prog_5_method_22_code 46 = .ok (.goto (-29), 3) := by decide +kernel
theorem dS_putAll_49 : decode prog_5_method_22_code 49 = .ok (.iinc 3 1, 3) := by decide +kernel
theorem dS_putAll_52 : decode prog_5_method_22_code 52 = .ok (.goto (-50), 3) := by decide +kernel
theorem dS_putAll_55 : decode prog_5_method_22_code 55 = .ok (.return_, 1) := by decide +kernel
theorem dS_rehook_0 : decode prog_5_method_23_code 0 = .ok (.aload_n 0, 1) := by decide +kernel
theorem dS_rehook_1 : decode prog_5_method_23_code 1 = .ok (.iload_n 3, 1) := by decide +kernel
theorem dS_rehook_2 : decode prog_5_method_23_code 2 = .ok (.invokevirtual 71, 3) := by decide +kernel
theorem dS_rehook_5 : decode prog_5_method_23_code 5 = .ok (.istore 4, 2) := by decide +kernel
theorem dS_rehook_7 : decode prog_5_method_23_code 7 = .ok (.iconst 0, 1) := by decide +kernel
theorem dS_rehook_8 : decode prog_5_method_23_code 8 = .ok (.istore 5, 2) := by decide +kernel
theorem dS_rehook_10 : decode prog_5_method_23_code 10 = .ok (.iload 5, 2) := by decide +kernel
theorem dS_rehook_12 : decode prog_5_method_23_code 12 = .ok (.bipush 24, 2) := by decide +kernel
theorem dS_rehook_14 : decode prog_5_method_23_code 14 = .ok (.if_icmp .ge 45, 3) := by decide +kernel
theorem dS_rehook_17 : decode prog_5_method_23_code 17 = .ok (.aload_n 0, 1) := by decide +kernel
theorem dS_rehook_18 : decode prog_5_method_23_code 18 = .ok (.getfield 24, 3) := by decide +kernel
theorem dS_rehook_21 : decode prog_5_method_23_code 21 = .ok (.iload 5, 2) := by decide +kernel
theorem dS_rehook_23 : decode prog_5_method_23_code 23 = .ok (.iaload, 1) := by decide +kernel
theorem dS_rehook_24 : decode prog_5_method_23_code 24 = .ok (.iload_n 1, 1) := by decide +kernel
theorem dS_rehook_25 : decode prog_5_method_23_code 25 = .ok (.if_icmp .ne 28, 3) := by decide +kernel
theorem dS_rehook_28 : decode prog_5_method_23_code 28 = .ok (.iload 4, 2) := by decide +kernel
theorem dS_rehook_30 : decode prog_5_method_23_code 30 = .ok (.aload_n 0, 1) := by decide +kernel
theorem dS_rehook_31 : decode prog_5_method_23_code 31 = .ok (.getfield 9, 3) := by decide +kernel
theorem dS_rehook_34 : decode prog_5_method_23_code 34 = .ok (.iload 5, 2) := by decide +kernel
theorem dS_rehook_36 : decode prog_5_method_23_code 36 = .ok (.iconst 2, 1) := by decide +kernel
theorem dS_rehook_37 : decode prog_5_method_23_code 37 = .ok (.idiv, 1) := by decide +kernel
theorem dS_rehook_38 : decode prog_5_method_23_code 38 = .ok (.iaload, 1) := by decide +kernel
theorem dS_rehook_39 : decode prog_5_method_23_code 39 = .ok (.invokestatic 52, 3) := by decide +kernel
theorem dS_rehook_42 : decode prog_5_method_23_code 42 = .ok (.ifCond .eq 11, 3) := by decide +kernel
theorem dS_rehook_45 : decode prog_5_method_23_code 45 = .ok (.aload_n 0, 1) := by decide +kernel
theorem dS_rehook_46 : decode prog_5_method_23_code 46 = .ok (.getfield 24, 3) := by decide +kernel
theorem dS_rehook_49 : decode prog_5_method_23_code 49 = .ok (.iload 5, 2) := by decide +kernel
theorem dS_rehook_51 : decode prog_5_method_23_code 51 = .ok (.iload_n 2, 1) := by decide +kernel
theorem dS_rehook_52 : decode prog_5_method_23_code 52 = .ok (.iastore, 1) := by decide +kernel
theorem dS_rehook_53 : decode prog_5_method_23_code 53 = .ok (.iinc 5 1, 3) := by decide +kernel
theorem dS_rehook_56 : decode prog_5_method_23_code 56 = .ok (.goto (-46), 3) := by decide +kernel
theorem dS_rehook_59 : decode prog_5_method_23_code 59 = .ok (.return_, 1) := by decide +kernel
theorem dS_holdsOneCutAlone_0 : decode prog_5_method_24_code 0 = .ok (.iconst 1, 1) := by decide +kernel
theorem dS_holdsOneCutAlone_1 : decode prog_5_method_24_code 1 = .ok (.iload_n 1, 1) := by decide +kernel
theorem dS_holdsOneCutAlone_2 : decode prog_5_method_24_code 2 = .ok (.ishl, 1) := by decide +kernel
theorem dS_holdsOneCutAlone_3 : decode prog_5_method_24_code 3 = .ok (.istore_n 2, 1) := by decide +kernel
theorem dS_holdsOneCutAlone_4 : decode prog_5_method_24_code 4 = .ok (.aload_n 0, 1) := by decide +kernel
theorem dS_holdsOneCutAlone_5 : decode prog_5_method_24_code 5 = .ok (.iconst 1, 1) := by decide +kernel
theorem dS_holdsOneCutAlone_6 : decode prog_5_method_24_code 6 = .ok (.iload_n 2, 1) := by decide +kernel
theorem dS_holdsOneCutAlone_7 : decode prog_5_method_24_code 7 = .ok (.invokevirtual 41, 3) := by decide +kernel
theorem dS_holdsOneCutAlone_10 : decode prog_5_method_24_code 10 = .ok (.iconst 1, 1) := by decide +kernel
theorem dS_holdsOneCutAlone_11 : decode prog_5_method_24_code 11 = .ok (.if_icmp .ne 25, 3) := by decide +kernel
theorem dS_holdsOneCutAlone_14 : decode prog_5_method_24_code 14 = .ok (.aload_n 0, 1) := by decide +kernel
theorem dS_holdsOneCutAlone_15 : decode prog_5_method_24_code 15 = .ok (.iconst 0, 1) := by decide +kernel
theorem dS_holdsOneCutAlone_16 : decode prog_5_method_24_code 16 = .ok (.iload_n 2, 1) := by decide +kernel
theorem dS_holdsOneCutAlone_17 : decode prog_5_method_24_code 17 = .ok (.invokevirtual 41, 3) := by decide +kernel
theorem dS_holdsOneCutAlone_20 : decode prog_5_method_24_code 20 = .ok (.ifCond .ne 16, 3) := by decide +kernel
theorem dS_holdsOneCutAlone_23 : decode prog_5_method_24_code 23 = .ok (.aload_n 0, 1) := by decide +kernel
theorem dS_holdsOneCutAlone_24 : decode prog_5_method_24_code 24 = .ok (.iconst 2, 1) := by decide +kernel
theorem dS_holdsOneCutAlone_25 : decode prog_5_method_24_code 25 = .ok (.iload_n 2, 1) := by decide +kernel
theorem dS_holdsOneCutAlone_26 : decode prog_5_method_24_code 26 = .ok (.invokevirtual 41, 3) := by decide +kernel
theorem dS_holdsOneCutAlone_29 : decode prog_5_method_24_code 29 = .ok (.ifCond .ne 7, 3) := by decide +kernel
theorem dS_holdsOneCutAlone_32 : decode prog_5_method_24_code 32 = .ok (.iconst 1, 1) := by decide +kernel
theorem dS_holdsOneCutAlone_33 : decode prog_5_method_24_code 33 = .ok (.goto 4, 3) := by decide +kernel
theorem dS_holdsOneCutAlone_36 : decode prog_5_method_24_code 36 = .ok (.iconst 0, 1) := by decide +kernel
theorem dS_holdsOneCutAlone_37 : decode prog_5_method_24_code 37 = .ok (.ireturn, 1) := by decide +kernel
theorem dS_removeDoubleCut_0 : decode prog_5_method_25_code 0 = .ok (.aload_n 0, 1) := by decide +kernel
theorem dS_removeDoubleCut_1 : decode prog_5_method_25_code 1 = .ok (.iconst 1, 1) := by decide +kernel
theorem dS_removeDoubleCut_2 : decode prog_5_method_25_code 2 = .ok (.iload_n 1, 1) := by decide +kernel
theorem dS_removeDoubleCut_3 : decode prog_5_method_25_code 3 = .ok (.invokevirtual 55, 3) := by decide +kernel
theorem dS_removeDoubleCut_6 : decode prog_5_method_25_code 6 = .ok (.istore_n 2, 1) := by decide +kernel
theorem dS_removeDoubleCut_7 : decode prog_5_method_25_code 7 = .ok (.iconst 1, 1) := by decide +kernel
theorem dS_removeDoubleCut_8 : decode prog_5_method_25_code 8 = .ok (.istore_n 3, 1) := by decide +kernel
theorem dS_removeDoubleCut_9 : decode prog_5_method_25_code 9 = .ok (.iload_n 3, 1) := by decide +kernel
theorem dS_removeDoubleCut_10 : decode prog_5_method_25_code 10 = .ok (.bipush 13, 2) := by decide +kernel
theorem dS_removeDoubleCut_12 : decode prog_5_method_25_code 12 = .ok (.if_icmp .ge 34, 3) := by decide +kernel
theorem dS_removeDoubleCut_15 : decode prog_5_method_25_code 15 = .ok (.aload_n 0, 1) := by decide +kernel
theorem dS_removeDoubleCut_16 : decode prog_5_method_25_code 16 = .ok (.getfield 15, 3) := by decide +kernel
theorem dS_removeDoubleCut_19 : decode prog_5_method_25_code 19 = .ok (.iload_n 3, 1) := by decide +kernel
theorem dS_removeDoubleCut_20 : decode prog_5_method_25_code 20 = .ok (.iaload, 1) := by decide +kernel
theorem dS_removeDoubleCut_21 : decode prog_5_method_25_code 21 = .ok (.iload_n 1, 1) := by decide +kernel
theorem dS_removeDoubleCut_22 : decode prog_5_method_25_code 22 = .ok (.if_icmp .ne 18, 3) := by decide +kernel
theorem dS_removeDoubleCut_25 : decode prog_5_method_25_code 25 = .ok (.aload_n 0, 1) := by decide +kernel
theorem dS_removeDoubleCut_26 : decode prog_5_method_25_code 26 = .ok (.iconst 1, 1) := by decide +kernel
theorem dS_removeDoubleCut_27 : decode prog_5_method_25_code 27 = .ok (.iload_n 3, 1) := by decide +kernel
theorem dS_removeDoubleCut_28 : decode prog_5_method_25_code 28 = .ok (.ishl, 1) := by decide +kernel
theorem dS_removeDoubleCut_29 : decode prog_5_method_25_code 29 = .ok (.iload_n 2, 1) := by decide +kernel
theorem dS_removeDoubleCut_30 : decode prog_5_method_25_code 30 = .ok (.invokevirtual 74, 3) := by decide +kernel
theorem dS_removeDoubleCut_33 : decode prog_5_method_25_code 33 = .ok (.aload_n 0, 1) := by decide +kernel
theorem dS_removeDoubleCut_34 : decode prog_5_method_25_code 34 = .ok (.iconst 1, 1) := by decide +kernel
theorem dS_removeDoubleCut_35 : decode prog_5_method_25_code 35 = .ok (.iload_n 3, 1) := by decide +kernel
theorem dS_removeDoubleCut_36 : decode prog_5_method_25_code 36 = .ok (.iconst (-1), 1) := by decide +kernel
theorem dS_removeDoubleCut_37 : decode prog_5_method_25_code 37 = .ok (.invokevirtual 78, 3) := by decide +kernel
theorem dS_removeDoubleCut_40 : decode prog_5_method_25_code 40 = .ok (.iinc 3 1, 3) := by decide +kernel
theorem dS_removeDoubleCut_43 : decode prog_5_method_25_code 43 = .ok (.goto (-34), 3) := by decide +kernel
theorem dS_removeDoubleCut_46 : decode prog_5_method_25_code 46 = .ok (.aload_n 0, 1) := by decide +kernel
theorem dS_removeDoubleCut_47 : decode prog_5_method_25_code 47 = .ok (.iconst 1, 1) := by decide +kernel
theorem dS_removeDoubleCut_48 : decode prog_5_method_25_code 48 = .ok (.iload_n 1, 1) := by decide +kernel
theorem dS_removeDoubleCut_49 : decode prog_5_method_25_code 49 = .ok (.iconst (-1), 1) := by decide +kernel
theorem dS_removeDoubleCut_50 : decode prog_5_method_25_code 50 = .ok (.invokevirtual 78, 3) := by decide +kernel
theorem dS_removeDoubleCut_53 : decode prog_5_method_25_code 53 = .ok (.return_, 1) := by decide +kernel
theorem dS_hasRoomForCopy_0 : decode prog_5_method_26_code 0 = .ok (.iload_n 1, 1) := by decide +kernel
theorem dS_hasRoomForCopy_1 : decode prog_5_method_26_code 1 = .ok (.ifCond .ne 17, 3) := by decide +kernel
theorem dS_hasRoomForCopy_4 : decode prog_5_method_26_code 4 = .ok (.aload_n 0, 1) := by decide +kernel
theorem dS_hasRoomForCopy_5 : decode prog_5_method_26_code 5 = .ok (.iconst 0, 1) := by decide +kernel
theorem dS_hasRoomForCopy_6 : decode prog_5_method_26_code 6 = .ok (.invokevirtual 82, 3) := by decide +kernel
theorem dS_hasRoomForCopy_9 : decode prog_5_method_26_code 9 = .ok (.ifCond .le 7, 3) := by decide +kernel
theorem dS_hasRoomForCopy_12 : decode prog_5_method_26_code 12 = .ok (.iconst 1, 1) := by decide +kernel
theorem dS_hasRoomForCopy_13 : decode prog_5_method_26_code 13 = .ok (.goto 4, 3) := by decide +kernel
theorem dS_hasRoomForCopy_16 : decode prog_5_method_26_code 16 = .ok (.iconst 0, 1) := by decide +kernel
theorem dS_hasRoomForCopy_17 : decode prog_5_method_26_code 17 = .ok (.ireturn, 1) := by decide +kernel
theorem dS_hasRoomForCopy_18 : decode prog_5_method_26_code 18 = .ok (.aload_n 0, 1) := by decide +kernel
theorem dS_hasRoomForCopy_19 : decode prog_5_method_26_code 19 = .ok (.iload_n 2, 1) := by decide +kernel
theorem dS_hasRoomForCopy_20 : decode prog_5_method_26_code 20 = .ok (.invokevirtual 71, 3) := by decide +kernel
theorem dS_hasRoomForCopy_23 : decode prog_5_method_26_code 23 = .ok (.istore_n 3, 1) := by decide +kernel
theorem dS_hasRoomForCopy_24 : decode prog_5_method_26_code 24 = .ok (.aload_n 0, 1) := by decide +kernel
theorem dS_hasRoomForCopy_25 : decode prog_5_method_26_code 25 = .ok (.iconst 1, 1) := by decide +kernel
theorem dS_hasRoomForCopy_26 : decode prog_5_method_26_code 26 = .ok (.invokevirtual 82, 3) := by decide +kernel
theorem dS_hasRoomForCopy_29 : decode prog_5_method_26_code 29 = .ok (.aload_n 0, 1) := by decide +kernel
theorem dS_hasRoomForCopy_30 : decode prog_5_method_26_code 30 = .ok (.iconst 1, 1) := by decide +kernel
theorem dS_hasRoomForCopy_31 : decode prog_5_method_26_code 31 = .ok (.iload_n 3, 1) := by decide +kernel
theorem dS_hasRoomForCopy_32 : decode prog_5_method_26_code 32 = .ok (.invokevirtual 41, 3) := by decide +kernel
theorem dS_hasRoomForCopy_35 : decode prog_5_method_26_code 35 = .ok (.if_icmp .le 35, 3) := by decide +kernel
theorem dS_hasRoomForCopy_38 : decode prog_5_method_26_code 38 = .ok (.aload_n 0, 1) := by decide +kernel
theorem dS_hasRoomForCopy_39 : decode prog_5_method_26_code 39 = .ok (.iconst 2, 1) := by decide +kernel
theorem dS_hasRoomForCopy_40 : decode prog_5_method_26_code 40 = .ok (.invokevirtual 82, 3) := by decide +kernel
theorem dS_hasRoomForCopy_43 : decode prog_5_method_26_code 43 = .ok (.aload_n 0, 1) := by decide +kernel
theorem dS_hasRoomForCopy_44 : decode prog_5_method_26_code 44 = .ok (.iconst 2, 1) := by decide +kernel
theorem dS_hasRoomForCopy_45 : decode prog_5_method_26_code 45 = .ok (.iload_n 3, 1) := by decide +kernel
theorem dS_hasRoomForCopy_46 : decode prog_5_method_26_code 46 = .ok (.invokevirtual 41, 3) := by decide +kernel
theorem dS_hasRoomForCopy_49 : decode prog_5_method_26_code 49 = .ok (.if_icmp .lt 21, 3) := by decide +kernel
theorem dS_hasRoomForCopy_52 : decode prog_5_method_26_code 52 = .ok (.aload_n 0, 1) := by decide +kernel
theorem dS_hasRoomForCopy_53 : decode prog_5_method_26_code 53 = .ok (.iconst 0, 1) := by decide +kernel
theorem dS_hasRoomForCopy_54 : decode prog_5_method_26_code 54 = .ok (.invokevirtual 82, 3) := by decide +kernel
theorem dS_hasRoomForCopy_57 : decode prog_5_method_26_code 57 = .ok (.aload_n 0, 1) := by decide +kernel
theorem dS_hasRoomForCopy_58 : decode prog_5_method_26_code 58 = .ok (.iconst 0, 1) := by decide +kernel
theorem dS_hasRoomForCopy_59 : decode prog_5_method_26_code 59 = .ok (.iload_n 3, 1) := by decide +kernel
theorem dS_hasRoomForCopy_60 : decode prog_5_method_26_code 60 = .ok (.invokevirtual 41, 3) := by decide +kernel
theorem dS_hasRoomForCopy_63 : decode prog_5_method_26_code 63 = .ok (.if_icmp .lt 7, 3) := by decide +kernel
theorem dS_hasRoomForCopy_66 : decode prog_5_method_26_code 66 = .ok (.iconst 1, 1) := by decide +kernel
theorem dS_hasRoomForCopy_67 : decode prog_5_method_26_code 67 = .ok (.goto 4, 3) := by decide +kernel
theorem dS_hasRoomForCopy_70 : decode prog_5_method_26_code 70 = .ok (.iconst 0, 1) := by decide +kernel
theorem dS_hasRoomForCopy_71 : decode prog_5_method_26_code 71 = .ok (.ireturn, 1) := by decide +kernel
theorem dS_addCopy_0 : decode prog_5_method_27_code 0 = .ok (.iload_n 1, 1) := by decide +kernel
theorem dS_addCopy_1 : decode prog_5_method_27_code 1 = .ok (.ifCond .ne 14, 3) := by decide +kernel
theorem dS_addCopy_4 : decode prog_5_method_27_code 4 = .ok (.aload_n 0, 1) := by decide +kernel
theorem dS_addCopy_5 : decode prog_5_method_27_code 5 = .ok (.iload_n 2, 1) := by decide +kernel
theorem dS_addCopy_6 : decode prog_5_method_27_code 6 = .ok (.iload_n 3, 1) := by decide +kernel
theorem dS_addCopy_7 : decode prog_5_method_27_code 7 = .ok (.aload 4, 2) := by decide +kernel
theorem dS_addCopy_9 : decode prog_5_method_27_code 9 = .ok (.invokevirtual 85, 3) := by decide +kernel
theorem dS_addCopy_12 : decode prog_5_method_27_code 12 = .ok (.goto 12, 3) := by decide +kernel
theorem dS_addCopy_15 : decode prog_5_method_27_code 15 = .ok (.aload_n 0, 1) := by decide +kernel
theorem dS_addCopy_16 : decode prog_5_method_27_code 16 = .ok (.iload_n 2, 1) := by decide +kernel
theorem dS_addCopy_17 : decode prog_5_method_27_code 17 = .ok (.iload_n 3, 1) := by decide +kernel
theorem dS_addCopy_18 : decode prog_5_method_27_code 18 = .ok (.aload 4, 2) := by decide +kernel
theorem dS_addCopy_20 : decode prog_5_method_27_code 20 = .ok (.iconst 0, 1) := by decide +kernel
theorem dS_addCopy_21 : decode prog_5_method_27_code 21 = .ok (.invokevirtual 89, 3) := by decide +kernel
theorem dS_addCopy_24 : decode prog_5_method_27_code 24 = .ok (.ireturn, 1) := by decide +kernel
theorem dS_copySpot_0 : decode prog_5_method_28_code 0 = .ok (.aload_n 0, 1) := by decide +kernel
theorem dS_copySpot_1 : decode prog_5_method_28_code 1 = .ok (.getfield 24, 3) := by decide +kernel
theorem dS_copySpot_4 : decode prog_5_method_28_code 4 = .ok (.iconst 2, 1) := by decide +kernel
theorem dS_copySpot_5 : decode prog_5_method_28_code 5 = .ok (.iload_n 1, 1) := by decide +kernel
theorem dS_copySpot_6 : decode prog_5_method_28_code 6 = .ok (.imul, 1) := by decide +kernel
theorem dS_copySpot_7 : decode prog_5_method_28_code 7 = .ok (.iaload, 1) := by decide +kernel
theorem dS_copySpot_8 : decode prog_5_method_28_code 8 = .ok (.istore 4, 2) := by decide +kernel
theorem dS_copySpot_10 : decode prog_5_method_28_code 10 = .ok (.aload_n 0, 1) := by decide +kernel
theorem dS_copySpot_11 : decode prog_5_method_28_code 11 = .ok (.getfield 24, 3) := by decide +kernel
theorem dS_copySpot_14 : decode prog_5_method_28_code 14 = .ok (.iconst 2, 1) := by decide +kernel
theorem dS_copySpot_15 : decode prog_5_method_28_code 15 = .ok (.iload_n 1, 1) := by decide +kernel
theorem dS_copySpot_16 : decode prog_5_method_28_code 16 = .ok (.imul, 1) := by decide +kernel
theorem dS_copySpot_17 : decode prog_5_method_28_code 17 = .ok (.iconst 1, 1) := by decide +kernel
theorem dS_copySpot_18 : decode prog_5_method_28_code 18 = .ok (.iadd, 1) := by decide +kernel
theorem dS_copySpot_19 : decode prog_5_method_28_code 19 = .ok (.iaload, 1) := by decide +kernel
theorem dS_copySpot_20 : decode prog_5_method_28_code 20 = .ok (.istore 5, 2) := by decide +kernel
theorem dS_copySpot_22 : decode prog_5_method_28_code 22 = .ok (.aload_n 0, 1) := by decide +kernel
theorem dS_copySpot_23 : decode prog_5_method_28_code 23 = .ok (.iload_n 2, 1) := by decide +kernel
theorem dS_copySpot_24 : decode prog_5_method_28_code 24 = .ok (.aload_n 0, 1) := by decide +kernel
theorem dS_copySpot_25 : decode prog_5_method_28_code 25 = .ok (.getfield 21, 3) := by decide +kernel
theorem dS_copySpot_28 : decode prog_5_method_28_code 28 = .ok (.iload_n 1, 1) := by decide +kernel
theorem dS_copySpot_29 : decode prog_5_method_28_code 29 = .ok (.iaload, 1) := by decide +kernel
theorem dS_copySpot_30 : decode prog_5_method_28_code 30 = .ok (.iload 4, 2) := by decide +kernel
theorem dS_copySpot_32 : decode prog_5_method_28_code 32 = .ok (.iconst (-1), 1) := by decide +kernel
theorem dS_copySpot_33 : decode prog_5_method_28_code 33 = .ok (.if_icmp .ne 7, 3) := by decide +kernel
theorem dS_copySpot_36 : decode prog_5_method_28_code 36 = .ok (.iconst (-1), 1) := by decide +kernel
theorem dS_copySpot_37 : decode prog_5_method_28_code 37 = .ok (.goto 7, 3) := by decide +kernel
theorem dS_copySpot_40 : decode prog_5_method_28_code 40 = .ok (.aload_n 3, 1) := by decide +kernel
theorem dS_copySpot_41 : decode prog_5_method_28_code 41 = .ok (.iload 4, 2) := by decide +kernel
theorem dS_copySpot_43 : decode prog_5_method_28_code 43 = .ok (.iaload, 1) := by decide +kernel
theorem dS_copySpot_44 : decode prog_5_method_28_code 44 = .ok (.iload 5, 2) := by decide +kernel
theorem dS_copySpot_46 : decode prog_5_method_28_code 46 = .ok (.iconst (-1), 1) := by decide +kernel
theorem dS_copySpot_47 : decode prog_5_method_28_code 47 = .ok (.if_icmp .ne 7, 3) := by decide +kernel
theorem dS_copySpot_50 : decode prog_5_method_28_code 50 = .ok (.iconst (-1), 1) := by decide +kernel
theorem dS_copySpot_51 : decode prog_5_method_28_code 51 = .ok (.goto 7, 3) := by decide +kernel
theorem dS_copySpot_54 : decode prog_5_method_28_code 54 = .ok (.aload_n 3, 1) := by decide +kernel
theorem dS_copySpot_55 : decode prog_5_method_28_code 55 = .ok (.iload 5, 2) := by decide +kernel
theorem dS_copySpot_57 : decode prog_5_method_28_code 57 = .ok (.iaload, 1) := by decide +kernel
theorem dS_copySpot_58 : decode prog_5_method_28_code 58 = .ok (.invokevirtual 93, 3) := by decide +kernel
theorem dS_copySpot_61 : decode prog_5_method_28_code 61 = .ok (.ireturn, 1) := by decide +kernel
theorem dS_copyCut_0 : decode prog_5_method_29_code 0 = .ok (.iload 4, 2) := by decide +kernel
theorem dS_copyCut_2 : decode prog_5_method_29_code 2 = .ok (.bipush 12, 2) := by decide +kernel
theorem dS_copyCut_4 : decode prog_5_method_29_code 4 = .ok (.if_icmp .lt 5, 3) := by decide +kernel
theorem dS_copyCut_7 : decode prog_5_method_29_code 7 = .ok (.iconst (-1), 1) := by decide +kernel
theorem dS_copyCut_8 : decode prog_5_method_29_code 8 = .ok (.ireturn, 1) := by decide +kernel
theorem dS_copyCut_9 : decode prog_5_method_29_code 9 = .ok (.aload_n 0, 1) := by decide +kernel
theorem dS_copyCut_10 : decode prog_5_method_29_code 10 = .ok (.iconst 1, 1) := by decide +kernel
theorem dS_copyCut_11 : decode prog_5_method_29_code 11 = .ok (.iload_n 2, 1) := by decide +kernel
theorem dS_copyCut_12 : decode prog_5_method_29_code 12 = .ok (.invokevirtual 68, 3) := by decide +kernel
theorem dS_copyCut_15 : decode prog_5_method_29_code 15 = .ok (.istore 5, 2) := by decide +kernel
theorem dS_copyCut_17 : decode prog_5_method_29_code 17 = .ok (.iconst 0, 1) := by decide +kernel
theorem dS_copyCut_18 : decode prog_5_method_29_code 18 = .ok (.istore 6, 2) := by decide +kernel
theorem dS_copyCut_20 : decode prog_5_method_29_code 20 = .ok (.iload 6, 2) := by decide +kernel
theorem dS_copyCut_22 : decode prog_5_method_29_code 22 = .ok (.bipush 6, 2) := by decide +kernel
theorem dS_copyCut_24 : decode prog_5_method_29_code 24 = .ok (.if_icmp .ge 31, 3) := by decide +kernel
theorem dS_copyCut_27 : decode prog_5_method_29_code 27 = .ok (.aload_n 0, 1) := by decide +kernel
theorem dS_copyCut_28 : decode prog_5_method_29_code 28 = .ok (.getfield 18, 3) := by decide +kernel
theorem dS_copyCut_31 : decode prog_5_method_29_code 31 = .ok (.iload 6, 2) := by decide +kernel
theorem dS_copyCut_33 : decode prog_5_method_29_code 33 = .ok (.iaload, 1) := by decide +kernel
theorem dS_copyCut_34 : decode prog_5_method_29_code 34 = .ok (.iload_n 1, 1) := by decide +kernel
theorem dS_copyCut_35 : decode prog_5_method_29_code 35 = .ok (.if_icmp .ne 14, 3) := by decide +kernel
theorem dS_copyCut_38 : decode prog_5_method_29_code 38 = .ok (.aload_n 3, 1) := by decide +kernel
theorem dS_copyCut_39 : decode prog_5_method_29_code 39 = .ok (.iload 6, 2) := by decide +kernel
theorem dS_copyCut_41 : decode prog_5_method_29_code 41 = .ok (.aload_n 0, 1) := by decide +kernel
theorem dS_copyCut_42 : decode prog_5_method_29_code 42 = .ok (.iconst 2, 1) := by decide +kernel
theorem dS_copyCut_43 : decode prog_5_method_29_code 43 = .ok (.iload 5, 2) := by decide +kernel
theorem dS_copyCut_45 : decode prog_5_method_29_code 45 = .ok (.invokevirtual 68, 3) := by decide +kernel
theorem dS_copyCut_48 : decode prog_5_method_29_code 48 = .ok (.iastore, 1) := by decide +kernel
theorem dS_copyCut_49 : decode prog_5_method_29_code 49 = .ok (.iinc 6 1, 3) := by decide +kernel
theorem dS_copyCut_52 : decode prog_5_method_29_code 52 = .ok (.goto (-32), 3) := by decide +kernel
theorem dS_copyCut_55 : decode prog_5_method_29_code 55 = .ok (.iconst 0, 1) := by decide +kernel
theorem dS_copyCut_56 : decode prog_5_method_29_code 56 = .ok (.istore 6, 2) := by decide +kernel
theorem dS_copyCut_58 : decode prog_5_method_29_code 58 = .ok (.iload 6, 2) := by decide +kernel
theorem dS_copyCut_60 : decode prog_5_method_29_code 60 = .ok (.bipush 12, 2) := by decide +kernel
theorem dS_copyCut_62 : decode prog_5_method_29_code 62 = .ok (.if_icmp .ge 30, 3) := by decide +kernel
theorem dS_copyCut_65 : decode prog_5_method_29_code 65 = .ok (.aload_n 0, 1) := by decide +kernel
theorem dS_copyCut_66 : decode prog_5_method_29_code 66 = .ok (.getfield 9, 3) := by decide +kernel
theorem dS_copyCut_69 : decode prog_5_method_29_code 69 = .ok (.iload 6, 2) := by decide +kernel
theorem dS_copyCut_71 : decode prog_5_method_29_code 71 = .ok (.iaload, 1) := by decide +kernel
theorem dS_copyCut_72 : decode prog_5_method_29_code 72 = .ok (.iload_n 1, 1) := by decide +kernel
