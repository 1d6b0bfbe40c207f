/-! what stands where: D -/
theorem d_D_init_0 : decode prog_2_method_1_code 0 = .ok (.aload_n 0, 1) := by decide +kernel
theorem d_D_init_1 : decode prog_2_method_1_code 1 = .ok (.invokespecial 3, 3) := by decide +kernel
theorem d_D_init_4 : decode prog_2_method_1_code 4 = .ok (.aload_n 0, 1) := by decide +kernel
theorem d_D_init_5 : decode prog_2_method_1_code 5 = .ok (.bipush 8, 2) := by decide +kernel
theorem d_D_init_7 : decode prog_2_method_1_code 7 = .ok (.newarray .int, 2) := by decide +kernel
theorem d_D_init_9 : decode prog_2_method_1_code 9 = .ok (.putfield 9, 3) := by decide +kernel
theorem d_D_init_12 : decode prog_2_method_1_code 12 = .ok (.aload_n 0, 1) := by decide +kernel
theorem d_D_init_13 : decode prog_2_method_1_code 13 = .ok (.aload_n 1, 1) := by decide +kernel
theorem d_D_init_14 : decode prog_2_method_1_code 14 = .ok (.putfield 15, 3) := by decide +kernel
theorem d_D_init_17 : decode prog_2_method_1_code 17 = .ok (.return_, 1) := by decide +kernel
theorem d_D_mateOf_0 : decode prog_2_method_2_code 0 = .ok (.aload_n 0, 1) := by decide +kernel
theorem d_D_mateOf_1 : decode prog_2_method_2_code 1 = .ok (.getfield 9, 3) := by decide +kernel
theorem d_D_mateOf_4 : decode prog_2_method_2_code 4 = .ok (.iload_n 1, 1) := by decide +kernel
theorem d_D_mateOf_5 : decode prog_2_method_2_code 5 = .ok (.iaload, 1) := by decide +kernel
theorem d_D_mateOf_6 : decode prog_2_method_2_code 6 = .ok (.ireturn, 1) := by decide +kernel
theorem d_D_makeAllSingle_0 : decode prog_2_method_3_code 0 = .ok (.iconst 0, 1) := by decide +kernel
theorem d_D_makeAllSingle_1 : decode prog_2_method_3_code 1 = .ok (.istore_n 1, 1) := by decide +kernel
theorem d_D_makeAllSingle_2 : decode prog_2_method_3_code 2 = .ok (.iload_n 1, 1) := by decide +kernel
theorem d_D_makeAllSingle_3 : decode prog_2_method_3_code 3 = .ok (.bipush 8, 2) := by decide +kernel
theorem d_D_makeAllSingle_5 : decode prog_2_method_3_code 5 = .ok (.if_icmp .ge 16, 3) := by decide +kernel
theorem d_D_makeAllSingle_8 : decode prog_2_method_3_code 8 = .ok (.aload_n 0, 1) := by decide +kernel
theorem d_D_makeAllSingle_9 : decode prog_2_method_3_code 9 = .ok (.getfield 9, 3) := by decide +kernel
theorem d_D_makeAllSingle_12 : decode prog_2_method_3_code 12 = .ok (.iload_n 1, 1) := by decide +kernel
theorem d_D_makeAllSingle_13 : decode prog_2_method_3_code 13 = .ok (.iload_n 1, 1) := by decide +kernel
theorem d_D_makeAllSingle_14 : decode prog_2_method_3_code 14 = .ok (.iastore, 1) := by decide +kernel
theorem d_D_makeAllSingle_15 : decode prog_2_method_3_code 15 = .ok (.iinc 1 1, 3) := by decide +kernel
theorem d_D_makeAllSingle_18 : decode prog_2_method_3_code 18 = .ok (.goto (-16), 3) := by decide +kernel
theorem d_D_makeAllSingle_21 : decode prog_2_method_3_code 21 = .ok (.return_, 1) := by decide +kernel
theorem d_D_join_0 : decode prog_2_method_4_code 0 = .ok (.aload_n 0, 1) := by decide +kernel
theorem d_D_join_1 : decode prog_2_method_4_code 1 = .ok (.iload_n 1, 1) := by decide +kernel
theorem d_D_join_2 : decode prog_2_method_4_code 2 = .ok (.invokevirtual 19, 3) := by decide +kernel
theorem d_D_join_5 : decode prog_2_method_4_code 5 = .ok (.aload_n 0, 1) := by decide +kernel
theorem d_D_join_6 : decode prog_2_method_4_code 6 = .ok (.iload_n 2, 1) := by decide +kernel
theorem d_D_join_7 : decode prog_2_method_4_code 7 = .ok (.invokevirtual 19, 3) := by decide +kernel
theorem d_D_join_10 : decode prog_2_method_4_code 10 = .ok (.aload_n 0, 1) := by decide +kernel
theorem d_D_join_11 : decode prog_2_method_4_code 11 = .ok (.getfield 9, 3) := by decide +kernel
theorem d_D_join_14 : decode prog_2_method_4_code 14 = .ok (.iload_n 1, 1) := by decide +kernel
theorem d_D_join_15 : decode prog_2_method_4_code 15 = .ok (.iload_n 2, 1) := by decide +kernel
theorem d_D_join_16 : decode prog_2_method_4_code 16 = .ok (.iastore, 1) := by decide +kernel
theorem d_D_join_17 : decode prog_2_method_4_code 17 = .ok (.aload_n 0, 1) := by decide +kernel
theorem d_D_join_18 : decode prog_2_method_4_code 18 = .ok (.getfield 9, 3) := by decide +kernel
theorem d_D_join_21 : decode prog_2_method_4_code 21 = .ok (.iload_n 2, 1) := by decide +kernel
theorem d_D_join_22 : decode prog_2_method_4_code 22 = .ok (.iload_n 1, 1) := by decide +kernel
theorem d_D_join_23 : decode prog_2_method_4_code 23 = .ok (.iastore, 1) := by decide +kernel
theorem d_D_join_24 : decode prog_2_method_4_code 24 = .ok (.return_, 1) := by decide +kernel
theorem d_D_partIfNotPossible_0 : decode prog_2_method_5_code 0 = .ok (.aload_n 0, 1) := by decide +kernel
theorem d_D_partIfNotPossible_1 : decode prog_2_method_5_code 1 = .ok (.getfield 9, 3) := by decide +kernel
theorem d_D_partIfNotPossible_4 : decode prog_2_method_5_code 4 = .ok (.iload_n 1, 1) := by decide +kernel
theorem d_D_partIfNotPossible_5 : decode prog_2_method_5_code 5 = .ok (.iaload, 1) := by decide +kernel
theorem d_D_partIfNotPossible_6 : decode prog_2_method_5_code 6 = .ok (.iload_n 2, 1) := by decide +kernel
theorem d_D_partIfNotPossible_7 : decode prog_2_method_5_code 7 = .ok (.if_icmp .ne 20, 3) := by decide +kernel
theorem d_D_partIfNotPossible_10 : decode prog_2_method_5_code 10 = .ok (.aload_n 0, 1) := by decide +kernel
theorem d_D_partIfNotPossible_11 : decode prog_2_method_5_code 11 = .ok (.getfield 15, 3) := by decide +kernel
theorem d_D_partIfNotPossible_14 : decode prog_2_method_5_code 14 = .ok (.iload_n 1, 1) := by decide +kernel
theorem d_D_partIfNotPossible_15 : decode prog_2_method_5_code 15 = .ok (.iload_n 2, 1) := by decide +kernel
theorem d_D_partIfNotPossible_16 : decode prog_2_method_5_code 16 = .ok (.invokevirtual 23, 3) := by decide +kernel
theorem d_D_partIfNotPossible_19 : decode prog_2_method_5_code 19 = .ok (.ifCond .ne 8, 3) := by decide +kernel
theorem d_D_partIfNotPossible_22 : decode prog_2_method_5_code 22 = .ok (.aload_n 0, 1) := by decide +kernel
theorem d_D_partIfNotPossible_23 : decode prog_2_method_5_code 23 = .ok (.iload_n 1, 1) := by decide +kernel
theorem d_D_partIfNotPossible_24 : decode prog_2_method_5_code 24 = .ok (.invokevirtual 19, 3) := by decide +kernel
theorem d_D_partIfNotPossible_27 : decode prog_2_method_5_code 27 = .ok (.return_, 1) := by decide +kernel
theorem d_D_makeSingle_0 : decode prog_2_method_6_code 0 = .ok (.aload_n 0, 1) := by decide +kernel
theorem d_D_makeSingle_1 : decode prog_2_method_6_code 1 = .ok (.getfield 9, 3) := by decide +kernel
theorem d_D_makeSingle_4 : decode prog_2_method_6_code 4 = .ok (.iload_n 1, 1) := by decide +kernel
theorem d_D_makeSingle_5 : decode prog_2_method_6_code 5 = .ok (.iaload, 1) := by decide +kernel
theorem d_D_makeSingle_6 : decode prog_2_method_6_code 6 = .ok (.istore_n 2, 1) := by decide +kernel
theorem d_D_makeSingle_7 : decode prog_2_method_6_code 7 = .ok (.aload_n 0, 1) := by decide +kernel
theorem d_D_makeSingle_8 : decode prog_2_method_6_code 8 = .ok (.getfield 9, 3) := by decide +kernel
theorem d_D_makeSingle_11 : decode prog_2_method_6_code 11 = .ok (.iload_n 2, 1) := by decide +kernel
theorem d_D_makeSingle_12 : decode prog_2_method_6_code 12 = .ok (.iload_n 2, 1) := by decide +kernel
theorem d_D_makeSingle_13 : decode prog_2_method_6_code 13 = .ok (.iastore, 1) := by decide +kernel
theorem d_D_makeSingle_14 : decode prog_2_method_6_code 14 = .ok (.aload_n 0, 1) := by decide +kernel
theorem d_D_makeSingle_15 : decode prog_2_method_6_code 15 = .ok (.getfield 9, 3) := by decide +kernel
theorem d_D_makeSingle_18 : decode prog_2_method_6_code 18 = .ok (.iload_n 1, 1) := by decide +kernel
theorem d_D_makeSingle_19 : decode prog_2_method_6_code 19 = .ok (.iload_n 1, 1) := by decide +kernel
theorem d_D_makeSingle_20 : decode prog_2_method_6_code 20 = .ok (.iastore, 1) := by decide +kernel
theorem d_D_makeSingle_21 : decode prog_2_method_6_code 21 = .ok (.return_, 1) := by decide +kernel
theorem d_D_countBlocking_0 : decode prog_2_method_7_code 0 = .ok (.iconst 0, 1) := by decide +kernel
theorem d_D_countBlocking_1 : decode prog_2_method_7_code 1 = .ok (.istore_n 1, 1) := by decide +kernel
theorem d_D_countBlocking_2 : decode prog_2_method_7_code 2 = .ok (.iconst 0, 1) := by decide +kernel
theorem d_D_countBlocking_3 : decode prog_2_method_7_code 3 = .ok (.istore_n 2, 1) := by decide +kernel
theorem d_D_countBlocking_4 : decode prog_2_method_7_code 4 = .ok (.iload_n 2, 1) := by decide +kernel
theorem d_D_countBlocking_5 : decode prog_2_method_7_code 5 = .ok (.aload_n 0, 1) := by decide +kernel
theorem d_D_countBlocking_6 : decode prog_2_method_7_code 6 = .ok (.getfield 15, 3) := by decide +kernel
theorem d_D_countBlocking_9 : decode prog_2_method_7_code 9 = .ok (.invokevirtual 29, 3) := by decide +kernel
theorem d_D_countBlocking_12 : decode prog_2_method_7_code 12 = .ok (.if_icmp .ge 49, 3) := by decide +kernel
theorem d_D_countBlocking_15 : decode prog_2_method_7_code 15 = .ok (.iload_n 2, 1) := by decide +kernel
theorem d_D_countBlocking_16 : decode prog_2_method_7_code 16 = .ok (.iconst 1, 1) := by decide +kernel
theorem d_D_countBlocking_17 : decode prog_2_method_7_code 17 = .ok (.iadd, 1) := by decide +kernel
theorem d_D_countBlocking_18 : decode prog_2_method_7_code 18 = .ok (.istore_n 3, 1) := by decide +kernel
theorem d_D_countBlocking_19 : decode prog_2_method_7_code 19 = .ok (.iload_n 3, 1) := by decide +kernel
theorem d_D_countBlocking_20 : decode prog_2_method_7_code 20 = .ok (.aload_n 0, 1) := by decide +kernel
theorem d_D_countBlocking_21 : decode prog_2_method_7_code 21 = .ok (.getfield 15, 3) := by decide +kernel
theorem d_D_countBlocking_24 : decode prog_2_method_7_code 24 = .ok (.invokevirtual 29, 3) := by decide +kernel
theorem d_D_countBlocking_27 : decode prog_2_method_7_code 27 = .ok (.if_icmp .ge 28, 3) := by decide +kernel
theorem d_D_countBlocking_30 : decode prog_2_method_7_code 30 = .ok (.aload_n 0, 1) := by decide +kernel
theorem d_D_countBlocking_31 : decode prog_2_method_7_code 31 = .ok (.getfield 15, 3) := by decide +kernel
theorem d_D_countBlocking_34 : decode prog_2_method_7_code 34 = .ok (.iload_n 2, 1) := by decide +kernel
theorem d_D_countBlocking_35 : decode prog_2_method_7_code 35 = .ok (.iload_n 3, 1) := by decide +kernel
theorem d_D_countBlocking_36 : decode prog_2_method_7_code 36 = .ok (.aload_n 0, 1) := by decide +kernel
theorem d_D_countBlocking_37 : decode prog_2_method_7_code 37 = .ok (.getfield 9, 3) := by decide +kernel
theorem d_D_countBlocking_40 : decode prog_2_method_7_code 40 = .ok (.invokevirtual 33, 3) := by decide +kernel
theorem d_D_countBlocking_43 : decode prog_2_method_7_code 43 = .ok (.ifCond .eq 6, 3) := by decide +kernel
theorem d_D_countBlocking_46 : decode prog_2_method_7_code 46 = .ok (.iinc 1 1, 3) := by decide +kernel
theorem d_D_countBlocking_49 : decode prog_2_method_7_code 49 = .ok (.iinc 3 1, 3) := by decide +kernel
theorem d_D_countBlocking_52 : decode prog_2_method_7_code 52 = .ok (.goto (-33), 3) := by decide +kernel
theorem d_D_countBlocking_55 : decode prog_2_method_7_code 55 = .ok (.iinc 2 1, 3) := by decide +kernel
theorem d_D_countBlocking_58 : decode prog_2_method_7_code 58 = .ok (.goto (-54), 3) := by decide +kernel
theorem d_D_countBlocking_61 : decode prog_2_method_7_code 61 = .ok (.iload_n 1, 1) := by decide +kernel
theorem d_D_countBlocking_62 : decode prog_2_method_7_code 62 = .ok (.ireturn, 1) := by decide +kernel
theorem d_D_joinFirstBlocking_0 : decode prog_2_method_8_code 0 = .ok (.iconst 0, 1) := by decide +kernel
theorem d_D_joinFirstBlocking_1 : decode prog_2_method_8_code 1 = .ok (.istore_n 1, 1) := by decide +kernel
theorem d_D_joinFirstBlocking_2 : decode prog_2_method_8_code 2 = .ok (.iload_n 1, 1) := by decide +kernel
theorem d_D_joinFirstBlocking_3 : decode prog_2_method_8_code 3 = .ok (.aload_n 0, 1) := by decide +kernel
theorem d_D_joinFirstBlocking_4 : decode prog_2_method_8_code 4 = .ok (.getfield 15, 3) := by decide +kernel
theorem d_D_joinFirstBlocking_7 : decode prog_2_method_8_code 7 = .ok (.invokevirtual 29, 3) := by decide +kernel
theorem d_D_joinFirstBlocking_10 : decode prog_2_method_8_code 10 = .ok (.if_icmp .ge 59, 3) := by decide +kernel
theorem d_D_joinFirstBlocking_13 : decode prog_2_method_8_code 13 = .ok (.iload_n 1, 1) := by decide +kernel
theorem d_D_joinFirstBlocking_14 : decode prog_2_method_8_code 14 = .ok (.iconst 1, 1) := by decide +kernel
theorem d_D_joinFirstBlocking_15 : decode prog_2_method_8_code 15 = .ok (.iadd, 1) := by decide +kernel
theorem d_D_joinFirstBlocking_16 : decode prog_2_method_8_code 16 = .ok (.istore_n 2, 1) := by decide +kernel
theorem d_D_joinFirstBlocking_17 : decode prog_2_method_8_code 17 = .ok (.iload_n 2, 1) := by decide +kernel
theorem d_D_joinFirstBlocking_18 : decode prog_2_method_8_code 18 = .ok (.aload_n 0, 1) := by decide +kernel
theorem d_D_joinFirstBlocking_19 : decode prog_2_method_8_code 19 = .ok (.getfield 15, 3) := by decide +kernel
theorem d_D_joinFirstBlocking_22 : decode prog_2_method_8_code 22 = .ok (.invokevirtual 29, 3) := by decide +kernel
theorem d_D_joinFirstBlocking_25 : decode prog_2_method_8_code 25 = .ok (.if_icmp .ge 38, 3) := by decide +kernel
theorem d_D_joinFirstBlocking_28 : decode prog_2_method_8_code 28 = .ok (.aload_n 0, 1) := by decide +kernel
theorem d_D_joinFirstBlocking_29 : decode prog_2_method_8_code 29 = .ok (.getfield 15, 3) := by decide +kernel
theorem d_D_joinFirstBlocking_32 : decode prog_2_method_8_code 32 = .ok (.iload_n 1, 1) := by decide +kernel
theorem d_D_joinFirstBlocking_33 : decode prog_2_method_8_code 33 = .ok (.iload_n 2, 1) := by decide +kernel
theorem d_D_joinFirstBlocking_34 : decode prog_2_method_8_code 34 = .ok (.aload_n 0, 1) := by decide +kernel
theorem d_D_joinFirstBlocking_35 : decode prog_2_method_8_code 35 = .ok (.getfield 9, 3) := by decide +kernel
theorem d_D_joinFirstBlocking_38 : decode prog_2_method_8_code 38 = .ok (.invokevirtual 33, 3) := by decide +kernel
theorem d_D_joinFirstBlocking_41 : decode prog_2_method_8_code 41 = .ok (.ifCond .eq 16, 3) := by decide +kernel
theorem d_D_joinFirstBlocking_44 : decode prog_2_method_8_code 44 = .ok (.aload_n 0, 1) := by decide +kernel
theorem d_D_joinFirstBlocking_45 : decode prog_2_method_8_code 45 = .ok (.iload_n 1, 1) := by decide +kernel
theorem d_D_joinFirstBlocking_46 : decode prog_2_method_8_code 46 = .ok (.iload_n 2, 1) := by decide +kernel
theorem d_D_joinFirstBlocking_47 : decode prog_2_method_8_code 47 = .ok (.invokevirtual 37, 3) := by decide +kernel
theorem d_D_joinFirstBlocking_50 : decode prog_2_method_8_code 50 = .ok (.iload_n 1, 1) := by decide +kernel
theorem d_D_joinFirstBlocking_51 : decode prog_2_method_8_code 51 = .ok (.bipush 8, 2) := by decide +kernel
theorem d_D_joinFirstBlocking_53 : decode prog_2_method_8_code 53 = .ok (.imul, 1) := by decide +kernel
theorem d_D_joinFirstBlocking_54 : decode prog_2_method_8_code 54 = .ok (.iload_n 2, 1) := by decide +kernel
theorem d_D_joinFirstBlocking_55 : decode prog_2_method_8_code 55 = .ok (.iadd, 1) := by decide +kernel
theorem d_D_joinFirstBlocking_56 : decode prog_2_method_8_code 56 = .ok (.ireturn, 1) := by decide +kernel
theorem d_D_joinFirstBlocking_57 : decode prog_2_method_8_code 57 = .ok (.iinc 2 1, 3) := by decide +kernel
theorem d_D_joinFirstBlocking_60 : decode prog_2_method_8_code 60 = .ok (.goto (-43), 3) := by decide +kernel
theorem d_D_joinFirstBlocking_63 : decode prog_2_method_8_code 63 = .ok (.iinc 1 1, 3) := by decide +kernel
theorem d_D_joinFirstBlocking_66 : decode prog_2_method_8_code 66 = .ok (.goto (-64), 3) := by decide +kernel
theorem d_D_joinFirstBlocking_69 : decode prog_2_method_8_code 69 = .ok (.iconst (-1), 1) := by decide +kernel
theorem d_D_joinFirstBlocking_70 : decode prog_2_method_8_code 70 = .ok (.ireturn, 1) := by decide +kernel
theorem d_D_countAstray_0 : decode prog_2_method_9_code 0 = .ok (.iconst 0, 1) := by decide +kernel
theorem d_D_countAstray_1 : decode prog_2_method_9_code 1 = .ok (.istore_n 1, 1) := by decide +kernel
theorem d_D_countAstray_2 : decode prog_2_method_9_code 2 = .ok (.iconst 0, 1) := by decide +kernel
theorem d_D_countAstray_3 : decode prog_2_method_9_code 3 = .ok (.istore_n 2, 1) := by decide +kernel
theorem d_D_countAstray_4 : decode prog_2_method_9_code 4 = .ok (.iload_n 2, 1) := by decide +kernel
theorem d_D_countAstray_5 : decode prog_2_method_9_code 5 = .ok (.aload_n 0, 1) := by decide +kernel
theorem d_D_countAstray_6 : decode prog_2_method_9_code 6 = .ok (.getfield 15, 3) := by decide +kernel
theorem d_D_countAstray_9 : decode prog_2_method_9_code 9 = .ok (.invokevirtual 29, 3) := by decide +kernel
theorem d_D_countAstray_12 : decode prog_2_method_9_code 12 = .ok (.if_icmp .ge 20, 3) := by decide +kernel
theorem d_D_countAstray_15 : decode prog_2_method_9_code 15 = .ok (.aload_n 0, 1) := by decide +kernel
theorem d_D_countAstray_16 : decode prog_2_method_9_code 16 = .ok (.iload_n 2, 1) := by decide +kernel
theorem d_D_countAstray_17 : decode prog_2_method_9_code 17 = .ok (.invokevirtual 41, 3) := by decide +kernel
theorem d_D_countAstray_20 : decode prog_2_method_9_code 20 = .ok (.ifCond .eq 6, 3) := by decide +kernel
theorem d_D_countAstray_23 : decode prog_2_method_9_code 23 = .ok (.iinc 1 1, 3) := by decide +kernel
theorem d_D_countAstray_26 : decode prog_2_method_9_code 26 = .ok (.iinc 2 1, 3) := by decide +kernel
theorem d_D_countAstray_29 : decode prog_2_method_9_code 29 = .ok (.goto (-25), 3) := by decide +kernel
theorem d_D_countAstray_32 : decode prog_2_method_9_code 32 = .ok (.iload_n 1, 1) := by decide +kernel
theorem d_D_countAstray_33 : decode prog_2_method_9_code 33 = .ok (.ireturn, 1) := by decide +kernel
theorem d_D_isAstray_0 : decode prog_2_method_10_code 0 = .ok (.aload_n 0, 1) := by decide +kernel
theorem d_D_isAstray_1 : decode prog_2_method_10_code 1 = .ok (.getfield 9, 3) := by decide +kernel
theorem d_D_isAstray_4 : decode prog_2_method_10_code 4 = .ok (.iload_n 1, 1) := by decide +kernel
theorem d_D_isAstray_5 : decode prog_2_method_10_code 5 = .ok (.iaload, 1) := by decide +kernel
theorem d_D_isAstray_6 : decode prog_2_method_10_code 6 = .ok (.istore_n 2, 1) := by decide +kernel
theorem d_D_isAstray_7 : decode prog_2_method_10_code 7 = .ok (.aload_n 0, 1) := by decide +kernel
theorem d_D_isAstray_8 : decode prog_2_method_10_code 8 = .ok (.getfield 9, 3) := by decide +kernel
theorem d_D_isAstray_11 : decode prog_2_method_10_code 11 = .ok (.iload_n 2, 1) := by decide +kernel
theorem d_D_isAstray_12 : decode prog_2_method_10_code 12 = .ok (.iaload, 1) := by decide +kernel
theorem d_D_isAstray_13 : decode prog_2_method_10_code 13 = .ok (.iload_n 1, 1) := by decide +kernel
theorem d_D_isAstray_14 : decode prog_2_method_10_code 14 = .ok (.if_icmp .ne 20, 3) := by decide +kernel
theorem d_D_isAstray_17 : decode prog_2_method_10_code 17 = .ok (.iload_n 2, 1) := by decide +kernel
theorem d_D_isAstray_18 : decode prog_2_method_10_code 18 = .ok (.iload_n 1, 1) := by decide +kernel
theorem d_D_isAstray_19 : decode prog_2_method_10_code 19 = .ok (.if_icmp .eq 19, 3) := by decide +kernel
theorem d_D_isAstray_22 : decode prog_2_method_10_code 22 = .ok (.aload_n 0, 1) := by decide +kernel
theorem d_D_isAstray_23 : decode prog_2_method_10_code 23 = .ok (.getfield 15, 3) := by decide +kernel
theorem d_D_isAstray_26 : decode prog_2_method_10_code 26 = .ok (.iload_n 1, 1) := by decide +kernel
theorem d_D_isAstray_27 : decode prog_2_method_10_code 27 = .ok (.iload_n 2, 1) := by decide +kernel
theorem d_D_isAstray_28 : decode prog_2_method_10_code 28 = .ok (.invokevirtual 23, 3) := by decide +kernel
theorem d_D_isAstray_31 : decode prog_2_method_10_code 31 = .ok (.ifCond .ne 7, 3) := by decide +kernel
theorem d_D_isAstray_34 : decode prog_2_method_10_code 34 = .ok (.iconst 1, 1) := by decide +kernel
theorem d_D_isAstray_35 : decode prog_2_method_10_code 35 = .ok (.goto 4, 3) := by decide +kernel
theorem d_D_isAstray_38 : decode prog_2_method_10_code 38 = .ok (.iconst 0, 1) := by decide +kernel
theorem d_D_isAstray_39 : decode prog_2_method_10_code 39 = .ok (.ireturn, 1) := by decide +kernel
