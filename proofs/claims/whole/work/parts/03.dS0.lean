/-! what stands where: S -/
theorem d_S_init_0 : decode prog_4_method_1_code 0 = .ok (.aload_n 0, 1) := by decide +kernel
theorem d_S_init_1 : decode prog_4_method_1_code 1 = .ok (.invokespecial 3, 3) := by decide +kernel
theorem d_S_init_4 : decode prog_4_method_1_code 4 = .ok (.aload_n 0, 1) := by decide +kernel
theorem d_S_init_5 : decode prog_4_method_1_code 5 = .ok (.bipush 8, 2) := by decide +kernel
theorem d_S_init_7 : decode prog_4_method_1_code 7 = .ok (.newarray .int, 2) := by decide +kernel
theorem d_S_init_9 : decode prog_4_method_1_code 9 = .ok (.putfield 9, 3) := by decide +kernel
theorem d_S_init_12 : decode prog_4_method_1_code 12 = .ok (.aload_n 0, 1) := by decide +kernel
theorem d_S_init_13 : decode prog_4_method_1_code 13 = .ok (.bipush 8, 2) := by decide +kernel
theorem d_S_init_15 : decode prog_4_method_1_code 15 = .ok (.newarray .int, 2) := by decide +kernel
theorem d_S_init_17 : decode prog_4_method_1_code 17 = .ok (.putfield 15, 3) := by decide +kernel
theorem d_S_init_20 : decode prog_4_method_1_code 20 = .ok (.aload_n 0, 1) := by decide +kernel
theorem d_S_init_21 : decode prog_4_method_1_code 21 = .ok (.bipush 8, 2) := by decide +kernel
theorem d_S_init_23 : decode prog_4_method_1_code 23 = .ok (.bipush 8, 2) := by decide +kernel
theorem d_S_init_25 : decode prog_4_method_1_code 25 = .ok (.multianewarray 18 2, 4) := by decide +kernel
theorem d_S_init_29 : decode prog_4_method_1_code 29 = .ok (.putfield 20, 3) := by decide +kernel
theorem d_S_init_32 : decode prog_4_method_1_code 32 = .ok (.aload_n 0, 1) := by decide +kernel
theorem d_S_init_33 : decode prog_4_method_1_code 33 = .ok (.iconst (-1), 1) := by decide +kernel
theorem d_S_init_34 : decode prog_4_method_1_code 34 = .ok (.putfield 23, 3) := by decide +kernel
theorem d_S_init_37 : decode prog_4_method_1_code 37 = .ok (.aload_n 0, 1) := by decide +kernel
theorem d_S_init_38 : decode prog_4_method_1_code 38 = .ok (.aload_n 1, 1) := by decide +kernel
theorem d_S_init_39 : decode prog_4_method_1_code 39 = .ok (.putfield 27, 3) := by decide +kernel
theorem d_S_init_42 : decode prog_4_method_1_code 42 = .ok (.return_, 1) := by decide +kernel
theorem d_S_howMany_0 : decode prog_4_method_2_code 0 = .ok (.aload_n 0, 1) := by decide +kernel
theorem d_S_howMany_1 : decode prog_4_method_2_code 1 = .ok (.invokevirtual 31, 3) := by decide +kernel
theorem d_S_howMany_4 : decode prog_4_method_2_code 4 = .ok (.aload_n 0, 1) := by decide +kernel
theorem d_S_howMany_5 : decode prog_4_method_2_code 5 = .ok (.getfield 34, 3) := by decide +kernel
theorem d_S_howMany_8 : decode prog_4_method_2_code 8 = .ok (.ireturn, 1) := by decide +kernel
theorem d_S_mateInFirst_0 : decode prog_4_method_3_code 0 = .ok (.aload_n 0, 1) := by decide +kernel
theorem d_S_mateInFirst_1 : decode prog_4_method_3_code 1 = .ok (.invokevirtual 31, 3) := by decide +kernel
theorem d_S_mateInFirst_4 : decode prog_4_method_3_code 4 = .ok (.aload_n 0, 1) := by decide +kernel
theorem d_S_mateInFirst_5 : decode prog_4_method_3_code 5 = .ok (.getfield 34, 3) := by decide +kernel
theorem d_S_mateInFirst_8 : decode prog_4_method_3_code 8 = .ok (.ifCond .ne 7, 3) := by decide +kernel
theorem d_S_mateInFirst_11 : decode prog_4_method_3_code 11 = .ok (.iconst (-1), 1) := by decide +kernel
theorem d_S_mateInFirst_12 : decode prog_4_method_3_code 12 = .ok (.goto 9, 3) := by decide +kernel
theorem d_S_mateInFirst_15 : decode prog_4_method_3_code 15 = .ok (.aload_n 0, 1) := by decide +kernel
theorem d_S_mateInFirst_16 : decode prog_4_method_3_code 16 = .ok (.getfield 15, 3) := by decide +kernel
theorem d_S_mateInFirst_19 : decode prog_4_method_3_code 19 = .ok (.iload_n 1, 1) := by decide +kernel
theorem d_S_mateInFirst_20 : decode prog_4_method_3_code 20 = .ok (.iaload, 1) := by decide +kernel
theorem d_S_mateInFirst_21 : decode prog_4_method_3_code 21 = .ok (.ireturn, 1) := by decide +kernel
theorem d_S_howOften_0 : decode prog_4_method_4_code 0 = .ok (.aload_n 0, 1) := by decide +kernel
theorem d_S_howOften_1 : decode prog_4_method_4_code 1 = .ok (.invokevirtual 31, 3) := by decide +kernel
theorem d_S_howOften_4 : decode prog_4_method_4_code 4 = .ok (.aload_n 0, 1) := by decide +kernel
theorem d_S_howOften_5 : decode prog_4_method_4_code 5 = .ok (.getfield 20, 3) := by decide +kernel
theorem d_S_howOften_8 : decode prog_4_method_4_code 8 = .ok (.iload_n 1, 1) := by decide +kernel
theorem d_S_howOften_9 : decode prog_4_method_4_code 9 = .ok (.aaload, 1) := by decide +kernel
theorem d_S_howOften_10 : decode prog_4_method_4_code 10 = .ok (.iload_n 2, 1) := by decide +kernel
theorem d_S_howOften_11 : decode prog_4_method_4_code 11 = .ok (.iaload, 1) := by decide +kernel
theorem d_S_howOften_12 : decode prog_4_method_4_code 12 = .ok (.ireturn, 1) := by decide +kernel
theorem d_S_bestMate_0 : decode prog_4_method_5_code 0 = .ok (.aload_n 0, 1) := by decide +kernel
theorem d_S_bestMate_1 : decode prog_4_method_5_code 1 = .ok (.invokevirtual 31, 3) := by decide +kernel
theorem d_S_bestMate_4 : decode prog_4_method_5_code 4 = .ok (.iconst 0, 1) := by decide +kernel
theorem d_S_bestMate_5 : decode prog_4_method_5_code 5 = .ok (.istore_n 2, 1) := by decide +kernel
theorem d_S_bestMate_6 : decode prog_4_method_5_code 6 = .ok (.iload_n 2, 1) := by decide +kernel
theorem d_S_bestMate_7 : decode prog_4_method_5_code 7 = .ok (.aload_n 0, 1) := by decide +kernel
theorem d_S_bestMate_8 : decode prog_4_method_5_code 8 = .ok (.getfield 27, 3) := by decide +kernel
theorem d_S_bestMate_11 : decode prog_4_method_5_code 11 = .ok (.iload_n 1, 1) := by decide +kernel
theorem d_S_bestMate_12 : decode prog_4_method_5_code 12 = .ok (.invokevirtual 37, 3) := by decide +kernel
theorem d_S_bestMate_15 : decode prog_4_method_5_code 15 = .ok (.if_icmp .ge 32, 3) := by decide +kernel
theorem d_S_bestMate_18 : decode prog_4_method_5_code 18 = .ok (.aload_n 0, 1) := by decide +kernel
theorem d_S_bestMate_19 : decode prog_4_method_5_code 19 = .ok (.getfield 27, 3) := by decide +kernel
theorem d_S_bestMate_22 : decode prog_4_method_5_code 22 = .ok (.iload_n 1, 1) := by decide +kernel
theorem d_S_bestMate_23 : decode prog_4_method_5_code 23 = .ok (.iload_n 2, 1) := by decide +kernel
theorem d_S_bestMate_24 : decode prog_4_method_5_code 24 = .ok (.invokevirtual 43, 3) := by decide +kernel
theorem d_S_bestMate_27 : decode prog_4_method_5_code 27 = .ok (.istore_n 3, 1) := by decide +kernel
theorem d_S_bestMate_28 : decode prog_4_method_5_code 28 = .ok (.aload_n 0, 1) := by decide +kernel
theorem d_S_bestMate_29 : decode prog_4_method_5_code 29 = .ok (.getfield 20, 3) := by decide +kernel
theorem d_S_bestMate_32 : decode prog_4_method_5_code 32 = .ok (.iload_n 1, 1) := by decide +kernel
theorem d_S_bestMate_33 : decode prog_4_method_5_code 33 = .ok (.aaload, 1) := by decide +kernel
theorem d_S_bestMate_34 : decode prog_4_method_5_code 34 = .ok (.iload_n 3, 1) := by decide +kernel
theorem d_S_bestMate_35 : decode prog_4_method_5_code 35 = .ok (.iaload, 1) := by decide +kernel
theorem d_S_bestMate_36 : decode prog_4_method_5_code 36 = .ok (.ifCond .le 5, 3) := by decide +kernel
theorem d_S_bestMate_39 : decode prog_4_method_5_code 39 = .ok (.iload_n 3, 1) := by decide +kernel
theorem d_S_bestMate_40 : decode prog_4_method_5_code 40 = .ok (.ireturn, 1) := by decide +kernel
theorem d_S_bestMate_41 : decode prog_4_method_5_code 41 = .ok (.iinc 2 1, 3) := by decide +kernel
theorem d_S_bestMate_44 : decode prog_4_method_5_code 44 = .ok (.goto (-38), 3) := by decide +kernel
theorem d_S_bestMate_47 : decode prog_4_method_5_code 47 = .ok (.aload_n 0, 1) := by decide +kernel
theorem d_S_bestMate_48 : decode prog_4_method_5_code 48 = .ok (.getfield 34, 3) := by decide +kernel
theorem d_S_bestMate_51 : decode prog_4_method_5_code 51 = .ok (.ifCond .ne 7, 3) := by decide +kernel
theorem d_S_bestMate_54 : decode prog_4_method_5_code 54 = .ok (.iconst (-1), 1) := by decide +kernel
theorem d_S_bestMate_55 : decode prog_4_method_5_code 55 = .ok (.goto 4, 3) := by decide +kernel
theorem d_S_bestMate_58 : decode prog_4_method_5_code 58 = .ok (.iload_n 1, 1) := by decide +kernel
theorem d_S_bestMate_59 : decode prog_4_method_5_code 59 = .ok (.ireturn, 1) := by decide +kernel
theorem d_S_worstMate_0 : decode prog_4_method_6_code 0 = .ok (.aload_n 0, 1) := by decide +kernel
theorem d_S_worstMate_1 : decode prog_4_method_6_code 1 = .ok (.invokevirtual 31, 3) := by decide +kernel
theorem d_S_worstMate_4 : decode prog_4_method_6_code 4 = .ok (.aload_n 0, 1) := by decide +kernel
theorem d_S_worstMate_5 : decode prog_4_method_6_code 5 = .ok (.getfield 20, 3) := by decide +kernel
theorem d_S_worstMate_8 : decode prog_4_method_6_code 8 = .ok (.iload_n 1, 1) := by decide +kernel
theorem d_S_worstMate_9 : decode prog_4_method_6_code 9 = .ok (.aaload, 1) := by decide +kernel
theorem d_S_worstMate_10 : decode prog_4_method_6_code 10 = .ok (.iload_n 1, 1) := by decide +kernel
theorem d_S_worstMate_11 : decode prog_4_method_6_code 11 = .ok (.iaload, 1) := by decide +kernel
theorem d_S_worstMate_12 : decode prog_4_method_6_code 12 = .ok (.ifCond .le 5, 3) := by decide +kernel
theorem d_S_worstMate_15 : decode prog_4_method_6_code 15 = .ok (.iload_n 1, 1) := by decide +kernel
theorem d_S_worstMate_16 : decode prog_4_method_6_code 16 = .ok (.ireturn, 1) := by decide +kernel
theorem d_S_worstMate_17 : decode prog_4_method_6_code 17 = .ok (.aload_n 0, 1) := by decide +kernel
theorem d_S_worstMate_18 : decode prog_4_method_6_code 18 = .ok (.getfield 27, 3) := by decide +kernel
theorem d_S_worstMate_21 : decode prog_4_method_6_code 21 = .ok (.iload_n 1, 1) := by decide +kernel
theorem d_S_worstMate_22 : decode prog_4_method_6_code 22 = .ok (.invokevirtual 37, 3) := by decide +kernel
theorem d_S_worstMate_25 : decode prog_4_method_6_code 25 = .ok (.iconst 1, 1) := by decide +kernel
theorem d_S_worstMate_26 : decode prog_4_method_6_code 26 = .ok (.isub, 1) := by decide +kernel
theorem d_S_worstMate_27 : decode prog_4_method_6_code 27 = .ok (.istore_n 2, 1) := by decide +kernel
theorem d_S_worstMate_28 : decode prog_4_method_6_code 28 = .ok (.iload_n 2, 1) := by decide +kernel
theorem d_S_worstMate_29 : decode prog_4_method_6_code 29 = .ok (.ifCond .lt 32, 3) := by decide +kernel
theorem d_S_worstMate_32 : decode prog_4_method_6_code 32 = .ok (.aload_n 0, 1) := by decide +kernel
theorem d_S_worstMate_33 : decode prog_4_method_6_code 33 = .ok (.getfield 27, 3) := by decide +kernel
theorem d_S_worstMate_36 : decode prog_4_method_6_code 36 = .ok (.iload_n 1, 1) := by decide +kernel
theorem d_S_worstMate_37 : decode prog_4_method_6_code 37 = .ok (.iload_n 2, 1) := by decide +kernel
theorem d_S_worstMate_38 : decode prog_4_method_6_code 38 = .ok (.invokevirtual 43, 3) := by decide +kernel
theorem d_S_worstMate_41 : decode prog_4_method_6_code 41 = .ok (.istore_n 3, 1) := by decide +kernel
theorem d_S_worstMate_42 : decode prog_4_method_6_code 42 = .ok (.aload_n 0, 1) := by decide +kernel
theorem d_S_worstMate_43 : decode prog_4_method_6_code 43 = .ok (.getfield 20, 3) := by decide +kernel
theorem d_S_worstMate_46 : decode prog_4_method_6_code 46 = .ok (.iload_n 1, 1) := by decide +kernel
theorem d_S_worstMate_47 : decode prog_4_method_6_code 47 = .ok (.aaload, 1) := by decide +kernel
theorem d_S_worstMate_48 : decode prog_4_method_6_code 48 = .ok (.iload_n 3, 1) := by decide +kernel
theorem d_S_worstMate_49 : decode prog_4_method_6_code 49 = .ok (.iaload, 1) := by decide +kernel
theorem d_S_worstMate_50 : decode prog_4_method_6_code 50 = .ok (.ifCond .le 5, 3) := by decide +kernel
theorem d_S_worstMate_53 : decode prog_4_method_6_code 53 = .ok (.iload_n 3, 1) := by decide +kernel
theorem d_S_worstMate_54 : decode prog_4_method_6_code 54 = .ok (.ireturn, 1) := by decide +kernel
theorem d_S_worstMate_55 : decode prog_4_method_6_code 55 = .ok (.iinc 2 (-1), 3) := by decide +kernel
theorem d_S_worstMate_58 : decode prog_4_method_6_code 58 = .ok (.goto (-30), 3) := by decide +kernel
theorem d_S_worstMate_61 : decode prog_4_method_6_code 61 = .ok (.iconst (-1), 1) := by decide +kernel
theorem d_S_worstMate_62 : decode prog_4_method_6_code 62 = .ok (.ireturn, 1) := by decide +kernel
theorem d_S_reckon_0 : decode prog_4_method_7_code 0 = .ok (.aload_n 0, 1) := by decide +kernel
theorem d_S_reckon_1 : decode prog_4_method_7_code 1 = .ok (.getfield 23, 3) := by decide +kernel
theorem d_S_reckon_4 : decode prog_4_method_7_code 4 = .ok (.aload_n 0, 1) := by decide +kernel
theorem d_S_reckon_5 : decode prog_4_method_7_code 5 = .ok (.getfield 27, 3) := by decide +kernel
theorem d_S_reckon_8 : decode prog_4_method_7_code 8 = .ok (.invokevirtual 47, 3) := by decide +kernel
theorem d_S_reckon_11 : decode prog_4_method_7_code 11 = .ok (.if_icmp .ne 4, 3) := by decide +kernel
theorem d_S_reckon_14 : decode prog_4_method_7_code 14 = .ok (.return_, 1) := by decide +kernel
theorem d_S_reckon_15 : decode prog_4_method_7_code 15 = .ok (.aload_n 0, 1) := by decide +kernel
theorem d_S_reckon_16 : decode prog_4_method_7_code 16 = .ok (.aload_n 0, 1) := by decide +kernel
theorem d_S_reckon_17 : decode prog_4_method_7_code 17 = .ok (.getfield 27, 3) := by decide +kernel
theorem d_S_reckon_20 : decode prog_4_method_7_code 20 = .ok (.invokevirtual 47, 3) := by decide +kernel
theorem d_S_reckon_23 : decode prog_4_method_7_code 23 = .ok (.putfield 23, 3) := by decide +kernel
theorem d_S_reckon_26 : decode prog_4_method_7_code 26 = .ok (.aload_n 0, 1) := by decide +kernel
theorem d_S_reckon_27 : decode prog_4_method_7_code 27 = .ok (.iconst 0, 1) := by decide +kernel
theorem d_S_reckon_28 : decode prog_4_method_7_code 28 = .ok (.putfield 34, 3) := by decide +kernel
theorem d_S_reckon_31 : decode prog_4_method_7_code 31 = .ok (.iconst 0, 1) := by decide +kernel
theorem d_S_reckon_32 : decode prog_4_method_7_code 32 = .ok (.istore_n 1, 1) := by decide +kernel
theorem d_S_reckon_33 : decode prog_4_method_7_code 33 = .ok (.iload_n 1, 1) := by decide +kernel
theorem d_S_reckon_34 : decode prog_4_method_7_code 34 = .ok (.bipush 8, 2) := by decide +kernel
theorem d_S_reckon_36 : decode prog_4_method_7_code 36 = .ok (.if_icmp .ge 39, 3) := by decide +kernel
theorem d_S_reckon_39 : decode prog_4_method_7_code 39 = .ok (.aload_n 0, 1) := by decide +kernel
theorem d_S_reckon_40 : decode prog_4_method_7_code 40 = .ok (.getfield 9, 3) := by decide +kernel
theorem d_S_reckon_43 : decode prog_4_method_7_code 43 = .ok (.iload_n 1, 1) := by decide +kernel
theorem d_S_reckon_44 : decode prog_4_method_7_code 44 = .ok (.iconst (-1), 1) := by decide +kernel
theorem d_S_reckon_45 : decode prog_4_method_7_code 45 = .ok (.iastore, 1) := by decide +kernel
theorem d_S_reckon_46 : decode prog_4_method_7_code 46 = .ok (.iconst 0, 1) := by decide +kernel
theorem d_S_reckon_47 : decode prog_4_method_7_code 47 = .ok (.istore_n 2, 1) := by decide +kernel
theorem d_S_reckon_48 : decode prog_4_method_7_code 48 = .ok (.iload_n 2, 1) := by decide +kernel
theorem d_S_reckon_49 : decode prog_4_method_7_code 49 = .ok (.bipush 8, 2) := by decide +kernel
theorem d_S_reckon_51 : decode prog_4_method_7_code 51 = .ok (.if_icmp .ge 18, 3) := by decide +kernel
theorem d_S_reckon_54 : decode prog_4_method_7_code 54 = .ok (.aload_n 0, 1) := by decide +kernel
theorem d_S_reckon_55 : decode prog_4_method_7_code 55 = .ok (.getfield 20, 3) := by decide +kernel
theorem d_S_reckon_58 : decode prog_4_method_7_code 58 = .ok (.iload_n 1, 1) := by decide +kernel
theorem d_S_reckon_59 : decode prog_4_method_7_code 59 = .ok (.aaload, 1) := by decide +kernel
theorem d_S_reckon_60 : decode prog_4_method_7_code 60 = .ok (.iload_n 2, 1) := by decide +kernel
theorem d_S_reckon_61 : decode prog_4_method_7_code 61 = .ok (.iconst 0, 1) := by decide +kernel
theorem d_S_reckon_62 : decode prog_4_method_7_code 62 = .ok (.iastore, 1) := by decide +kernel
theorem d_S_reckon_63 : decode prog_4_method_7_code 63 = .ok (.iinc 2 1, 3) := by decide +kernel
theorem d_S_reckon_66 : decode prog_4_method_7_code 66 = .ok (.goto (-18), 3) := by decide +kernel
theorem d_S_reckon_69 : decode prog_4_method_7_code 69 = .ok (.iinc 1 1, 3) := by decide +kernel
theorem d_S_reckon_72 : decode prog_4_method_7_code 72 = .ok (.goto (-39), 3) := by decide +kernel
theorem d_S_reckon_75 : decode prog_4_method_7_code 75 = .ok (.aload_n 0, 1) := by decide +kernel
theorem d_S_reckon_76 : decode prog_4_method_7_code 76 = .ok (.iconst 0, 1) := by decide +kernel
theorem d_S_reckon_77 : decode prog_4_method_7_code 77 = .ok (.invokevirtual 51, 3) := by decide +kernel
theorem d_S_reckon_80 : decode prog_4_method_7_code 80 = .ok (.return_, 1) := by decide +kernel
theorem d_S_search_0 : decode prog_4_method_8_code 0 = .ok (.iload_n 1, 1) := by decide +kernel
theorem d_S_search_1 : decode prog_4_method_8_code 1 = .ok (.aload_n 0, 1) := by decide +kernel
theorem d_S_search_2 : decode prog_4_method_8_code 2 = .ok (.getfield 27, 3) := by decide +kernel
theorem d_S_search_5 : decode prog_4_method_8_code 5 = .ok (.invokevirtual 55, 3) := by decide +kernel
theorem d_S_search_8 : decode prog_4_method_8_code 8 = .ok (.if_icmp .lt 8, 3) := by decide +kernel
theorem d_S_search_11 : decode prog_4_method_8_code 11 = .ok (.aload_n 0, 1) := by decide +kernel
theorem d_S_search_12 : decode prog_4_method_8_code 12 = .ok (.invokevirtual 58, 3) := by decide +kernel
theorem d_S_search_15 : decode prog_4_method_8_code 15 = .ok (.return_, 1) := by decide +kernel
theorem d_S_search_16 : decode prog_4_method_8_code 16 = .ok (.aload_n 0, 1) := by decide +kernel
theorem d_S_search_17 : decode prog_4_method_8_code 17 = .ok (.getfield 9, 3) := by decide +kernel
theorem d_S_search_20 : decode prog_4_method_8_code 20 = .ok (.iload_n 1, 1) := by decide +kernel
theorem d_S_search_21 : decode prog_4_method_8_code 21 = .ok (.iaload, 1) := by decide +kernel
theorem d_S_search_22 : decode prog_4_method_8_code 22 = .ok (.iconst (-1), 1) := by decide +kernel
theorem d_S_search_23 : decode prog_4_method_8_code 23 = .ok (.if_icmp .eq 11, 3) := by decide +kernel
theorem d_S_search_26 : decode prog_4_method_8_code 26 = .ok (.aload_n 0, 1) := by decide +kernel
theorem d_S_search_27 : decode prog_4_method_8_code 27 = .ok (.iload_n 1, 1) := by decide +kernel
theorem d_S_search_28 : decode prog_4_method_8_code 28 = .ok (.iconst 1, 1) := by decide +kernel
theorem d_S_search_29 : decode prog_4_method_8_code 29 = .ok (.iadd, 1) := by decide +kernel
theorem d_S_search_30 : decode prog_4_method_8_code 30 = .ok (.invokevirtual 51, 3) := by decide +kernel
theorem d_S_search_33 : decode prog_4_method_8_code 33 = .ok (.return_, 1) := by decide +kernel
theorem d_S_search_34 : decode prog_4_method_8_code 34 = .ok (.iconst 0, 1) := by decide +kernel
theorem d_S_search_35 : decode prog_4_method_8_code 35 = .ok (.istore_n 2, 1) := by decide +kernel
theorem d_S_search_36 : decode prog_4_method_8_code 36 = .ok (.iload_n 2, 1) := by decide +kernel
theorem d_S_search_37 : decode prog_4_method_8_code 37 = .ok (.aload_n 0, 1) := by decide +kernel
theorem d_S_search_38 : decode prog_4_method_8_code 38 = .ok (.getfield 27, 3) := by decide +kernel
theorem d_S_search_41 : decode prog_4_method_8_code 41 = .ok (.iload_n 1, 1) := by decide +kernel
theorem d_S_search_42 : decode prog_4_method_8_code 42 = .ok (.invokevirtual 37, 3) := by decide +kernel
theorem d_S_search_45 : decode prog_4_method_8_code 45 = .ok (.if_icmp .ge 47, 3) := by decide +kernel
theorem d_S_search_48 : decode prog_4_method_8_code 48 = .ok (.aload_n 0, 1) := by decide +kernel
theorem d_S_search_49 : decode prog_4_method_8_code 49 = .ok (.getfield 27, 3) := by decide +kernel
theorem d_S_search_52 : decode prog_4_method_8_code 52 = .ok (.iload_n 1, 1) := by decide +kernel
theorem d_S_search_53 : decode prog_4_method_8_code 53 = .ok (.iload_n 2, 1) := by decide +kernel
theorem d_S_search_54 : decode prog_4_method_8_code 54 = .ok (.invokevirtual 43, 3) := by decide +kernel
theorem d_S_search_57 : decode prog_4_method_8_code 57 = .ok (.istore_n 3, 1) := by decide +kernel
theorem d_S_search_58 : decode prog_4_method_8_code 58 = .ok (.aload_n 0, 1) := by decide +kernel
theorem d_S_search_59 : decode prog_4_method_8_code 59 = .ok (.getfield 9, 3) := by decide +kernel
theorem d_S_search_62 : decode prog_4_method_8_code 62 = .ok (.iload_n 3, 1) := by decide +kernel
theorem d_S_search_63 : decode prog_4_method_8_code 63 = .ok (.iaload, 1) := by decide +kernel
theorem d_S_search_64 : decode prog_4_method_8_code 64 = .ok (.iconst (-1), 1) := by decide +kernel
theorem d_S_search_65 : decode prog_4_method_8_code 65 = .ok (.if_icmp .ne 21, 3) := by decide +kernel
theorem d_S_search_68 : decode prog_4_method_8_code 68 = .ok (.aload_n 0, 1) := by decide +kernel
theorem d_S_search_69 : decode prog_4_method_8_code 69 = .ok (.getfield 27, 3) := by decide +kernel
theorem d_S_search_72 : decode prog_4_method_8_code 72 = .ok (.iload_n 1, 1) := by decide +kernel
theorem d_S_search_73 : decode prog_4_method_8_code 73 = .ok (.iload_n 3, 1) := by decide +kernel
theorem d_S_search_74 : decode prog_4_method_8_code 74 = .ok (.invokevirtual 61, 3) := by decide +kernel
theorem d_S_search_77 : decode prog_4_method_8_code 77 = .ok (.ifCond .eq 9, 3) := by decide +kernel
theorem d_S_search_80 : decode prog_4_method_8_code 80 = .ok (.aload_n 0, 1) := by decide +kernel
theorem d_S_search_81 : decode prog_4_method_8_code 81 = .ok (.iload_n 1, 1) := by decide +kernel
theorem d_S_search_82 : decode prog_4_method_8_code 82 = .ok (.iload_n 3, 1) := by decide +kernel
theorem d_S_search_83 : decode prog_4_method_8_code 83 = .ok (.invokevirtual 65, 3) := by decide +kernel
theorem d_S_search_86 : decode prog_4_method_8_code 86 = .ok (.iinc 2 1, 3) := by decide +kernel
theorem d_S_search_89 : decode prog_4_method_8_code 89 = .ok (.goto (-53), 3) := by decide +kernel
theorem d_S_search_92 : decode prog_4_method_8_code 92 = .ok (.aload_n 0, 1) := by decide +kernel
theorem d_S_search_93 : decode prog_4_method_8_code 93 = .ok (.iload_n 1, 1) := by decide +kernel
theorem d_S_search_94 : decode prog_4_method_8_code 94 = .ok (.iload_n 1, 1) := by decide +kernel
theorem d_S_search_95 : decode prog_4_method_8_code 95 = .ok (.invokevirtual 65, 3) := by decide +kernel
theorem d_S_search_98 : decode prog_4_method_8_code 98 = .ok (.return_, 1) := by decide +kernel
theorem d_S_searchWith_0 : decode prog_4_method_9_code 0 = .ok (.aload_n 0, 1) := by decide +kernel
theorem d_S_searchWith_1 : decode prog_4_method_9_code 1 = .ok (.getfield 9, 3) := by decide +kernel
theorem d_S_searchWith_4 : decode prog_4_method_9_code 4 = .ok (.iload_n 1, 1) := by decide +kernel
theorem d_S_searchWith_5 : decode prog_4_method_9_code 5 = .ok (.iload_n 2, 1) := by decide +kernel
theorem d_S_searchWith_6 : decode prog_4_method_9_code 6 = .ok (.iastore, 1) := by decide +kernel
theorem d_S_searchWith_7 : decode prog_4_method_9_code 7 = .ok (.aload_n 0, 1) := by decide +kernel
theorem d_S_searchWith_8 : decode prog_4_method_9_code 8 = .ok (.getfield 9, 3) := by decide +kernel
theorem d_S_searchWith_11 : decode prog_4_method_9_code 11 = .ok (.iload_n 2, 1) := by decide +kernel
theorem d_S_searchWith_12 : decode prog_4_method_9_code 12 = .ok (.iload_n 1, 1) := by decide +kernel
theorem d_S_searchWith_13 : decode prog_4_method_9_code 13 = .ok (.iastore, 1) := by decide +kernel
theorem d_S_searchWith_14 : decode prog_4_method_9_code 14 = .ok (.aload_n 0, 1) := by decide +kernel
theorem d_S_searchWith_15 : decode prog_4_method_9_code 15 = .ok (.getfield 27, 3) := by decide +kernel
theorem d_S_searchWith_18 : decode prog_4_method_9_code 18 = .ok (.iload_n 1, 1) := by decide +kernel
theorem d_S_searchWith_19 : decode prog_4_method_9_code 19 = .ok (.aload_n 0, 1) := by decide +kernel
theorem d_S_searchWith_20 : decode prog_4_method_9_code 20 = .ok (.getfield 9, 3) := by decide +kernel
theorem d_S_searchWith_23 : decode prog_4_method_9_code 23 = .ok (.invokevirtual 69, 3) := by decide +kernel
theorem d_S_searchWith_26 : decode prog_4_method_9_code 26 = .ok (.ifCond .ne 25, 3) := by decide +kernel
theorem d_S_searchWith_29 : decode prog_4_method_9_code 29 = .ok (.aload_n 0, 1) := by decide +kernel
theorem d_S_searchWith_30 : decode prog_4_method_9_code 30 = .ok (.getfield 27, 3) := by decide +kernel
theorem d_S_searchWith_33 : decode prog_4_method_9_code 33 = .ok (.iload_n 2, 1) := by decide +kernel
theorem d_S_searchWith_34 : decode prog_4_method_9_code 34 = .ok (.aload_n 0, 1) := by decide +kernel
theorem d_S_searchWith_35 : decode prog_4_method_9_code 35 = .ok (.getfield 9, 3) := by decide +kernel
theorem d_S_searchWith_38 : decode prog_4_method_9_code 38 = .ok (.invokevirtual 69, 3) := by decide +kernel
theorem d_S_searchWith_41 : decode prog_4_method_9_code 41 = .ok (.ifCond .ne 10, 3) := by decide +kernel
theorem d_S_searchWith_44 : decode prog_4_method_9_code 44 = .ok (.aload_n 0, 1) := by decide +kernel
theorem d_S_searchWith_45 : decode prog_4_method_9_code 45 = .ok (.iload_n 1, 1) := by decide +kernel
theorem d_S_searchWith_46 : decode prog_4_method_9_code 46 = .ok (.iconst 1, 1) := by decide +kernel
theorem d_S_searchWith_47 : decode prog_4_method_9_code 47 = .ok (.iadd, 1) := by decide +kernel
theorem d_S_searchWith_48 : decode prog_4_method_9_code 48 = .ok (.invokevirtual 51, 3) := by decide +kernel
theorem d_S_searchWith_51 : decode prog_4_method_9_code 51 = .ok (.aload_n 0, 1) := by decide +kernel
theorem d_S_searchWith_52 : decode prog_4_method_9_code 52 = .ok (.getfield 9, 3) := by decide +kernel
theorem d_S_searchWith_55 : decode prog_4_method_9_code 55 = .ok (.iload_n 1, 1) := by decide +kernel
theorem d_S_searchWith_56 : decode prog_4_method_9_code 56 = .ok (.iconst (-1), 1) := by decide +kernel
theorem d_S_searchWith_57 : decode prog_4_method_9_code 57 = .ok (.iastore, 1) := by decide +kernel
theorem d_S_searchWith_58 : decode prog_4_method_9_code 58 = .ok (.aload_n 0, 1) := by decide +kernel
theorem d_S_searchWith_59 : decode prog_4_method_9_code 59 = .ok (.getfield 9, 3) := by decide +kernel
theorem d_S_searchWith_62 : decode prog_4_method_9_code 62 = .ok (.iload_n 2, 1) := by decide +kernel
theorem d_S_searchWith_63 : decode prog_4_method_9_code 63 = .ok (.iconst (-1), 1) := by decide +kernel
theorem d_S_searchWith_64 : decode prog_4_method_9_code 64 = .ok (.iastore, 1) := by decide +kernel
theorem d_S_searchWith_65 : decode prog_4_method_9_code 65 = .ok (.return_, 1) := by decide +kernel
theorem d_S_keep_0 : decode prog_4_method_10_code 0 = .ok (.aload_n 0, 1) := by decide +kernel
theorem d_S_keep_1 : decode prog_4_method_10_code 1 = .ok (.dup, 1) := by decide +kernel
theorem d_S_keep_2 : decode prog_4_method_10_code 2 = .ok (.getfield 34, 3) := by decide +kernel
theorem d_S_keep_5 : decode prog_4_method_10_code 5 = .ok (.iconst 1, 1) := by decide +kernel
theorem d_S_keep_6 : decode prog_4_method_10_code 6 = .ok (.iadd, 1) := by decide +kernel
theorem d_S_keep_7 : decode prog_4_method_10_code 7 = .ok (.putfield 34, 3) := by decide +kernel
theorem d_S_keep_10 : decode prog_4_method_10_code 10 = .ok (.iconst 0, 1) := by decide +kernel
theorem d_S_keep_11 : decode prog_4_method_10_code 11 = .ok (.istore_n 1, 1) := by decide +kernel
theorem d_S_keep_12 : decode prog_4_method_10_code 12 = .ok (.iload_n 1, 1) := by decide +kernel
theorem d_S_keep_13 : decode prog_4_method_10_code 13 = .ok (.aload_n 0, 1) := by decide +kernel
theorem d_S_keep_14 : decode prog_4_method_10_code 14 = .ok (.getfield 27, 3) := by decide +kernel
theorem d_S_keep_17 : decode prog_4_method_10_code 17 = .ok (.invokevirtual 55, 3) := by decide +kernel
theorem d_S_keep_20 : decode prog_4_method_10_code 20 = .ok (.if_icmp .ge 46, 3) := by decide +kernel
theorem d_S_keep_23 : decode prog_4_method_10_code 23 = .ok (.aload_n 0, 1) := by decide +kernel
theorem d_S_keep_24 : decode prog_4_method_10_code 24 = .ok (.getfield 20, 3) := by decide +kernel
theorem d_S_keep_27 : decode prog_4_method_10_code 27 = .ok (.iload_n 1, 1) := by decide +kernel
theorem d_S_keep_28 : decode prog_4_method_10_code 28 = .ok (.aaload, 1) := by decide +kernel
theorem d_S_keep_29 : decode prog_4_method_10_code 29 = .ok (.aload_n 0, 1) := by decide +kernel
theorem d_S_keep_30 : decode prog_4_method_10_code 30 = .ok (.getfield 9, 3) := by decide +kernel
theorem d_S_keep_33 : decode prog_4_method_10_code 33 = .ok (.iload_n 1, 1) := by decide +kernel
theorem d_S_keep_34 : decode prog_4_method_10_code 34 = .ok (.iaload, 1) := by decide +kernel
theorem d_S_keep_35 : decode prog_4_method_10_code 35 = .ok (.dup2, 1) := by decide +kernel
theorem d_S_keep_36 : decode prog_4_method_10_code 36 = .ok (.iaload, 1) := by decide +kernel
theorem d_S_keep_37 : decode prog_4_method_10_code 37 = .ok (.iconst 1, 1) := by decide +kernel
theorem d_S_keep_38 : decode prog_4_method_10_code 38 = .ok (.iadd, 1) := by decide +kernel
theorem d_S_keep_39 : decode prog_4_method_10_code 39 = .ok (.iastore, 1) := by decide +kernel
theorem d_S_keep_40 : decode prog_4_method_10_code 40 = .ok (.aload_n 0, 1) := by decide +kernel
theorem d_S_keep_41 : decode prog_4_method_10_code 41 = .ok (.getfield 34, 3) := by decide +kernel
theorem d_S_keep_44 : decode prog_4_method_10_code 44 = .ok (.iconst 1, 1) := by decide +kernel
theorem d_S_keep_45 : decode prog_4_method_10_code 45 = .ok (.if_icmp .ne 15, 3) := by decide +kernel
theorem d_S_keep_48 : decode prog_4_method_10_code 48 = .ok (.aload_n 0, 1) := by decide +kernel
theorem d_S_keep_49 : decode prog_4_method_10_code 49 = .ok (.getfield 15, 3) := by decide +kernel
theorem d_S_keep_52 : decode prog_4_method_10_code 52 = .ok (.iload_n 1, 1) := by decide +kernel
theorem d_S_keep_53 : decode prog_4_method_10_code 53 = .ok (.aload_n 0, 1) := by decide +kernel
theorem d_S_keep_54 : decode prog_4_method_10_code 54 = .ok (.getfield 9, 3) := by decide +kernel
theorem d_S_keep_57 : decode prog_4_method_10_code 57 = .ok (.iload_n 1, 1) := by decide +kernel
theorem d_S_keep_58 : decode prog_4_method_10_code 58 = .ok (.iaload, 1) := by decide +kernel
theorem d_S_keep_59 : decode prog_4_method_10_code 59 = .ok (.iastore, 1) := by decide +kernel
theorem d_S_keep_60 : decode prog_4_method_10_code 60 = .ok (.iinc 1 1, 3) := by decide +kernel
theorem d_S_keep_63 : decode prog_4_method_10_code 63 = .ok (.goto (-51), 3) := by decide +kernel
theorem d_S_keep_66 : decode prog_4_method_10_code 66 = .ok (.return_, 1) := by decide +kernel
