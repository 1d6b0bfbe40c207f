/-! what stands where: P -/
theorem d_P_init_0 : decode prog_3_method_1_code 0 = .ok (.aload_n 0, 1) := by decide +kernel
theorem d_P_init_1 : decode prog_3_method_1_code 1 = .ok (.invokespecial 3, 3) := by decide +kernel
theorem d_P_init_4 : decode prog_3_method_1_code 4 = .ok (.aload_n 0, 1) := by decide +kernel
theorem d_P_init_5 : decode prog_3_method_1_code 5 = .ok (.bipush 8, 2) := by decide +kernel
theorem d_P_init_7 : decode prog_3_method_1_code 7 = .ok (.newarray .int, 2) := by decide +kernel
theorem d_P_init_9 : decode prog_3_method_1_code 9 = .ok (.putfield 9, 3) := by decide +kernel
theorem d_P_init_12 : decode prog_3_method_1_code 12 = .ok (.aload_n 0, 1) := by decide +kernel
theorem d_P_init_13 : decode prog_3_method_1_code 13 = .ok (.bipush 8, 2) := by decide +kernel
theorem d_P_init_15 : decode prog_3_method_1_code 15 = .ok (.newarray .int, 2) := by decide +kernel
theorem d_P_init_17 : decode prog_3_method_1_code 17 = .ok (.putfield 15, 3) := by decide +kernel
theorem d_P_init_20 : decode prog_3_method_1_code 20 = .ok (.aload_n 0, 1) := by decide +kernel
theorem d_P_init_21 : decode prog_3_method_1_code 21 = .ok (.bipush 8, 2) := by decide +kernel
theorem d_P_init_23 : decode prog_3_method_1_code 23 = .ok (.newarray .int, 2) := by decide +kernel
theorem d_P_init_25 : decode prog_3_method_1_code 25 = .ok (.putfield 18, 3) := by decide +kernel
theorem d_P_init_28 : decode prog_3_method_1_code 28 = .ok (.aload_n 0, 1) := by decide +kernel
theorem d_P_init_29 : decode prog_3_method_1_code 29 = .ok (.iconst (-1), 1) := by decide +kernel
theorem d_P_init_30 : decode prog_3_method_1_code 30 = .ok (.putfield 21, 3) := by decide +kernel
theorem d_P_init_33 : decode prog_3_method_1_code 33 = .ok (.aload_n 0, 1) := by decide +kernel
theorem d_P_init_34 : decode prog_3_method_1_code 34 = .ok (.aload_n 1, 1) := by decide +kernel
theorem d_P_init_35 : decode prog_3_method_1_code 35 = .ok (.putfield 25, 3) := by decide +kernel
theorem d_P_init_38 : decode prog_3_method_1_code 38 = .ok (.return_, 1) := by decide +kernel
theorem d_P_oddSize_0 : decode prog_3_method_2_code 0 = .ok (.aload_n 0, 1) := by decide +kernel
theorem d_P_oddSize_1 : decode prog_3_method_2_code 1 = .ok (.invokevirtual 29, 3) := by decide +kernel
theorem d_P_oddSize_4 : decode prog_3_method_2_code 4 = .ok (.aload_n 0, 1) := by decide +kernel
theorem d_P_oddSize_5 : decode prog_3_method_2_code 5 = .ok (.getfield 18, 3) := by decide +kernel
theorem d_P_oddSize_8 : decode prog_3_method_2_code 8 = .ok (.iload_n 1, 1) := by decide +kernel
theorem d_P_oddSize_9 : decode prog_3_method_2_code 9 = .ok (.iaload, 1) := by decide +kernel
theorem d_P_oddSize_10 : decode prog_3_method_2_code 10 = .ok (.ireturn, 1) := by decide +kernel
theorem d_P_follower_0 : decode prog_3_method_3_code 0 = .ok (.aload_n 0, 1) := by decide +kernel
theorem d_P_follower_1 : decode prog_3_method_3_code 1 = .ok (.invokevirtual 29, 3) := by decide +kernel
theorem d_P_follower_4 : decode prog_3_method_3_code 4 = .ok (.aload_n 0, 1) := by decide +kernel
theorem d_P_follower_5 : decode prog_3_method_3_code 5 = .ok (.getfield 18, 3) := by decide +kernel
theorem d_P_follower_8 : decode prog_3_method_3_code 8 = .ok (.iload_n 1, 1) := by decide +kernel
theorem d_P_follower_9 : decode prog_3_method_3_code 9 = .ok (.iaload, 1) := by decide +kernel
theorem d_P_follower_10 : decode prog_3_method_3_code 10 = .ok (.ifCond .ne 7, 3) := by decide +kernel
theorem d_P_follower_13 : decode prog_3_method_3_code 13 = .ok (.iconst (-1), 1) := by decide +kernel
theorem d_P_follower_14 : decode prog_3_method_3_code 14 = .ok (.goto 9, 3) := by decide +kernel
theorem d_P_follower_17 : decode prog_3_method_3_code 17 = .ok (.aload_n 0, 1) := by decide +kernel
theorem d_P_follower_18 : decode prog_3_method_3_code 18 = .ok (.getfield 9, 3) := by decide +kernel
theorem d_P_follower_21 : decode prog_3_method_3_code 21 = .ok (.iload_n 1, 1) := by decide +kernel
theorem d_P_follower_22 : decode prog_3_method_3_code 22 = .ok (.iaload, 1) := by decide +kernel
theorem d_P_follower_23 : decode prog_3_method_3_code 23 = .ok (.ireturn, 1) := by decide +kernel
theorem d_P_countOdd_0 : decode prog_3_method_4_code 0 = .ok (.aload_n 0, 1) := by decide +kernel
theorem d_P_countOdd_1 : decode prog_3_method_4_code 1 = .ok (.invokevirtual 29, 3) := by decide +kernel
theorem d_P_countOdd_4 : decode prog_3_method_4_code 4 = .ok (.aload_n 0, 1) := by decide +kernel
theorem d_P_countOdd_5 : decode prog_3_method_4_code 5 = .ok (.getfield 32, 3) := by decide +kernel
theorem d_P_countOdd_8 : decode prog_3_method_4_code 8 = .ok (.ireturn, 1) := by decide +kernel
theorem d_P_countOddRings_0 : decode prog_3_method_5_code 0 = .ok (.aload_n 0, 1) := by decide +kernel
theorem d_P_countOddRings_1 : decode prog_3_method_5_code 1 = .ok (.invokevirtual 29, 3) := by decide +kernel
theorem d_P_countOddRings_4 : decode prog_3_method_5_code 4 = .ok (.aload_n 0, 1) := by decide +kernel
theorem d_P_countOddRings_5 : decode prog_3_method_5_code 5 = .ok (.getfield 35, 3) := by decide +kernel
theorem d_P_countOddRings_8 : decode prog_3_method_5_code 8 = .ok (.ireturn, 1) := by decide +kernel
theorem d_P_reckon_0 : decode prog_3_method_6_code 0 = .ok (.aload_n 0, 1) := by decide +kernel
theorem d_P_reckon_1 : decode prog_3_method_6_code 1 = .ok (.getfield 21, 3) := by decide +kernel
theorem d_P_reckon_4 : decode prog_3_method_6_code 4 = .ok (.aload_n 0, 1) := by decide +kernel
theorem d_P_reckon_5 : decode prog_3_method_6_code 5 = .ok (.getfield 25, 3) := by decide +kernel
theorem d_P_reckon_8 : decode prog_3_method_6_code 8 = .ok (.invokevirtual 38, 3) := by decide +kernel
theorem d_P_reckon_11 : decode prog_3_method_6_code 11 = .ok (.if_icmp .ne 4, 3) := by decide +kernel
theorem d_P_reckon_14 : decode prog_3_method_6_code 14 = .ok (.return_, 1) := by decide +kernel
theorem d_P_reckon_15 : decode prog_3_method_6_code 15 = .ok (.aload_n 0, 1) := by decide +kernel
theorem d_P_reckon_16 : decode prog_3_method_6_code 16 = .ok (.aload_n 0, 1) := by decide +kernel
theorem d_P_reckon_17 : decode prog_3_method_6_code 17 = .ok (.getfield 25, 3) := by decide +kernel
theorem d_P_reckon_20 : decode prog_3_method_6_code 20 = .ok (.invokevirtual 38, 3) := by decide +kernel
theorem d_P_reckon_23 : decode prog_3_method_6_code 23 = .ok (.putfield 21, 3) := by decide +kernel
theorem d_P_reckon_26 : decode prog_3_method_6_code 26 = .ok (.iconst 0, 1) := by decide +kernel
theorem d_P_reckon_27 : decode prog_3_method_6_code 27 = .ok (.istore_n 1, 1) := by decide +kernel
theorem d_P_reckon_28 : decode prog_3_method_6_code 28 = .ok (.iload_n 1, 1) := by decide +kernel
theorem d_P_reckon_29 : decode prog_3_method_6_code 29 = .ok (.bipush 8, 2) := by decide +kernel
theorem d_P_reckon_31 : decode prog_3_method_6_code 31 = .ok (.if_icmp .ge 30, 3) := by decide +kernel
theorem d_P_reckon_34 : decode prog_3_method_6_code 34 = .ok (.aload_n 0, 1) := by decide +kernel
theorem d_P_reckon_35 : decode prog_3_method_6_code 35 = .ok (.getfield 9, 3) := by decide +kernel
theorem d_P_reckon_38 : decode prog_3_method_6_code 38 = .ok (.iload_n 1, 1) := by decide +kernel
theorem d_P_reckon_39 : decode prog_3_method_6_code 39 = .ok (.iconst (-1), 1) := by decide +kernel
theorem d_P_reckon_40 : decode prog_3_method_6_code 40 = .ok (.iastore, 1) := by decide +kernel
theorem d_P_reckon_41 : decode prog_3_method_6_code 41 = .ok (.aload_n 0, 1) := by decide +kernel
theorem d_P_reckon_42 : decode prog_3_method_6_code 42 = .ok (.getfield 15, 3) := by decide +kernel
theorem d_P_reckon_45 : decode prog_3_method_6_code 45 = .ok (.iload_n 1, 1) := by decide +kernel
theorem d_P_reckon_46 : decode prog_3_method_6_code 46 = .ok (.iconst (-1), 1) := by decide +kernel
theorem d_P_reckon_47 : decode prog_3_method_6_code 47 = .ok (.iastore, 1) := by decide +kernel
theorem d_P_reckon_48 : decode prog_3_method_6_code 48 = .ok (.aload_n 0, 1) := by decide +kernel
theorem d_P_reckon_49 : decode prog_3_method_6_code 49 = .ok (.getfield 18, 3) := by decide +kernel
theorem d_P_reckon_52 : decode prog_3_method_6_code 52 = .ok (.iload_n 1, 1) := by decide +kernel
theorem d_P_reckon_53 : decode prog_3_method_6_code 53 = .ok (.iconst 0, 1) := by decide +kernel
theorem d_P_reckon_54 : decode prog_3_method_6_code 54 = .ok (.iastore, 1) := by decide +kernel
theorem d_P_reckon_55 : decode prog_3_method_6_code 55 = .ok (.iinc 1 1, 3) := by decide +kernel
theorem d_P_reckon_58 : decode prog_3_method_6_code 58 = .ok (.goto (-30), 3) := by decide +kernel
theorem d_P_reckon_61 : decode prog_3_method_6_code 61 = .ok (.aload_n 0, 1) := by decide +kernel
theorem d_P_reckon_62 : decode prog_3_method_6_code 62 = .ok (.iconst 0, 1) := by decide +kernel
theorem d_P_reckon_63 : decode prog_3_method_6_code 63 = .ok (.putfield 32, 3) := by decide +kernel
theorem d_P_reckon_66 : decode prog_3_method_6_code 66 = .ok (.aload_n 0, 1) := by decide +kernel
theorem d_P_reckon_67 : decode prog_3_method_6_code 67 = .ok (.iconst 0, 1) := by decide +kernel
theorem d_P_reckon_68 : decode prog_3_method_6_code 68 = .ok (.putfield 35, 3) := by decide +kernel
theorem d_P_reckon_71 : decode prog_3_method_6_code 71 = .ok (.aload_n 0, 1) := by decide +kernel
theorem d_P_reckon_72 : decode prog_3_method_6_code 72 = .ok (.iconst 0, 1) := by decide +kernel
theorem d_P_reckon_73 : decode prog_3_method_6_code 73 = .ok (.invokevirtual 44, 3) := by decide +kernel
theorem d_P_reckon_76 : decode prog_3_method_6_code 76 = .ok (.ifCond .eq 7, 3) := by decide +kernel
theorem d_P_reckon_79 : decode prog_3_method_6_code 79 = .ok (.aload_n 0, 1) := by decide +kernel
theorem d_P_reckon_80 : decode prog_3_method_6_code 80 = .ok (.invokevirtual 48, 3) := by decide +kernel
theorem d_P_reckon_83 : decode prog_3_method_6_code 83 = .ok (.return_, 1) := by decide +kernel
theorem d_P_search_0 : decode prog_3_method_7_code 0 = .ok (.iload_n 1, 1) := by decide +kernel
theorem d_P_search_1 : decode prog_3_method_7_code 1 = .ok (.aload_n 0, 1) := by decide +kernel
theorem d_P_search_2 : decode prog_3_method_7_code 2 = .ok (.getfield 25, 3) := by decide +kernel
theorem d_P_search_5 : decode prog_3_method_7_code 5 = .ok (.invokevirtual 51, 3) := by decide +kernel
theorem d_P_search_8 : decode prog_3_method_7_code 8 = .ok (.if_icmp .lt 5, 3) := by decide +kernel
theorem d_P_search_11 : decode prog_3_method_7_code 11 = .ok (.iconst 1, 1) := by decide +kernel
theorem d_P_search_12 : decode prog_3_method_7_code 12 = .ok (.ireturn, 1) := by decide +kernel
theorem d_P_search_13 : decode prog_3_method_7_code 13 = .ok (.iconst 0, 1) := by decide +kernel
theorem d_P_search_14 : decode prog_3_method_7_code 14 = .ok (.istore_n 2, 1) := by decide +kernel
theorem d_P_search_15 : decode prog_3_method_7_code 15 = .ok (.iload_n 2, 1) := by decide +kernel
theorem d_P_search_16 : decode prog_3_method_7_code 16 = .ok (.aload_n 0, 1) := by decide +kernel
theorem d_P_search_17 : decode prog_3_method_7_code 17 = .ok (.getfield 25, 3) := by decide +kernel
theorem d_P_search_20 : decode prog_3_method_7_code 20 = .ok (.iload_n 1, 1) := by decide +kernel
theorem d_P_search_21 : decode prog_3_method_7_code 21 = .ok (.invokevirtual 54, 3) := by decide +kernel
theorem d_P_search_24 : decode prog_3_method_7_code 24 = .ok (.if_icmp .ge 42, 3) := by decide +kernel
theorem d_P_search_27 : decode prog_3_method_7_code 27 = .ok (.aload_n 0, 1) := by decide +kernel
theorem d_P_search_28 : decode prog_3_method_7_code 28 = .ok (.getfield 25, 3) := by decide +kernel
theorem d_P_search_31 : decode prog_3_method_7_code 31 = .ok (.iload_n 1, 1) := by decide +kernel
theorem d_P_search_32 : decode prog_3_method_7_code 32 = .ok (.iload_n 2, 1) := by decide +kernel
theorem d_P_search_33 : decode prog_3_method_7_code 33 = .ok (.invokevirtual 58, 3) := by decide +kernel
theorem d_P_search_36 : decode prog_3_method_7_code 36 = .ok (.istore_n 3, 1) := by decide +kernel
theorem d_P_search_37 : decode prog_3_method_7_code 37 = .ok (.aload_n 0, 1) := by decide +kernel
theorem d_P_search_38 : decode prog_3_method_7_code 38 = .ok (.getfield 25, 3) := by decide +kernel
theorem d_P_search_41 : decode prog_3_method_7_code 41 = .ok (.iload_n 1, 1) := by decide +kernel
theorem d_P_search_42 : decode prog_3_method_7_code 42 = .ok (.iload_n 3, 1) := by decide +kernel
theorem d_P_search_43 : decode prog_3_method_7_code 43 = .ok (.invokevirtual 62, 3) := by decide +kernel
theorem d_P_search_46 : decode prog_3_method_7_code 46 = .ok (.ifCond .eq 14, 3) := by decide +kernel
theorem d_P_search_49 : decode prog_3_method_7_code 49 = .ok (.aload_n 0, 1) := by decide +kernel
theorem d_P_search_50 : decode prog_3_method_7_code 50 = .ok (.iload_n 1, 1) := by decide +kernel
theorem d_P_search_51 : decode prog_3_method_7_code 51 = .ok (.iload_n 3, 1) := by decide +kernel
theorem d_P_search_52 : decode prog_3_method_7_code 52 = .ok (.invokevirtual 66, 3) := by decide +kernel
theorem d_P_search_55 : decode prog_3_method_7_code 55 = .ok (.ifCond .eq 5, 3) := by decide +kernel
theorem d_P_search_58 : decode prog_3_method_7_code 58 = .ok (.iconst 1, 1) := by decide +kernel
theorem d_P_search_59 : decode prog_3_method_7_code 59 = .ok (.ireturn, 1) := by decide +kernel
theorem d_P_search_60 : decode prog_3_method_7_code 60 = .ok (.iinc 2 1, 3) := by decide +kernel
theorem d_P_search_63 : decode prog_3_method_7_code 63 = .ok (.goto (-48), 3) := by decide +kernel
theorem d_P_search_66 : decode prog_3_method_7_code 66 = .ok (.aload_n 0, 1) := by decide +kernel
theorem d_P_search_67 : decode prog_3_method_7_code 67 = .ok (.iload_n 1, 1) := by decide +kernel
theorem d_P_search_68 : decode prog_3_method_7_code 68 = .ok (.iload_n 1, 1) := by decide +kernel
theorem d_P_search_69 : decode prog_3_method_7_code 69 = .ok (.invokevirtual 66, 3) := by decide +kernel
theorem d_P_search_72 : decode prog_3_method_7_code 72 = .ok (.ireturn, 1) := by decide +kernel
theorem d_P_searchWith_0 : decode prog_3_method_8_code 0 = .ok (.aload_n 0, 1) := by decide +kernel
theorem d_P_searchWith_1 : decode prog_3_method_8_code 1 = .ok (.getfield 15, 3) := by decide +kernel
theorem d_P_searchWith_4 : decode prog_3_method_8_code 4 = .ok (.iload_n 2, 1) := by decide +kernel
theorem d_P_searchWith_5 : decode prog_3_method_8_code 5 = .ok (.iaload, 1) := by decide +kernel
theorem d_P_searchWith_6 : decode prog_3_method_8_code 6 = .ok (.iconst (-1), 1) := by decide +kernel
theorem d_P_searchWith_7 : decode prog_3_method_8_code 7 = .ok (.if_icmp .eq 5, 3) := by decide +kernel
theorem d_P_searchWith_10 : decode prog_3_method_8_code 10 = .ok (.iconst 0, 1) := by decide +kernel
theorem d_P_searchWith_11 : decode prog_3_method_8_code 11 = .ok (.ireturn, 1) := by decide +kernel
theorem d_P_searchWith_12 : decode prog_3_method_8_code 12 = .ok (.aload_n 0, 1) := by decide +kernel
theorem d_P_searchWith_13 : decode prog_3_method_8_code 13 = .ok (.getfield 9, 3) := by decide +kernel
theorem d_P_searchWith_16 : decode prog_3_method_8_code 16 = .ok (.iload_n 1, 1) := by decide +kernel
theorem d_P_searchWith_17 : decode prog_3_method_8_code 17 = .ok (.iload_n 2, 1) := by decide +kernel
theorem d_P_searchWith_18 : decode prog_3_method_8_code 18 = .ok (.iastore, 1) := by decide +kernel
theorem d_P_searchWith_19 : decode prog_3_method_8_code 19 = .ok (.aload_n 0, 1) := by decide +kernel
theorem d_P_searchWith_20 : decode prog_3_method_8_code 20 = .ok (.getfield 15, 3) := by decide +kernel
theorem d_P_searchWith_23 : decode prog_3_method_8_code 23 = .ok (.iload_n 2, 1) := by decide +kernel
theorem d_P_searchWith_24 : decode prog_3_method_8_code 24 = .ok (.iload_n 1, 1) := by decide +kernel
theorem d_P_searchWith_25 : decode prog_3_method_8_code 25 = .ok (.iastore, 1) := by decide +kernel
theorem d_P_searchWith_26 : decode prog_3_method_8_code 26 = .ok (.aload_n 0, 1) := by decide +kernel
theorem d_P_searchWith_27 : decode prog_3_method_8_code 27 = .ok (.iload_n 1, 1) := by decide +kernel
theorem d_P_searchWith_28 : decode prog_3_method_8_code 28 = .ok (.invokevirtual 69, 3) := by decide +kernel
theorem d_P_searchWith_31 : decode prog_3_method_8_code 31 = .ok (.ifCond .eq 38, 3) := by decide +kernel
theorem d_P_searchWith_34 : decode prog_3_method_8_code 34 = .ok (.aload_n 0, 1) := by decide +kernel
theorem d_P_searchWith_35 : decode prog_3_method_8_code 35 = .ok (.iload_n 2, 1) := by decide +kernel
theorem d_P_searchWith_36 : decode prog_3_method_8_code 36 = .ok (.invokevirtual 69, 3) := by decide +kernel
theorem d_P_searchWith_39 : decode prog_3_method_8_code 39 = .ok (.ifCond .eq 30, 3) := by decide +kernel
theorem d_P_searchWith_42 : decode prog_3_method_8_code 42 = .ok (.aload_n 0, 1) := by decide +kernel
theorem d_P_searchWith_43 : decode prog_3_method_8_code 43 = .ok (.getfield 25, 3) := by decide +kernel
theorem d_P_searchWith_46 : decode prog_3_method_8_code 46 = .ok (.iload_n 2, 1) := by decide +kernel
theorem d_P_searchWith_47 : decode prog_3_method_8_code 47 = .ok (.aload_n 0, 1) := by decide +kernel
theorem d_P_searchWith_48 : decode prog_3_method_8_code 48 = .ok (.getfield 15, 3) := by decide +kernel
theorem d_P_searchWith_51 : decode prog_3_method_8_code 51 = .ok (.invokevirtual 72, 3) := by decide +kernel
theorem d_P_searchWith_54 : decode prog_3_method_8_code 54 = .ok (.ifCond .ne 15, 3) := by decide +kernel
theorem d_P_searchWith_57 : decode prog_3_method_8_code 57 = .ok (.aload_n 0, 1) := by decide +kernel
theorem d_P_searchWith_58 : decode prog_3_method_8_code 58 = .ok (.iload_n 1, 1) := by decide +kernel
theorem d_P_searchWith_59 : decode prog_3_method_8_code 59 = .ok (.iconst 1, 1) := by decide +kernel
theorem d_P_searchWith_60 : decode prog_3_method_8_code 60 = .ok (.iadd, 1) := by decide +kernel
theorem d_P_searchWith_61 : decode prog_3_method_8_code 61 = .ok (.invokevirtual 44, 3) := by decide +kernel
theorem d_P_searchWith_64 : decode prog_3_method_8_code 64 = .ok (.ifCond .eq 5, 3) := by decide +kernel
theorem d_P_searchWith_67 : decode prog_3_method_8_code 67 = .ok (.iconst 1, 1) := by decide +kernel
theorem d_P_searchWith_68 : decode prog_3_method_8_code 68 = .ok (.ireturn, 1) := by decide +kernel
theorem d_P_searchWith_69 : decode prog_3_method_8_code 69 = .ok (.aload_n 0, 1) := by decide +kernel
theorem d_P_searchWith_70 : decode prog_3_method_8_code 70 = .ok (.getfield 9, 3) := by decide +kernel
theorem d_P_searchWith_73 : decode prog_3_method_8_code 73 = .ok (.iload_n 1, 1) := by decide +kernel
theorem d_P_searchWith_74 : decode prog_3_method_8_code 74 = .ok (.iconst (-1), 1) := by decide +kernel
theorem d_P_searchWith_75 : decode prog_3_method_8_code 75 = .ok (.iastore, 1) := by decide +kernel
theorem d_P_searchWith_76 : decode prog_3_method_8_code 76 = .ok (.aload_n 0, 1) := by decide +kernel
theorem d_P_searchWith_77 : decode prog_3_method_8_code 77 = .ok (.getfield 15, 3) := by decide +kernel
theorem d_P_searchWith_80 : decode prog_3_method_8_code 80 = .ok (.iload_n 2, 1) := by decide +kernel
theorem d_P_searchWith_81 : decode prog_3_method_8_code 81 = .ok (.iconst (-1), 1) := by decide +kernel
theorem d_P_searchWith_82 : decode prog_3_method_8_code 82 = .ok (.iastore, 1) := by decide +kernel
theorem d_P_searchWith_83 : decode prog_3_method_8_code 83 = .ok (.iconst 0, 1) := by decide +kernel
theorem d_P_searchWith_84 : decode prog_3_method_8_code 84 = .ok (.ireturn, 1) := by decide +kernel
theorem d_P_keepsOrder_0 : decode prog_3_method_9_code 0 = .ok (.aload_n 0, 1) := by decide +kernel
theorem d_P_keepsOrder_1 : decode prog_3_method_9_code 1 = .ok (.getfield 9, 3) := by decide +kernel
theorem d_P_keepsOrder_4 : decode prog_3_method_9_code 4 = .ok (.iload_n 1, 1) := by decide +kernel
theorem d_P_keepsOrder_5 : decode prog_3_method_9_code 5 = .ok (.iaload, 1) := by decide +kernel
theorem d_P_keepsOrder_6 : decode prog_3_method_9_code 6 = .ok (.istore_n 2, 1) := by decide +kernel
theorem d_P_keepsOrder_7 : decode prog_3_method_9_code 7 = .ok (.aload_n 0, 1) := by decide +kernel
theorem d_P_keepsOrder_8 : decode prog_3_method_9_code 8 = .ok (.getfield 15, 3) := by decide +kernel
theorem d_P_keepsOrder_11 : decode prog_3_method_9_code 11 = .ok (.iload_n 1, 1) := by decide +kernel
theorem d_P_keepsOrder_12 : decode prog_3_method_9_code 12 = .ok (.iaload, 1) := by decide +kernel
theorem d_P_keepsOrder_13 : decode prog_3_method_9_code 13 = .ok (.istore_n 3, 1) := by decide +kernel
theorem d_P_keepsOrder_14 : decode prog_3_method_9_code 14 = .ok (.iload_n 2, 1) := by decide +kernel
theorem d_P_keepsOrder_15 : decode prog_3_method_9_code 15 = .ok (.iconst (-1), 1) := by decide +kernel
theorem d_P_keepsOrder_16 : decode prog_3_method_9_code 16 = .ok (.if_icmp .eq 21, 3) := by decide +kernel
theorem d_P_keepsOrder_19 : decode prog_3_method_9_code 19 = .ok (.iload_n 3, 1) := by decide +kernel
theorem d_P_keepsOrder_20 : decode prog_3_method_9_code 20 = .ok (.iconst (-1), 1) := by decide +kernel
theorem d_P_keepsOrder_21 : decode prog_3_method_9_code 21 = .ok (.if_icmp .eq 16, 3) := by decide +kernel
theorem d_P_keepsOrder_24 : decode prog_3_method_9_code 24 = .ok (.aload_n 0, 1) := by decide +kernel
theorem d_P_keepsOrder_25 : decode prog_3_method_9_code 25 = .ok (.getfield 25, 3) := by decide +kernel
theorem d_P_keepsOrder_28 : decode prog_3_method_9_code 28 = .ok (.iload_n 1, 1) := by decide +kernel
theorem d_P_keepsOrder_29 : decode prog_3_method_9_code 29 = .ok (.iload_n 3, 1) := by decide +kernel
theorem d_P_keepsOrder_30 : decode prog_3_method_9_code 30 = .ok (.iload_n 2, 1) := by decide +kernel
theorem d_P_keepsOrder_31 : decode prog_3_method_9_code 31 = .ok (.invokevirtual 76, 3) := by decide +kernel
theorem d_P_keepsOrder_34 : decode prog_3_method_9_code 34 = .ok (.ifCond .ne 7, 3) := by decide +kernel
theorem d_P_keepsOrder_37 : decode prog_3_method_9_code 37 = .ok (.iconst 1, 1) := by decide +kernel
theorem d_P_keepsOrder_38 : decode prog_3_method_9_code 38 = .ok (.goto 4, 3) := by decide +kernel
theorem d_P_keepsOrder_41 : decode prog_3_method_9_code 41 = .ok (.iconst 0, 1) := by decide +kernel
theorem d_P_keepsOrder_42 : decode prog_3_method_9_code 42 = .ok (.ireturn, 1) := by decide +kernel
theorem d_P_measureAll_0 : decode prog_3_method_10_code 0 = .ok (.iconst 0, 1) := by decide +kernel
theorem d_P_measureAll_1 : decode prog_3_method_10_code 1 = .ok (.istore_n 1, 1) := by decide +kernel
theorem d_P_measureAll_2 : decode prog_3_method_10_code 2 = .ok (.iload_n 1, 1) := by decide +kernel
theorem d_P_measureAll_3 : decode prog_3_method_10_code 3 = .ok (.aload_n 0, 1) := by decide +kernel
theorem d_P_measureAll_4 : decode prog_3_method_10_code 4 = .ok (.getfield 25, 3) := by decide +kernel
theorem d_P_measureAll_7 : decode prog_3_method_10_code 7 = .ok (.invokevirtual 51, 3) := by decide +kernel
theorem d_P_measureAll_10 : decode prog_3_method_10_code 10 = .ok (.if_icmp .ge 35, 3) := by decide +kernel
theorem d_P_measureAll_13 : decode prog_3_method_10_code 13 = .ok (.aload_n 0, 1) := by decide +kernel
theorem d_P_measureAll_14 : decode prog_3_method_10_code 14 = .ok (.iload_n 1, 1) := by decide +kernel
theorem d_P_measureAll_15 : decode prog_3_method_10_code 15 = .ok (.invokevirtual 80, 3) := by decide +kernel
theorem d_P_measureAll_18 : decode prog_3_method_10_code 18 = .ok (.istore_n 2, 1) := by decide +kernel
theorem d_P_measureAll_19 : decode prog_3_method_10_code 19 = .ok (.iload_n 2, 1) := by decide +kernel
theorem d_P_measureAll_20 : decode prog_3_method_10_code 20 = .ok (.iconst 2, 1) := by decide +kernel
theorem d_P_measureAll_21 : decode prog_3_method_10_code 21 = .ok (.irem, 1) := by decide +kernel
theorem d_P_measureAll_22 : decode prog_3_method_10_code 22 = .ok (.iconst 1, 1) := by decide +kernel
theorem d_P_measureAll_23 : decode prog_3_method_10_code 23 = .ok (.if_icmp .ne 16, 3) := by decide +kernel
theorem d_P_measureAll_26 : decode prog_3_method_10_code 26 = .ok (.aload_n 0, 1) := by decide +kernel
theorem d_P_measureAll_27 : decode prog_3_method_10_code 27 = .ok (.getfield 18, 3) := by decide +kernel
theorem d_P_measureAll_30 : decode prog_3_method_10_code 30 = .ok (.iload_n 1, 1) := by decide +kernel
theorem d_P_measureAll_31 : decode prog_3_method_10_code 31 = .ok (.iload_n 2, 1) := by decide +kernel
theorem d_P_measureAll_32 : decode prog_3_method_10_code 32 = .ok (.iastore, 1) := by decide +kernel
theorem d_P_measureAll_33 : decode prog_3_method_10_code 33 = .ok (.aload_n 0, 1) := by decide +kernel
theorem d_P_measureAll_34 : decode prog_3_method_10_code 34 = .ok (.iload_n 1, 1) := by decide +kernel
theorem d_P_measureAll_35 : decode prog_3_method_10_code 35 = .ok (.iload_n 2, 1) := by decide +kernel
theorem d_P_measureAll_36 : decode prog_3_method_10_code 36 = .ok (.invokevirtual 83, 3) := by decide +kernel
theorem d_P_measureAll_39 : decode prog_3_method_10_code 39 = .ok (.iinc 1 1, 3) := by decide +kernel
theorem d_P_measureAll_42 : decode prog_3_method_10_code 42 = .ok (.goto (-40), 3) := by decide +kernel
theorem d_P_measureAll_45 : decode prog_3_method_10_code 45 = .ok (.return_, 1) := by decide +kernel
theorem d_P_sizeRound_0 : decode prog_3_method_11_code 0 = .ok (.iconst 1, 1) := by decide +kernel
theorem d_P_sizeRound_1 : decode prog_3_method_11_code 1 = .ok (.istore_n 2, 1) := by decide +kernel
theorem d_P_sizeRound_2 : decode prog_3_method_11_code 2 = .ok (.aload_n 0, 1) := by decide +kernel
theorem d_P_sizeRound_3 : decode prog_3_method_11_code 3 = .ok (.getfield 9, 3) := by decide +kernel
theorem d_P_sizeRound_6 : decode prog_3_method_11_code 6 = .ok (.iload_n 1, 1) := by decide +kernel
theorem d_P_sizeRound_7 : decode prog_3_method_11_code 7 = .ok (.iaload, 1) := by decide +kernel
theorem d_P_sizeRound_8 : decode prog_3_method_11_code 8 = .ok (.istore_n 3, 1) := by decide +kernel
theorem d_P_sizeRound_9 : decode prog_3_method_11_code 9 = .ok (.iload_n 3, 1) := by decide +kernel
theorem d_P_sizeRound_10 : decode prog_3_method_11_code 10 = .ok (.iload_n 1, 1) := by decide +kernel
theorem d_P_sizeRound_11 : decode prog_3_method_11_code 11 = .ok (.if_icmp .eq 22, 3) := by decide +kernel
theorem d_P_sizeRound_14 : decode prog_3_method_11_code 14 = .ok (.iload_n 2, 1) := by decide +kernel
theorem d_P_sizeRound_15 : decode prog_3_method_11_code 15 = .ok (.bipush 8, 2) := by decide +kernel
theorem d_P_sizeRound_17 : decode prog_3_method_11_code 17 = .ok (.if_icmp .ge 16, 3) := by decide +kernel
theorem d_P_sizeRound_20 : decode prog_3_method_11_code 20 = .ok (.aload_n 0, 1) := by decide +kernel
theorem d_P_sizeRound_21 : decode prog_3_method_11_code 21 = .ok (.getfield 9, 3) := by decide +kernel
theorem d_P_sizeRound_24 : decode prog_3_method_11_code 24 = .ok (.iload_n 3, 1) := by decide +kernel
theorem d_P_sizeRound_25 : decode prog_3_method_11_code 25 = .ok (.iaload, 1) := by decide +kernel
theorem d_P_sizeRound_26 : decode prog_3_method_11_code 26 = .ok (.istore_n 3, 1) := by decide +kernel
theorem d_P_sizeRound_27 : decode prog_3_method_11_code 27 = .ok (.iinc 2 1, 3) := by decide +kernel
theorem d_P_sizeRound_30 : decode prog_3_method_11_code 30 = .ok (.goto (-21), 3) := by decide +kernel
theorem d_P_sizeRound_33 : decode prog_3_method_11_code 33 = .ok (.iload_n 2, 1) := by decide +kernel
theorem d_P_sizeRound_34 : decode prog_3_method_11_code 34 = .ok (.ireturn, 1) := by decide +kernel
theorem d_P_countParty_0 : decode prog_3_method_12_code 0 = .ok (.iload_n 1, 1) := by decide +kernel
theorem d_P_countParty_1 : decode prog_3_method_12_code 1 = .ok (.istore_n 3, 1) := by decide +kernel
theorem d_P_countParty_2 : decode prog_3_method_12_code 2 = .ok (.iconst 1, 1) := by decide +kernel
theorem d_P_countParty_3 : decode prog_3_method_12_code 3 = .ok (.istore 4, 2) := by decide +kernel
theorem d_P_countParty_5 : decode prog_3_method_12_code 5 = .ok (.iload 4, 2) := by decide +kernel
theorem d_P_countParty_7 : decode prog_3_method_12_code 7 = .ok (.iload_n 2, 1) := by decide +kernel
theorem d_P_countParty_8 : decode prog_3_method_12_code 8 = .ok (.if_icmp .ge 22, 3) := by decide +kernel
theorem d_P_countParty_11 : decode prog_3_method_12_code 11 = .ok (.aload_n 0, 1) := by decide +kernel
theorem d_P_countParty_12 : decode prog_3_method_12_code 12 = .ok (.getfield 9, 3) := by decide +kernel
theorem d_P_countParty_15 : decode prog_3_method_12_code 15 = .ok (.iload_n 3, 1) := by decide +kernel
theorem d_P_countParty_16 : decode prog_3_method_12_code 16 = .ok (.iaload, 1) := by decide +kernel
theorem d_P_countParty_17 : decode prog_3_method_12_code 17 = .ok (.istore_n 3, 1) := by decide +kernel
theorem d_P_countParty_18 : decode prog_3_method_12_code 18 = .ok (.iload_n 3, 1) := by decide +kernel
theorem d_P_countParty_19 : decode prog_3_method_12_code 19 = .ok (.iload_n 1, 1) := by decide +kernel
theorem d_P_countParty_20 : decode prog_3_method_12_code 20 = .ok (.if_icmp .ge 4, 3) := by decide +kernel
theorem d_P_countParty_23 : decode prog_3_method_12_code 23 = .ok (.return_, 1) := by decide +kernel
theorem d_P_countParty_24 : decode prog_3_method_12_code 24 = .ok (.iinc 4 1, 3) := by decide +kernel
theorem d_P_countParty_27 : decode prog_3_method_12_code 27 = .ok (.goto (-22), 3) := by decide +kernel
theorem d_P_countParty_30 : decode prog_3_method_12_code 30 = .ok (.aload_n 0, 1) := by decide +kernel
theorem d_P_countParty_31 : decode prog_3_method_12_code 31 = .ok (.dup, 1) := by decide +kernel
theorem d_P_countParty_32 : decode prog_3_method_12_code 32 = .ok (.getfield 32, 3) := by decide +kernel
theorem d_P_countParty_35 : decode prog_3_method_12_code 35 = .ok (.iconst 1, 1) := by decide +kernel
theorem d_P_countParty_36 : decode prog_3_method_12_code 36 = .ok (.iadd, 1) := by decide +kernel
theorem d_P_countParty_37 : decode prog_3_method_12_code 37 = .ok (.putfield 32, 3) := by decide +kernel
theorem d_P_countParty_40 : decode prog_3_method_12_code 40 = .ok (.iload_n 2, 1) := by decide +kernel
theorem d_P_countParty_41 : decode prog_3_method_12_code 41 = .ok (.iconst 3, 1) := by decide +kernel
theorem d_P_countParty_42 : decode prog_3_method_12_code 42 = .ok (.if_icmp .lt 13, 3) := by decide +kernel
theorem d_P_countParty_45 : decode prog_3_method_12_code 45 = .ok (.aload_n 0, 1) := by decide +kernel
theorem d_P_countParty_46 : decode prog_3_method_12_code 46 = .ok (.dup, 1) := by decide +kernel
theorem d_P_countParty_47 : decode prog_3_method_12_code 47 = .ok (.getfield 35, 3) := by decide +kernel
theorem d_P_countParty_50 : decode prog_3_method_12_code 50 = .ok (.iconst 1, 1) := by decide +kernel
theorem d_P_countParty_51 : decode prog_3_method_12_code 51 = .ok (.iadd, 1) := by decide +kernel
theorem d_P_countParty_52 : decode prog_3_method_12_code 52 = .ok (.putfield 35, 3) := by decide +kernel
theorem d_P_countParty_55 : decode prog_3_method_12_code 55 = .ok (.return_, 1) := by decide +kernel
