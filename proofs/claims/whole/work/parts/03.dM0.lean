/-! what stands where: M -/
theorem d_M_init_0 : decode prog_7_method_1_code 0 = .ok (.aload_n 0, 1) := by decide +kernel
theorem d_M_init_1 : decode prog_7_method_1_code 1 = .ok (.invokespecial 1, 3) := by decide +kernel
theorem d_M_init_4 : decode prog_7_method_1_code 4 = .ok (.aload_n 0, 1) := by decide +kernel
theorem d_M_init_5 : decode prog_7_method_1_code 5 = .ok (.bipush 8, 2) := by decide +kernel
theorem d_M_init_7 : decode prog_7_method_1_code 7 = .ok (.newarray .int, 2) := by decide +kernel
theorem d_M_init_9 : decode prog_7_method_1_code 9 = .ok (.putfield 7, 3) := by decide +kernel
theorem d_M_init_12 : decode prog_7_method_1_code 12 = .ok (.aload_n 0, 1) := by decide +kernel
theorem d_M_init_13 : decode prog_7_method_1_code 13 = .ok (.bipush 64, 2) := by decide +kernel
theorem d_M_init_15 : decode prog_7_method_1_code 15 = .ok (.newarray .int, 2) := by decide +kernel
theorem d_M_init_17 : decode prog_7_method_1_code 17 = .ok (.putfield 13, 3) := by decide +kernel
theorem d_M_init_20 : decode prog_7_method_1_code 20 = .ok (.aload_n 0, 1) := by decide +kernel
theorem d_M_init_21 : decode prog_7_method_1_code 21 = .ok (.bipush 8, 2) := by decide +kernel
theorem d_M_init_23 : decode prog_7_method_1_code 23 = .ok (.newarray .int, 2) := by decide +kernel
theorem d_M_init_25 : decode prog_7_method_1_code 25 = .ok (.putfield 16, 3) := by decide +kernel
theorem d_M_init_28 : decode prog_7_method_1_code 28 = .ok (.aload_n 0, 1) := by decide +kernel
theorem d_M_init_29 : decode prog_7_method_1_code 29 = .ok (.bipush 64, 2) := by decide +kernel
theorem d_M_init_31 : decode prog_7_method_1_code 31 = .ok (.newarray .int, 2) := by decide +kernel
theorem d_M_init_33 : decode prog_7_method_1_code 33 = .ok (.putfield 19, 3) := by decide +kernel
theorem d_M_init_36 : decode prog_7_method_1_code 36 = .ok (.aload_n 0, 1) := by decide +kernel
theorem d_M_init_37 : decode prog_7_method_1_code 37 = .ok (.bipush 8, 2) := by decide +kernel
theorem d_M_init_39 : decode prog_7_method_1_code 39 = .ok (.newarray .int, 2) := by decide +kernel
theorem d_M_init_41 : decode prog_7_method_1_code 41 = .ok (.putfield 22, 3) := by decide +kernel
theorem d_M_init_44 : decode prog_7_method_1_code 44 = .ok (.aload_n 0, 1) := by decide +kernel
theorem d_M_init_45 : decode prog_7_method_1_code 45 = .ok (.bipush 8, 2) := by decide +kernel
theorem d_M_init_47 : decode prog_7_method_1_code 47 = .ok (.newarray .int, 2) := by decide +kernel
theorem d_M_init_49 : decode prog_7_method_1_code 49 = .ok (.putfield 25, 3) := by decide +kernel
theorem d_M_init_52 : decode prog_7_method_1_code 52 = .ok (.aload_n 0, 1) := by decide +kernel
theorem d_M_init_53 : decode prog_7_method_1_code 53 = .ok (.bipush 8, 2) := by decide +kernel
theorem d_M_init_55 : decode prog_7_method_1_code 55 = .ok (.newarray .int, 2) := by decide +kernel
theorem d_M_init_57 : decode prog_7_method_1_code 57 = .ok (.putfield 28, 3) := by decide +kernel
theorem d_M_init_60 : decode prog_7_method_1_code 60 = .ok (.aload_n 0, 1) := by decide +kernel
theorem d_M_init_61 : decode prog_7_method_1_code 61 = .ok (.bipush 8, 2) := by decide +kernel
theorem d_M_init_63 : decode prog_7_method_1_code 63 = .ok (.newarray .int, 2) := by decide +kernel
theorem d_M_init_65 : decode prog_7_method_1_code 65 = .ok (.putfield 31, 3) := by decide +kernel
theorem d_M_init_68 : decode prog_7_method_1_code 68 = .ok (.aload_n 0, 1) := by decide +kernel
theorem d_M_init_69 : decode prog_7_method_1_code 69 = .ok (.bipush 8, 2) := by decide +kernel
theorem d_M_init_71 : decode prog_7_method_1_code 71 = .ok (.newarray .int, 2) := by decide +kernel
theorem d_M_init_73 : decode prog_7_method_1_code 73 = .ok (.putfield 34, 3) := by decide +kernel
theorem d_M_init_76 : decode prog_7_method_1_code 76 = .ok (.aload_n 0, 1) := by decide +kernel
theorem d_M_init_77 : decode prog_7_method_1_code 77 = .ok (.bipush 8, 2) := by decide +kernel
theorem d_M_init_79 : decode prog_7_method_1_code 79 = .ok (.newarray .int, 2) := by decide +kernel
theorem d_M_init_81 : decode prog_7_method_1_code 81 = .ok (.putfield 37, 3) := by decide +kernel
theorem d_M_init_84 : decode prog_7_method_1_code 84 = .ok (.aload_n 0, 1) := by decide +kernel
theorem d_M_init_85 : decode prog_7_method_1_code 85 = .ok (.bipush 64, 2) := by decide +kernel
theorem d_M_init_87 : decode prog_7_method_1_code 87 = .ok (.newarray .int, 2) := by decide +kernel
theorem d_M_init_89 : decode prog_7_method_1_code 89 = .ok (.putfield 40, 3) := by decide +kernel
theorem d_M_init_92 : decode prog_7_method_1_code 92 = .ok (.return_, 1) := by decide +kernel
theorem d_M_thrown_0 : decode prog_7_method_2_code 0 = .ok (.aload_n 0, 1) := by decide +kernel
theorem d_M_thrown_1 : decode prog_7_method_2_code 1 = .ok (.getfield 43, 3) := by decide +kernel
theorem d_M_thrown_4 : decode prog_7_method_2_code 4 = .ok (.ireturn, 1) := by decide +kernel
theorem d_M_isPerson_0 : decode prog_7_method_3_code 0 = .ok (.iload_n 1, 1) := by decide +kernel
theorem d_M_isPerson_1 : decode prog_7_method_3_code 1 = .ok (.ifCond .lt 15, 3) := by decide +kernel
theorem d_M_isPerson_4 : decode prog_7_method_3_code 4 = .ok (.iload_n 1, 1) := by decide +kernel
theorem d_M_isPerson_5 : decode prog_7_method_3_code 5 = .ok (.aload_n 0, 1) := by decide +kernel
theorem d_M_isPerson_6 : decode prog_7_method_3_code 6 = .ok (.getfield 47, 3) := by decide +kernel
theorem d_M_isPerson_9 : decode prog_7_method_3_code 9 = .ok (.if_icmp .ge 7, 3) := by decide +kernel
theorem d_M_isPerson_12 : decode prog_7_method_3_code 12 = .ok (.iconst 1, 1) := by decide +kernel
theorem d_M_isPerson_13 : decode prog_7_method_3_code 13 = .ok (.goto 4, 3) := by decide +kernel
theorem d_M_isPerson_16 : decode prog_7_method_3_code 16 = .ok (.iconst 0, 1) := by decide +kernel
theorem d_M_isPerson_17 : decode prog_7_method_3_code 17 = .ok (.ireturn, 1) := by decide +kernel
theorem d_M_placeOf_0 : decode prog_7_method_4_code 0 = .ok (.iconst (-1), 1) := by decide +kernel
theorem d_M_placeOf_1 : decode prog_7_method_4_code 1 = .ok (.istore_n 3, 1) := by decide +kernel
theorem d_M_placeOf_2 : decode prog_7_method_4_code 2 = .ok (.iconst 0, 1) := by decide +kernel
theorem d_M_placeOf_3 : decode prog_7_method_4_code 3 = .ok (.istore 4, 2) := by decide +kernel
theorem d_M_placeOf_5 : decode prog_7_method_4_code 5 = .ok (.iload 4, 2) := by decide +kernel
theorem d_M_placeOf_7 : decode prog_7_method_4_code 7 = .ok (.aload_n 0, 1) := by decide +kernel
theorem d_M_placeOf_8 : decode prog_7_method_4_code 8 = .ok (.getfield 7, 3) := by decide +kernel
theorem d_M_placeOf_11 : decode prog_7_method_4_code 11 = .ok (.iload_n 1, 1) := by decide +kernel
theorem d_M_placeOf_12 : decode prog_7_method_4_code 12 = .ok (.iaload, 1) := by decide +kernel
theorem d_M_placeOf_13 : decode prog_7_method_4_code 13 = .ok (.if_icmp .ge 32, 3) := by decide +kernel
theorem d_M_placeOf_16 : decode prog_7_method_4_code 16 = .ok (.aload_n 0, 1) := by decide +kernel
theorem d_M_placeOf_17 : decode prog_7_method_4_code 17 = .ok (.getfield 13, 3) := by decide +kernel
theorem d_M_placeOf_20 : decode prog_7_method_4_code 20 = .ok (.bipush 8, 2) := by decide +kernel
theorem d_M_placeOf_22 : decode prog_7_method_4_code 22 = .ok (.iload_n 1, 1) := by decide +kernel
theorem d_M_placeOf_23 : decode prog_7_method_4_code 23 = .ok (.imul, 1) := by decide +kernel
theorem d_M_placeOf_24 : decode prog_7_method_4_code 24 = .ok (.iload 4, 2) := by decide +kernel
theorem d_M_placeOf_26 : decode prog_7_method_4_code 26 = .ok (.iadd, 1) := by decide +kernel
theorem d_M_placeOf_27 : decode prog_7_method_4_code 27 = .ok (.iaload, 1) := by decide +kernel
theorem d_M_placeOf_28 : decode prog_7_method_4_code 28 = .ok (.iload_n 2, 1) := by decide +kernel
theorem d_M_placeOf_29 : decode prog_7_method_4_code 29 = .ok (.if_icmp .ne 8, 3) := by decide +kernel
theorem d_M_placeOf_32 : decode prog_7_method_4_code 32 = .ok (.iload 4, 2) := by decide +kernel
theorem d_M_placeOf_34 : decode prog_7_method_4_code 34 = .ok (.goto 4, 3) := by decide +kernel
theorem d_M_placeOf_37 : decode prog_7_method_4_code 37 = .ok (.iload_n 3, 1) := by decide +kernel
theorem d_M_placeOf_38 : decode prog_7_method_4_code 38 = .ok (.istore_n 3, 1) := by decide +kernel
theorem d_M_placeOf_39 : decode prog_7_method_4_code 39 = .ok (.iinc 4 1, 3) := by decide +kernel
theorem d_M_placeOf_42 : decode prog_7_method_4_code 42 = .ok (.goto (-37), 3) := by decide +kernel
theorem d_M_placeOf_45 : decode prog_7_method_4_code 45 = .ok (.iload_n 3, 1) := by decide +kernel
theorem d_M_placeOf_46 : decode prog_7_method_4_code 46 = .ok (.ireturn, 1) := by decide +kernel
theorem d_M_mayBe_0 : decode prog_7_method_5_code 0 = .ok (.aload_n 0, 1) := by decide +kernel
theorem d_M_mayBe_1 : decode prog_7_method_5_code 1 = .ok (.iload_n 1, 1) := by decide +kernel
theorem d_M_mayBe_2 : decode prog_7_method_5_code 2 = .ok (.iload_n 2, 1) := by decide +kernel
theorem d_M_mayBe_3 : decode prog_7_method_5_code 3 = .ok (.invokevirtual 50, 3) := by decide +kernel
theorem d_M_mayBe_6 : decode prog_7_method_5_code 6 = .ok (.ifCond .lt 16, 3) := by decide +kernel
theorem d_M_mayBe_9 : decode prog_7_method_5_code 9 = .ok (.aload_n 0, 1) := by decide +kernel
theorem d_M_mayBe_10 : decode prog_7_method_5_code 10 = .ok (.iload_n 2, 1) := by decide +kernel
theorem d_M_mayBe_11 : decode prog_7_method_5_code 11 = .ok (.iload_n 1, 1) := by decide +kernel
theorem d_M_mayBe_12 : decode prog_7_method_5_code 12 = .ok (.invokevirtual 50, 3) := by decide +kernel
theorem d_M_mayBe_15 : decode prog_7_method_5_code 15 = .ok (.ifCond .lt 7, 3) := by decide +kernel
theorem d_M_mayBe_18 : decode prog_7_method_5_code 18 = .ok (.iconst 1, 1) := by decide +kernel
theorem d_M_mayBe_19 : decode prog_7_method_5_code 19 = .ok (.goto 4, 3) := by decide +kernel
theorem d_M_mayBe_22 : decode prog_7_method_5_code 22 = .ok (.iconst 0, 1) := by decide +kernel
theorem d_M_mayBe_23 : decode prog_7_method_5_code 23 = .ok (.ireturn, 1) := by decide +kernel
theorem d_M_prefers_0 : decode prog_7_method_6_code 0 = .ok (.iload_n 2, 1) := by decide +kernel
theorem d_M_prefers_1 : decode prog_7_method_6_code 1 = .ok (.iload_n 3, 1) := by decide +kernel
theorem d_M_prefers_2 : decode prog_7_method_6_code 2 = .ok (.if_icmp .eq 41, 3) := by decide +kernel
theorem d_M_prefers_5 : decode prog_7_method_6_code 5 = .ok (.iload_n 2, 1) := by decide +kernel
theorem d_M_prefers_6 : decode prog_7_method_6_code 6 = .ok (.iload_n 1, 1) := by decide +kernel
theorem d_M_prefers_7 : decode prog_7_method_6_code 7 = .ok (.if_icmp .eq 36, 3) := by decide +kernel
theorem d_M_prefers_10 : decode prog_7_method_6_code 10 = .ok (.aload_n 0, 1) := by decide +kernel
theorem d_M_prefers_11 : decode prog_7_method_6_code 11 = .ok (.iload_n 1, 1) := by decide +kernel
theorem d_M_prefers_12 : decode prog_7_method_6_code 12 = .ok (.iload_n 2, 1) := by decide +kernel
theorem d_M_prefers_13 : decode prog_7_method_6_code 13 = .ok (.invokevirtual 54, 3) := by decide +kernel
theorem d_M_prefers_16 : decode prog_7_method_6_code 16 = .ok (.ifCond .eq 27, 3) := by decide +kernel
theorem d_M_prefers_19 : decode prog_7_method_6_code 19 = .ok (.iload_n 3, 1) := by decide +kernel
theorem d_M_prefers_20 : decode prog_7_method_6_code 20 = .ok (.iload_n 1, 1) := by decide +kernel
theorem d_M_prefers_21 : decode prog_7_method_6_code 21 = .ok (.if_icmp .eq 18, 3) := by decide +kernel
theorem d_M_prefers_24 : decode prog_7_method_6_code 24 = .ok (.aload_n 0, 1) := by decide +kernel
theorem d_M_prefers_25 : decode prog_7_method_6_code 25 = .ok (.iload_n 1, 1) := by decide +kernel
theorem d_M_prefers_26 : decode prog_7_method_6_code 26 = .ok (.iload_n 2, 1) := by decide +kernel
theorem d_M_prefers_27 : decode prog_7_method_6_code 27 = .ok (.invokevirtual 50, 3) := by decide +kernel
theorem d_M_prefers_30 : decode prog_7_method_6_code 30 = .ok (.aload_n 0, 1) := by decide +kernel
theorem d_M_prefers_31 : decode prog_7_method_6_code 31 = .ok (.iload_n 1, 1) := by decide +kernel
theorem d_M_prefers_32 : decode prog_7_method_6_code 32 = .ok (.iload_n 3, 1) := by decide +kernel
theorem d_M_prefers_33 : decode prog_7_method_6_code 33 = .ok (.invokevirtual 50, 3) := by decide +kernel
theorem d_M_prefers_36 : decode prog_7_method_6_code 36 = .ok (.if_icmp .ge 7, 3) := by decide +kernel
theorem d_M_prefers_39 : decode prog_7_method_6_code 39 = .ok (.iconst 1, 1) := by decide +kernel
theorem d_M_prefers_40 : decode prog_7_method_6_code 40 = .ok (.goto 4, 3) := by decide +kernel
theorem d_M_prefers_43 : decode prog_7_method_6_code 43 = .ok (.iconst 0, 1) := by decide +kernel
theorem d_M_prefers_44 : decode prog_7_method_6_code 44 = .ok (.ireturn, 1) := by decide +kernel
theorem d_M_change_0 : decode prog_7_method_7_code 0 = .ok (.aload_n 0, 1) := by decide +kernel
theorem d_M_change_1 : decode prog_7_method_7_code 1 = .ok (.iconst 0, 1) := by decide +kernel
theorem d_M_change_2 : decode prog_7_method_7_code 2 = .ok (.putfield 58, 3) := by decide +kernel
theorem d_M_change_5 : decode prog_7_method_7_code 5 = .ok (.iconst 0, 1) := by decide +kernel
theorem d_M_change_6 : decode prog_7_method_7_code 6 = .ok (.istore_n 1, 1) := by decide +kernel
theorem d_M_change_7 : decode prog_7_method_7_code 7 = .ok (.iload_n 1, 1) := by decide +kernel
theorem d_M_change_8 : decode prog_7_method_7_code 8 = .ok (.aload_n 0, 1) := by decide +kernel
theorem d_M_change_9 : decode prog_7_method_7_code 9 = .ok (.getfield 47, 3) := by decide +kernel
theorem d_M_change_12 : decode prog_7_method_7_code 12 = .ok (.if_icmp .ge 44, 3) := by decide +kernel
theorem d_M_change_15 : decode prog_7_method_7_code 15 = .ok (.aload_n 0, 1) := by decide +kernel
theorem d_M_change_16 : decode prog_7_method_7_code 16 = .ok (.getfield 16, 3) := by decide +kernel
theorem d_M_change_19 : decode prog_7_method_7_code 19 = .ok (.iload_n 1, 1) := by decide +kernel
theorem d_M_change_20 : decode prog_7_method_7_code 20 = .ok (.iaload, 1) := by decide +kernel
theorem d_M_change_21 : decode prog_7_method_7_code 21 = .ok (.istore_n 2, 1) := by decide +kernel
theorem d_M_change_22 : decode prog_7_method_7_code 22 = .ok (.iload_n 2, 1) := by decide +kernel
theorem d_M_change_23 : decode prog_7_method_7_code 23 = .ok (.iload_n 1, 1) := by decide +kernel
theorem d_M_change_24 : decode prog_7_method_7_code 24 = .ok (.if_icmp .eq 26, 3) := by decide +kernel
theorem d_M_change_27 : decode prog_7_method_7_code 27 = .ok (.aload_n 0, 1) := by decide +kernel
theorem d_M_change_28 : decode prog_7_method_7_code 28 = .ok (.iload_n 1, 1) := by decide +kernel
theorem d_M_change_29 : decode prog_7_method_7_code 29 = .ok (.iload_n 2, 1) := by decide +kernel
theorem d_M_change_30 : decode prog_7_method_7_code 30 = .ok (.invokevirtual 54, 3) := by decide +kernel
theorem d_M_change_33 : decode prog_7_method_7_code 33 = .ok (.ifCond .ne 17, 3) := by decide +kernel
theorem d_M_change_36 : decode prog_7_method_7_code 36 = .ok (.aload_n 0, 1) := by decide +kernel
theorem d_M_change_37 : decode prog_7_method_7_code 37 = .ok (.getfield 16, 3) := by decide +kernel
theorem d_M_change_40 : decode prog_7_method_7_code 40 = .ok (.iload_n 1, 1) := by decide +kernel
theorem d_M_change_41 : decode prog_7_method_7_code 41 = .ok (.iload_n 1, 1) := by decide +kernel
theorem d_M_change_42 : decode prog_7_method_7_code 42 = .ok (.iastore, 1) := by decide +kernel
theorem d_M_change_43 : decode prog_7_method_7_code 43 = .ok (.aload_n 0, 1) := by decide +kernel
theorem d_M_change_44 : decode prog_7_method_7_code 44 = .ok (.getfield 16, 3) := by decide +kernel
theorem d_M_change_47 : decode prog_7_method_7_code 47 = .ok (.iload_n 2, 1) := by decide +kernel
theorem d_M_change_48 : decode prog_7_method_7_code 48 = .ok (.iload_n 2, 1) := by decide +kernel
theorem d_M_change_49 : decode prog_7_method_7_code 49 = .ok (.iastore, 1) := by decide +kernel
theorem d_M_change_50 : decode prog_7_method_7_code 50 = .ok (.iinc 1 1, 3) := by decide +kernel
theorem d_M_change_53 : decode prog_7_method_7_code 53 = .ok (.goto (-46), 3) := by decide +kernel
theorem d_M_change_56 : decode prog_7_method_7_code 56 = .ok (.return_, 1) := by decide +kernel
theorem d_M_people_0 : decode prog_7_method_8_code 0 = .ok (.aload_n 0, 1) := by decide +kernel
theorem d_M_people_1 : decode prog_7_method_8_code 1 = .ok (.iload_n 1, 1) := by decide +kernel
theorem d_M_people_2 : decode prog_7_method_8_code 2 = .ok (.ifCond .lt 9, 3) := by decide +kernel
theorem d_M_people_5 : decode prog_7_method_8_code 5 = .ok (.iload_n 1, 1) := by decide +kernel
theorem d_M_people_6 : decode prog_7_method_8_code 6 = .ok (.bipush 8, 2) := by decide +kernel
theorem d_M_people_8 : decode prog_7_method_8_code 8 = .ok (.if_icmp .le 7, 3) := by decide +kernel
theorem d_M_people_11 : decode prog_7_method_8_code 11 = .ok (.iconst 1, 1) := by decide +kernel
theorem d_M_people_12 : decode prog_7_method_8_code 12 = .ok (.goto 4, 3) := by decide +kernel
theorem d_M_people_15 : decode prog_7_method_8_code 15 = .ok (.iconst 0, 1) := by decide +kernel
theorem d_M_people_16 : decode prog_7_method_8_code 16 = .ok (.putfield 43, 3) := by decide +kernel
theorem d_M_people_19 : decode prog_7_method_8_code 19 = .ok (.aload_n 0, 1) := by decide +kernel
theorem d_M_people_20 : decode prog_7_method_8_code 20 = .ok (.getfield 43, 3) := by decide +kernel
theorem d_M_people_23 : decode prog_7_method_8_code 23 = .ok (.ifCond .le 5, 3) := by decide +kernel
theorem d_M_people_26 : decode prog_7_method_8_code 26 = .ok (.iconst 0, 1) := by decide +kernel
theorem d_M_people_27 : decode prog_7_method_8_code 27 = .ok (.ireturn, 1) := by decide +kernel
theorem d_M_people_28 : decode prog_7_method_8_code 28 = .ok (.aload_n 0, 1) := by decide +kernel
theorem d_M_people_29 : decode prog_7_method_8_code 29 = .ok (.getfield 47, 3) := by decide +kernel
theorem d_M_people_32 : decode prog_7_method_8_code 32 = .ok (.istore_n 2, 1) := by decide +kernel
theorem d_M_people_33 : decode prog_7_method_8_code 33 = .ok (.aload_n 0, 1) := by decide +kernel
theorem d_M_people_34 : decode prog_7_method_8_code 34 = .ok (.iload_n 1, 1) := by decide +kernel
theorem d_M_people_35 : decode prog_7_method_8_code 35 = .ok (.putfield 47, 3) := by decide +kernel
theorem d_M_people_38 : decode prog_7_method_8_code 38 = .ok (.iconst 0, 1) := by decide +kernel
theorem d_M_people_39 : decode prog_7_method_8_code 39 = .ok (.istore_n 3, 1) := by decide +kernel
theorem d_M_people_40 : decode prog_7_method_8_code 40 = .ok (.iload_n 3, 1) := by decide +kernel
theorem d_M_people_41 : decode prog_7_method_8_code 41 = .ok (.aload_n 0, 1) := by decide +kernel
theorem d_M_people_42 : decode prog_7_method_8_code 42 = .ok (.getfield 47, 3) := by decide +kernel
theorem d_M_people_45 : decode prog_7_method_8_code 45 = .ok (.if_icmp .ge 23, 3) := by decide +kernel
theorem d_M_people_48 : decode prog_7_method_8_code 48 = .ok (.aload_n 0, 1) := by decide +kernel
theorem d_M_people_49 : decode prog_7_method_8_code 49 = .ok (.getfield 7, 3) := by decide +kernel
theorem d_M_people_52 : decode prog_7_method_8_code 52 = .ok (.iload_n 3, 1) := by decide +kernel
theorem d_M_people_53 : decode prog_7_method_8_code 53 = .ok (.iconst 0, 1) := by decide +kernel
theorem d_M_people_54 : decode prog_7_method_8_code 54 = .ok (.iastore, 1) := by decide +kernel
theorem d_M_people_55 : decode prog_7_method_8_code 55 = .ok (.aload_n 0, 1) := by decide +kernel
theorem d_M_people_56 : decode prog_7_method_8_code 56 = .ok (.getfield 16, 3) := by decide +kernel
theorem d_M_people_59 : decode prog_7_method_8_code 59 = .ok (.iload_n 3, 1) := by decide +kernel
theorem d_M_people_60 : decode prog_7_method_8_code 60 = .ok (.iload_n 3, 1) := by decide +kernel
theorem d_M_people_61 : decode prog_7_method_8_code 61 = .ok (.iastore, 1) := by decide +kernel
theorem d_M_people_62 : decode prog_7_method_8_code 62 = .ok (.iinc 3 1, 3) := by decide +kernel
theorem d_M_people_65 : decode prog_7_method_8_code 65 = .ok (.goto (-25), 3) := by decide +kernel
theorem d_M_people_68 : decode prog_7_method_8_code 68 = .ok (.aload_n 0, 1) := by decide +kernel
theorem d_M_people_69 : decode prog_7_method_8_code 69 = .ok (.iconst 0, 1) := by decide +kernel
theorem d_M_people_70 : decode prog_7_method_8_code 70 = .ok (.putfield 58, 3) := by decide +kernel
theorem d_M_people_73 : decode prog_7_method_8_code 73 = .ok (.iload_n 2, 1) := by decide +kernel
theorem d_M_people_74 : decode prog_7_method_8_code 74 = .ok (.ireturn, 1) := by decide +kernel
theorem d_M_put_0 : decode prog_7_method_9_code 0 = .ok (.aload_n 0, 1) := by decide +kernel
theorem d_M_put_1 : decode prog_7_method_9_code 1 = .ok (.aload_n 0, 1) := by decide +kernel
theorem d_M_put_2 : decode prog_7_method_9_code 2 = .ok (.iload_n 1, 1) := by decide +kernel
theorem d_M_put_3 : decode prog_7_method_9_code 3 = .ok (.invokevirtual 62, 3) := by decide +kernel
theorem d_M_put_6 : decode prog_7_method_9_code 6 = .ok (.ifCond .eq 11, 3) := by decide +kernel
theorem d_M_put_9 : decode prog_7_method_9_code 9 = .ok (.aload_n 0, 1) := by decide +kernel
theorem d_M_put_10 : decode prog_7_method_9_code 10 = .ok (.iload_n 2, 1) := by decide +kernel
theorem d_M_put_11 : decode prog_7_method_9_code 11 = .ok (.invokevirtual 62, 3) := by decide +kernel
theorem d_M_put_14 : decode prog_7_method_9_code 14 = .ok (.ifCond .ne 7, 3) := by decide +kernel
theorem d_M_put_17 : decode prog_7_method_9_code 17 = .ok (.iconst 1, 1) := by decide +kernel
theorem d_M_put_18 : decode prog_7_method_9_code 18 = .ok (.goto 26, 3) := by decide +kernel
theorem d_M_put_21 : decode prog_7_method_9_code 21 = .ok (.iload_n 1, 1) := by decide +kernel
theorem d_M_put_22 : decode prog_7_method_9_code 22 = .ok (.iload_n 2, 1) := by decide +kernel
theorem d_M_put_23 : decode prog_7_method_9_code 23 = .ok (.if_icmp .ne 7, 3) := by decide +kernel
theorem d_M_put_26 : decode prog_7_method_9_code 26 = .ok (.iconst 2, 1) := by decide +kernel
theorem d_M_put_27 : decode prog_7_method_9_code 27 = .ok (.goto 17, 3) := by decide +kernel
theorem d_M_put_30 : decode prog_7_method_9_code 30 = .ok (.aload_n 0, 1) := by decide +kernel
theorem d_M_put_31 : decode prog_7_method_9_code 31 = .ok (.iload_n 1, 1) := by decide +kernel
theorem d_M_put_32 : decode prog_7_method_9_code 32 = .ok (.iload_n 2, 1) := by decide +kernel
theorem d_M_put_33 : decode prog_7_method_9_code 33 = .ok (.invokevirtual 50, 3) := by decide +kernel
theorem d_M_put_36 : decode prog_7_method_9_code 36 = .ok (.ifCond .lt 7, 3) := by decide +kernel
theorem d_M_put_39 : decode prog_7_method_9_code 39 = .ok (.iconst 3, 1) := by decide +kernel
theorem d_M_put_40 : decode prog_7_method_9_code 40 = .ok (.goto 4, 3) := by decide +kernel
theorem d_M_put_43 : decode prog_7_method_9_code 43 = .ok (.iconst 0, 1) := by decide +kernel
theorem d_M_put_44 : decode prog_7_method_9_code 44 = .ok (.putfield 43, 3) := by decide +kernel
theorem d_M_put_47 : decode prog_7_method_9_code 47 = .ok (.aload_n 0, 1) := by decide +kernel
theorem d_M_put_48 : decode prog_7_method_9_code 48 = .ok (.getfield 43, 3) := by decide +kernel
theorem d_M_put_51 : decode prog_7_method_9_code 51 = .ok (.ifCond .le 5, 3) := by decide +kernel
theorem d_M_put_54 : decode prog_7_method_9_code 54 = .ok (.iconst 0, 1) := by decide +kernel
theorem d_M_put_55 : decode prog_7_method_9_code 55 = .ok (.ireturn, 1) := by decide +kernel
theorem d_M_put_56 : decode prog_7_method_9_code 56 = .ok (.aload_n 0, 1) := by decide +kernel
theorem d_M_put_57 : decode prog_7_method_9_code 57 = .ok (.getfield 13, 3) := by decide +kernel
theorem d_M_put_60 : decode prog_7_method_9_code 60 = .ok (.bipush 8, 2) := by decide +kernel
theorem d_M_put_62 : decode prog_7_method_9_code 62 = .ok (.iload_n 1, 1) := by decide +kernel
theorem d_M_put_63 : decode prog_7_method_9_code 63 = .ok (.imul, 1) := by decide +kernel
theorem d_M_put_64 : decode prog_7_method_9_code 64 = .ok (.aload_n 0, 1) := by decide +kernel
theorem d_M_put_65 : decode prog_7_method_9_code 65 = .ok (.getfield 7, 3) := by decide +kernel
theorem d_M_put_68 : decode prog_7_method_9_code 68 = .ok (.iload_n 1, 1) := by decide +kernel
theorem d_M_put_69 : decode prog_7_method_9_code 69 = .ok (.iaload, 1) := by decide +kernel
theorem d_M_put_70 : decode prog_7_method_9_code 70 = .ok (.iadd, 1) := by decide +kernel
theorem d_M_put_71 : decode prog_7_method_9_code 71 = .ok (.iload_n 2, 1) := by decide +kernel
theorem d_M_put_72 : decode prog_7_method_9_code 72 = .ok (.iastore, 1) := by decide +kernel
theorem d_M_put_73 : decode prog_7_method_9_code 73 = .ok (.aload_n 0, 1) := by decide +kernel
theorem d_M_put_74 : decode prog_7_method_9_code 74 = .ok (.getfield 7, 3) := by decide +kernel
theorem d_M_put_77 : decode prog_7_method_9_code 77 = .ok (.iload_n 1, 1) := by decide +kernel
theorem d_M_put_78 : decode prog_7_method_9_code 78 = .ok (.dup2, 1) := by decide +kernel
theorem d_M_put_79 : decode prog_7_method_9_code 79 = .ok (.iaload, 1) := by decide +kernel
theorem d_M_put_80 : decode prog_7_method_9_code 80 = .ok (.iconst 1, 1) := by decide +kernel
theorem d_M_put_81 : decode prog_7_method_9_code 81 = .ok (.iadd, 1) := by decide +kernel
theorem d_M_put_82 : decode prog_7_method_9_code 82 = .ok (.iastore, 1) := by decide +kernel
theorem d_M_put_83 : decode prog_7_method_9_code 83 = .ok (.aload_n 0, 1) := by decide +kernel
theorem d_M_put_84 : decode prog_7_method_9_code 84 = .ok (.invokevirtual 66, 3) := by decide +kernel
theorem d_M_put_87 : decode prog_7_method_9_code 87 = .ok (.aload_n 0, 1) := by decide +kernel
theorem d_M_put_88 : decode prog_7_method_9_code 88 = .ok (.getfield 7, 3) := by decide +kernel
theorem d_M_put_91 : decode prog_7_method_9_code 91 = .ok (.iload_n 1, 1) := by decide +kernel
theorem d_M_put_92 : decode prog_7_method_9_code 92 = .ok (.iaload, 1) := by decide +kernel
theorem d_M_put_93 : decode prog_7_method_9_code 93 = .ok (.ireturn, 1) := by decide +kernel
theorem d_M_isPlace_0 : decode prog_7_method_10_code 0 = .ok (.aload_n 0, 1) := by decide +kernel
theorem d_M_isPlace_1 : decode prog_7_method_10_code 1 = .ok (.iload_n 1, 1) := by decide +kernel
theorem d_M_isPlace_2 : decode prog_7_method_10_code 2 = .ok (.invokevirtual 62, 3) := by decide +kernel
theorem d_M_isPlace_5 : decode prog_7_method_10_code 5 = .ok (.ifCond .eq 21, 3) := by decide +kernel
theorem d_M_isPlace_8 : decode prog_7_method_10_code 8 = .ok (.iload_n 2, 1) := by decide +kernel
theorem d_M_isPlace_9 : decode prog_7_method_10_code 9 = .ok (.ifCond .lt 17, 3) := by decide +kernel
theorem d_M_isPlace_12 : decode prog_7_method_10_code 12 = .ok (.iload_n 2, 1) := by decide +kernel
theorem d_M_isPlace_13 : decode prog_7_method_10_code 13 = .ok (.aload_n 0, 1) := by decide +kernel
theorem d_M_isPlace_14 : decode prog_7_method_10_code 14 = .ok (.getfield 7, 3) := by decide +kernel
theorem d_M_isPlace_17 : decode prog_7_method_10_code 17 = .ok (.iload_n 1, 1) := by decide +kernel
theorem d_M_isPlace_18 : decode prog_7_method_10_code 18 = .ok (.iaload, 1) := by decide +kernel
theorem d_M_isPlace_19 : decode prog_7_method_10_code 19 = .ok (.if_icmp .ge 7, 3) := by decide +kernel
theorem d_M_isPlace_22 : decode prog_7_method_10_code 22 = .ok (.iconst 1, 1) := by decide +kernel
theorem d_M_isPlace_23 : decode prog_7_method_10_code 23 = .ok (.goto 4, 3) := by decide +kernel
theorem d_M_isPlace_26 : decode prog_7_method_10_code 26 = .ok (.iconst 0, 1) := by decide +kernel
theorem d_M_isPlace_27 : decode prog_7_method_10_code 27 = .ok (.ireturn, 1) := by decide +kernel
theorem d_M_remove_0 : decode prog_7_method_11_code 0 = .ok (.aload_n 0, 1) := by decide +kernel
theorem d_M_remove_1 : decode prog_7_method_11_code 1 = .ok (.aload_n 0, 1) := by decide +kernel
theorem d_M_remove_2 : decode prog_7_method_11_code 2 = .ok (.iload_n 1, 1) := by decide +kernel
theorem d_M_remove_3 : decode prog_7_method_11_code 3 = .ok (.iload_n 2, 1) := by decide +kernel
theorem d_M_remove_4 : decode prog_7_method_11_code 4 = .ok (.invokevirtual 69, 3) := by decide +kernel
theorem d_M_remove_7 : decode prog_7_method_11_code 7 = .ok (.ifCond .eq 7, 3) := by decide +kernel
theorem d_M_remove_10 : decode prog_7_method_11_code 10 = .ok (.iconst 0, 1) := by decide +kernel
theorem d_M_remove_11 : decode prog_7_method_11_code 11 = .ok (.goto 4, 3) := by decide +kernel
theorem d_M_remove_14 : decode prog_7_method_11_code 14 = .ok (.iconst 1, 1) := by decide +kernel
theorem d_M_remove_15 : decode prog_7_method_11_code 15 = .ok (.putfield 43, 3) := by decide +kernel
theorem d_M_remove_18 : decode prog_7_method_11_code 18 = .ok (.aload_n 0, 1) := by decide +kernel
theorem d_M_remove_19 : decode prog_7_method_11_code 19 = .ok (.getfield 43, 3) := by decide +kernel
theorem d_M_remove_22 : decode prog_7_method_11_code 22 = .ok (.ifCond .le 5, 3) := by decide +kernel
theorem d_M_remove_25 : decode prog_7_method_11_code 25 = .ok (.iconst 0, 1) := by decide +kernel
theorem d_M_remove_26 : decode prog_7_method_11_code 26 = .ok (.ireturn, 1) := by decide +kernel
theorem d_M_remove_27 : decode prog_7_method_11_code 27 = .ok (.aload_n 0, 1) := by decide +kernel
theorem d_M_remove_28 : decode prog_7_method_11_code 28 = .ok (.getfield 13, 3) := by decide +kernel
theorem d_M_remove_31 : decode prog_7_method_11_code 31 = .ok (.bipush 8, 2) := by decide +kernel
theorem d_M_remove_33 : decode prog_7_method_11_code 33 = .ok (.iload_n 1, 1) := by decide +kernel
theorem d_M_remove_34 : decode prog_7_method_11_code 34 = .ok (.imul, 1) := by decide +kernel
theorem d_M_remove_35 : decode prog_7_method_11_code 35 = .ok (.iload_n 2, 1) := by decide +kernel
theorem d_M_remove_36 : decode prog_7_method_11_code 36 = .ok (.iadd, 1) := by decide +kernel
theorem d_M_remove_37 : decode prog_7_method_11_code 37 = .ok (.iaload, 1) := by decide +kernel
theorem d_M_remove_38 : decode prog_7_method_11_code 38 = .ok (.istore_n 3, 1) := by decide +kernel
theorem d_M_remove_39 : decode prog_7_method_11_code 39 = .ok (.aload_n 0, 1) := by decide +kernel
theorem d_M_remove_40 : decode prog_7_method_11_code 40 = .ok (.getfield 7, 3) := by decide +kernel
theorem d_M_remove_43 : decode prog_7_method_11_code 43 = .ok (.iload_n 1, 1) := by decide +kernel
theorem d_M_remove_44 : decode prog_7_method_11_code 44 = .ok (.dup2, 1) := by decide +kernel
theorem d_M_remove_45 : decode prog_7_method_11_code 45 = .ok (.iaload, 1) := by decide +kernel
theorem d_M_remove_46 : decode prog_7_method_11_code 46 = .ok (.iconst 1, 1) := by decide +kernel
theorem d_M_remove_47 : decode prog_7_method_11_code 47 = .ok (.isub, 1) := by decide +kernel
theorem d_M_remove_48 : decode prog_7_method_11_code 48 = .ok (.iastore, 1) := by decide +kernel
theorem d_M_remove_49 : decode prog_7_method_11_code 49 = .ok (.bipush 8, 2) := by decide +kernel
theorem d_M_remove_51 : decode prog_7_method_11_code 51 = .ok (.iload_n 1, 1) := by decide +kernel
theorem d_M_remove_52 : decode prog_7_method_11_code 52 = .ok (.imul, 1) := by decide +kernel
theorem d_M_remove_53 : decode prog_7_method_11_code 53 = .ok (.iload_n 2, 1) := by decide +kernel
theorem d_M_remove_54 : decode prog_7_method_11_code 54 = .ok (.iadd, 1) := by decide +kernel
theorem d_M_remove_55 : decode prog_7_method_11_code 55 = .ok (.istore 4, 2) := by decide +kernel
theorem d_M_remove_57 : decode prog_7_method_11_code 57 = .ok (.iload 4, 2) := by decide +kernel
theorem d_M_remove_59 : decode prog_7_method_11_code 59 = .ok (.bipush 8, 2) := by decide +kernel
theorem d_M_remove_61 : decode prog_7_method_11_code 61 = .ok (.iload_n 1, 1) := by decide +kernel
theorem d_M_remove_62 : decode prog_7_method_11_code 62 = .ok (.imul, 1) := by decide +kernel
theorem d_M_remove_63 : decode prog_7_method_11_code 63 = .ok (.aload_n 0, 1) := by decide +kernel
theorem d_M_remove_64 : decode prog_7_method_11_code 64 = .ok (.getfield 7, 3) := by decide +kernel
theorem d_M_remove_67 : decode prog_7_method_11_code 67 = .ok (.iload_n 1, 1) := by decide +kernel
theorem d_M_remove_68 : decode prog_7_method_11_code 68 = .ok (.iaload, 1) := by decide +kernel
theorem d_M_remove_69 : decode prog_7_method_11_code 69 = .ok (.iadd, 1) := by decide +kernel
theorem d_M_remove_70 : decode prog_7_method_11_code 70 = .ok (.if_icmp .ge 25, 3) := by decide +kernel
theorem d_M_remove_73 : decode prog_7_method_11_code 73 = .ok (.aload_n 0, 1) := by decide +kernel
theorem d_M_remove_74 : decode prog_7_method_11_code 74 = .ok (.getfield 13, 3) := by decide +kernel
theorem d_M_remove_77 : decode prog_7_method_11_code 77 = .ok (.iload 4, 2) := by decide +kernel
theorem d_M_remove_79 : decode prog_7_method_11_code 79 = .ok (.aload_n 0, 1) := by decide +kernel
theorem d_M_remove_80 : decode prog_7_method_11_code 80 = .ok (.getfield 13, 3) := by decide +kernel
theorem d_M_remove_83 : decode prog_7_method_11_code 83 = .ok (.iload 4, 2) := by decide +kernel
theorem d_M_remove_85 : decode prog_7_method_11_code 85 = .ok (.iconst 1, 1) := by decide +kernel
theorem d_M_remove_86 : decode prog_7_method_11_code 86 = .ok (.iadd, 1) := by decide +kernel
theorem d_M_remove_87 : decode prog_7_method_11_code 87 = .ok (.iaload, 1) := by decide +kernel
theorem d_M_remove_88 : decode prog_7_method_11_code 88 = .ok (.iastore, 1) := by decide +kernel
theorem d_M_remove_89 : decode prog_7_method_11_code 89 = .ok (.iinc 4 1, 3) := by decide +kernel
theorem d_M_remove_92 : decode prog_7_method_11_code 92 = .ok (.goto (-35), 3) := by decide +kernel
theorem d_M_remove_95 : decode prog_7_method_11_code 95 = .ok (.aload_n 0, 1) := by decide +kernel
theorem d_M_remove_96 : decode prog_7_method_11_code 96 = .ok (.invokevirtual 66, 3) := by decide +kernel
theorem d_M_remove_99 : decode prog_7_method_11_code 99 = .ok (.iload_n 3, 1) := by decide +kernel
theorem d_M_remove_100 : decode prog_7_method_11_code 100 = .ok (.ireturn, 1) := by decide +kernel
theorem d_M_move_0 : decode prog_7_method_12_code 0 = .ok (.aload_n 0, 1) := by decide +kernel
theorem d_M_move_1 : decode prog_7_method_12_code 1 = .ok (.aload_n 0, 1) := by decide +kernel
theorem d_M_move_2 : decode prog_7_method_12_code 2 = .ok (.iload_n 1, 1) := by decide +kernel
theorem d_M_move_3 : decode prog_7_method_12_code 3 = .ok (.iload_n 2, 1) := by decide +kernel
theorem d_M_move_4 : decode prog_7_method_12_code 4 = .ok (.invokevirtual 69, 3) := by decide +kernel
theorem d_M_move_7 : decode prog_7_method_12_code 7 = .ok (.ifCond .eq 16, 3) := by decide +kernel
theorem d_M_move_10 : decode prog_7_method_12_code 10 = .ok (.aload_n 0, 1) := by decide +kernel
theorem d_M_move_11 : decode prog_7_method_12_code 11 = .ok (.iload_n 1, 1) := by decide +kernel
theorem d_M_move_12 : decode prog_7_method_12_code 12 = .ok (.iload_n 3, 1) := by decide +kernel
theorem d_M_move_13 : decode prog_7_method_12_code 13 = .ok (.invokevirtual 69, 3) := by decide +kernel
theorem d_M_move_16 : decode prog_7_method_12_code 16 = .ok (.ifCond .eq 7, 3) := by decide +kernel
theorem d_M_move_19 : decode prog_7_method_12_code 19 = .ok (.iconst 0, 1) := by decide +kernel
theorem d_M_move_20 : decode prog_7_method_12_code 20 = .ok (.goto 4, 3) := by decide +kernel
theorem d_M_move_23 : decode prog_7_method_12_code 23 = .ok (.iconst 1, 1) := by decide +kernel
theorem d_M_move_24 : decode prog_7_method_12_code 24 = .ok (.putfield 43, 3) := by decide +kernel
theorem d_M_move_27 : decode prog_7_method_12_code 27 = .ok (.aload_n 0, 1) := by decide +kernel
theorem d_M_move_28 : decode prog_7_method_12_code 28 = .ok (.getfield 43, 3) := by decide +kernel
theorem d_M_move_31 : decode prog_7_method_12_code 31 = .ok (.ifCond .le 5, 3) := by decide +kernel
theorem d_M_move_34 : decode prog_7_method_12_code 34 = .ok (.iconst 0, 1) := by decide +kernel
theorem d_M_move_35 : decode prog_7_method_12_code 35 = .ok (.ireturn, 1) := by decide +kernel
theorem d_M_move_36 : decode prog_7_method_12_code 36 = .ok (.iload_n 2, 1) := by decide +kernel
theorem d_M_move_37 : decode prog_7_method_12_code 37 = .ok (.iload_n 3, 1) := by decide +kernel
theorem d_M_move_38 : decode prog_7_method_12_code 38 = .ok (.if_icmp .ge 7, 3) := by decide +kernel
theorem d_M_move_41 : decode prog_7_method_12_code 41 = .ok (.iconst 1, 1) := by decide +kernel
theorem d_M_move_42 : decode prog_7_method_12_code 42 = .ok (.goto 4, 3) := by decide +kernel
theorem d_M_move_45 : decode prog_7_method_12_code 45 = .ok (.iconst (-1), 1) := by decide +kernel
theorem d_M_move_46 : decode prog_7_method_12_code 46 = .ok (.istore 4, 2) := by decide +kernel
theorem d_M_move_48 : decode prog_7_method_12_code 48 = .ok (.aload_n 0, 1) := by decide +kernel
theorem d_M_move_49 : decode prog_7_method_12_code 49 = .ok (.getfield 13, 3) := by decide +kernel
theorem d_M_move_52 : decode prog_7_method_12_code 52 = .ok (.bipush 8, 2) := by decide +kernel
theorem d_M_move_54 : decode prog_7_method_12_code 54 = .ok (.iload_n 1, 1) := by decide +kernel
theorem d_M_move_55 : decode prog_7_method_12_code 55 = .ok (.imul, 1) := by decide +kernel
theorem d_M_move_56 : decode prog_7_method_12_code 56 = .ok (.iload_n 2, 1) := by decide +kernel
theorem d_M_move_57 : decode prog_7_method_12_code 57 = .ok (.iadd, 1) := by decide +kernel
theorem d_M_move_58 : decode prog_7_method_12_code 58 = .ok (.iaload, 1) := by decide +kernel
theorem d_M_move_59 : decode prog_7_method_12_code 59 = .ok (.istore 5, 2) := by decide +kernel
theorem d_M_move_61 : decode prog_7_method_12_code 61 = .ok (.iload_n 2, 1) := by decide +kernel
theorem d_M_move_62 : decode prog_7_method_12_code 62 = .ok (.istore 6, 2) := by decide +kernel
theorem d_M_move_64 : decode prog_7_method_12_code 64 = .ok (.iload 6, 2) := by decide +kernel
theorem d_M_move_66 : decode prog_7_method_12_code 66 = .ok (.iload_n 3, 1) := by decide +kernel
theorem d_M_move_67 : decode prog_7_method_12_code 67 = .ok (.if_icmp .eq 40, 3) := by decide +kernel
theorem d_M_move_70 : decode prog_7_method_12_code 70 = .ok (.aload_n 0, 1) := by decide +kernel
theorem d_M_move_71 : decode prog_7_method_12_code 71 = .ok (.getfield 13, 3) := by decide +kernel
theorem d_M_move_74 : decode prog_7_method_12_code 74 = .ok (.bipush 8, 2) := by decide +kernel
theorem d_M_move_76 : decode prog_7_method_12_code 76 = .ok (.iload_n 1, 1) := by decide +kernel
theorem d_M_move_77 : decode prog_7_method_12_code 77 = .ok (.imul, 1) := by decide +kernel
theorem d_M_move_78 : decode prog_7_method_12_code 78 = .ok (.iload 6, 2) := by decide +kernel
theorem d_M_move_80 : decode prog_7_method_12_code 80 = .ok (.iadd, 1) := by decide +kernel
theorem d_M_move_81 : decode prog_7_method_12_code 81 = .ok (.aload_n 0, 1) := by decide +kernel
theorem d_M_move_82 : decode prog_7_method_12_code 82 = .ok (.getfield 13, 3) := by decide +kernel
theorem d_M_move_85 : decode prog_7_method_12_code 85 = .ok (.bipush 8, 2) := by decide +kernel
theorem d_M_move_87 : decode prog_7_method_12_code 87 = .ok (.iload_n 1, 1) := by decide +kernel
theorem d_M_move_88 : decode prog_7_method_12_code 88 = .ok (.imul, 1) := by decide +kernel
theorem d_M_move_89 : decode prog_7_method_12_code 89 = .ok (.iload 6, 2) := by decide +kernel
theorem d_M_move_91 : decode prog_7_method_12_code 91 = .ok (.iadd, 1) := by decide +kernel
theorem d_M_move_92 : decode prog_7_method_12_code 92 = .ok (.iload 4, 2) := by decide +kernel
theorem d_M_move_94 : decode prog_7_method_12_code 94 = .ok (.iadd, 1) := by decide +kernel
theorem d_M_move_95 : decode prog_7_method_12_code 95 = .ok (.iaload, 1) := by decide +kernel
theorem d_M_move_96 : decode prog_7_method_12_code 96 = .ok (.iastore, 1) := by decide +kernel
theorem d_M_move_97 : decode prog_7_method_12_code 97 = .ok (.iload 6, 2) := by decide +kernel
theorem d_M_move_99 : decode prog_7_method_12_code 99 = .ok (.iload 4, 2) := by decide +kernel
theorem d_M_move_101 : decode prog_7_method_12_code 101 = .ok (.iadd, 1) := by decide +kernel
theorem d_M_move_102 : decode prog_7_method_12_code 102 = .ok (.istore 6, 2) := by decide +kernel
theorem d_M_move_104 : decode prog_7_method_12_code 104 = .ok (.goto (-40), 3) := by decide +kernel
theorem d_M_move_107 : decode prog_7_method_12_code 107 = .ok (.aload_n 0, 1) := by decide +kernel
theorem d_M_move_108 : decode prog_7_method_12_code 108 = .ok (.getfield 13, 3) := by decide +kernel
theorem d_M_move_111 : decode prog_7_method_12_code 111 = .ok (.bipush 8, 2) := by decide +kernel
theorem d_M_move_113 : decode prog_7_method_12_code 113 = .ok (.iload_n 1, 1) := by decide +kernel
theorem d_M_move_114 : decode prog_7_method_12_code 114 = .ok (.imul, 1) := by decide +kernel
theorem d_M_move_115 : decode prog_7_method_12_code 115 = .ok (.iload_n 3, 1) := by decide +kernel
theorem d_M_move_116 : decode prog_7_method_12_code 116 = .ok (.iadd, 1) := by decide +kernel
theorem d_M_move_117 : decode prog_7_method_12_code 117 = .ok (.iload 5, 2) := by decide +kernel
theorem d_M_move_119 : decode prog_7_method_12_code 119 = .ok (.iastore, 1) := by decide +kernel
theorem d_M_move_120 : decode prog_7_method_12_code 120 = .ok (.aload_n 0, 1) := by decide +kernel
theorem d_M_move_121 : decode prog_7_method_12_code 121 = .ok (.invokevirtual 66, 3) := by decide +kernel
theorem d_M_move_124 : decode prog_7_method_12_code 124 = .ok (.iload 5, 2) := by decide +kernel
theorem d_M_move_126 : decode prog_7_method_12_code 126 = .ok (.ireturn, 1) := by decide +kernel
theorem d_M_at_0 : decode prog_7_method_13_code 0 = .ok (.aload_n 0, 1) := by decide +kernel
theorem d_M_at_1 : decode prog_7_method_13_code 1 = .ok (.aload_n 0, 1) := by decide +kernel
theorem d_M_at_2 : decode prog_7_method_13_code 2 = .ok (.iload_n 1, 1) := by decide +kernel
theorem d_M_at_3 : decode prog_7_method_13_code 3 = .ok (.invokevirtual 62, 3) := by decide +kernel
theorem d_M_at_6 : decode prog_7_method_13_code 6 = .ok (.ifCond .eq 11, 3) := by decide +kernel
theorem d_M_at_9 : decode prog_7_method_13_code 9 = .ok (.iload_n 2, 1) := by decide +kernel
theorem d_M_at_10 : decode prog_7_method_13_code 10 = .ok (.ifCond .lt 7, 3) := by decide +kernel
theorem d_M_at_13 : decode prog_7_method_13_code 13 = .ok (.iconst 0, 1) := by decide +kernel
theorem d_M_at_14 : decode prog_7_method_13_code 14 = .ok (.goto 4, 3) := by decide +kernel
theorem d_M_at_17 : decode prog_7_method_13_code 17 = .ok (.iconst 1, 1) := by decide +kernel
theorem d_M_at_18 : decode prog_7_method_13_code 18 = .ok (.putfield 43, 3) := by decide +kernel
theorem d_M_at_21 : decode prog_7_method_13_code 21 = .ok (.aload_n 0, 1) := by decide +kernel
theorem d_M_at_22 : decode prog_7_method_13_code 22 = .ok (.getfield 43, 3) := by decide +kernel
theorem d_M_at_25 : decode prog_7_method_13_code 25 = .ok (.ifCond .le 5, 3) := by decide +kernel
theorem d_M_at_28 : decode prog_7_method_13_code 28 = .ok (.iconst 0, 1) := by decide +kernel
theorem d_M_at_29 : decode prog_7_method_13_code 29 = .ok (.ireturn, 1) := by decide +kernel
theorem d_M_at_30 : decode prog_7_method_13_code 30 = .ok (.iload_n 2, 1) := by decide +kernel
theorem d_M_at_31 : decode prog_7_method_13_code 31 = .ok (.aload_n 0, 1) := by decide +kernel
theorem d_M_at_32 : decode prog_7_method_13_code 32 = .ok (.getfield 7, 3) := by decide +kernel
theorem d_M_at_35 : decode prog_7_method_13_code 35 = .ok (.iload_n 1, 1) := by decide +kernel
theorem d_M_at_36 : decode prog_7_method_13_code 36 = .ok (.iaload, 1) := by decide +kernel
theorem d_M_at_37 : decode prog_7_method_13_code 37 = .ok (.if_icmp .ge 17, 3) := by decide +kernel
theorem d_M_at_40 : decode prog_7_method_13_code 40 = .ok (.aload_n 0, 1) := by decide +kernel
theorem d_M_at_41 : decode prog_7_method_13_code 41 = .ok (.getfield 13, 3) := by decide +kernel
theorem d_M_at_44 : decode prog_7_method_13_code 44 = .ok (.bipush 8, 2) := by decide +kernel
theorem d_M_at_46 : decode prog_7_method_13_code 46 = .ok (.iload_n 1, 1) := by decide +kernel
theorem d_M_at_47 : decode prog_7_method_13_code 47 = .ok (.imul, 1) := by decide +kernel
theorem d_M_at_48 : decode prog_7_method_13_code 48 = .ok (.iload_n 2, 1) := by decide +kernel
theorem d_M_at_49 : decode prog_7_method_13_code 49 = .ok (.iadd, 1) := by decide +kernel
theorem d_M_at_50 : decode prog_7_method_13_code 50 = .ok (.iaload, 1) := by decide +kernel
theorem d_M_at_51 : decode prog_7_method_13_code 51 = .ok (.goto 4, 3) := by decide +kernel
theorem d_M_at_54 : decode prog_7_method_13_code 54 = .ok (.iconst (-1), 1) := by decide +kernel
theorem d_M_at_55 : decode prog_7_method_13_code 55 = .ok (.ireturn, 1) := by decide +kernel
theorem d_M_place_0 : decode prog_7_method_14_code 0 = .ok (.aload_n 0, 1) := by decide +kernel
theorem d_M_place_1 : decode prog_7_method_14_code 1 = .ok (.aload_n 0, 1) := by decide +kernel
theorem d_M_place_2 : decode prog_7_method_14_code 2 = .ok (.iload_n 1, 1) := by decide +kernel
theorem d_M_place_3 : decode prog_7_method_14_code 3 = .ok (.invokevirtual 62, 3) := by decide +kernel
theorem d_M_place_6 : decode prog_7_method_14_code 6 = .ok (.ifCond .eq 15, 3) := by decide +kernel
theorem d_M_place_9 : decode prog_7_method_14_code 9 = .ok (.aload_n 0, 1) := by decide +kernel
theorem d_M_place_10 : decode prog_7_method_14_code 10 = .ok (.iload_n 2, 1) := by decide +kernel
theorem d_M_place_11 : decode prog_7_method_14_code 11 = .ok (.invokevirtual 62, 3) := by decide +kernel
theorem d_M_place_14 : decode prog_7_method_14_code 14 = .ok (.ifCond .eq 7, 3) := by decide +kernel
theorem d_M_place_17 : decode prog_7_method_14_code 17 = .ok (.iconst 0, 1) := by decide +kernel
theorem d_M_place_18 : decode prog_7_method_14_code 18 = .ok (.goto 4, 3) := by decide +kernel
theorem d_M_place_21 : decode prog_7_method_14_code 21 = .ok (.iconst 1, 1) := by decide +kernel
theorem d_M_place_22 : decode prog_7_method_14_code 22 = .ok (.putfield 43, 3) := by decide +kernel
theorem d_M_place_25 : decode prog_7_method_14_code 25 = .ok (.aload_n 0, 1) := by decide +kernel
theorem d_M_place_26 : decode prog_7_method_14_code 26 = .ok (.getfield 43, 3) := by decide +kernel
theorem d_M_place_29 : decode prog_7_method_14_code 29 = .ok (.ifCond .le 7, 3) := by decide +kernel
theorem d_M_place_32 : decode prog_7_method_14_code 32 = .ok (.iconst 0, 1) := by decide +kernel
theorem d_M_place_33 : decode prog_7_method_14_code 33 = .ok (.goto 9, 3) := by decide +kernel
theorem d_M_place_36 : decode prog_7_method_14_code 36 = .ok (.aload_n 0, 1) := by decide +kernel
theorem d_M_place_37 : decode prog_7_method_14_code 37 = .ok (.iload_n 1, 1) := by decide +kernel
theorem d_M_place_38 : decode prog_7_method_14_code 38 = .ok (.iload_n 2, 1) := by decide +kernel
theorem d_M_place_39 : decode prog_7_method_14_code 39 = .ok (.invokevirtual 50, 3) := by decide +kernel
theorem d_M_place_42 : decode prog_7_method_14_code 42 = .ok (.ireturn, 1) := by decide +kernel
theorem d_M_join_0 : decode prog_7_method_15_code 0 = .ok (.aload_n 0, 1) := by decide +kernel
theorem d_M_join_1 : decode prog_7_method_15_code 1 = .ok (.getfield 16, 3) := by decide +kernel
theorem d_M_join_4 : decode prog_7_method_15_code 4 = .ok (.iload_n 1, 1) := by decide +kernel
theorem d_M_join_5 : decode prog_7_method_15_code 5 = .ok (.iaload, 1) := by decide +kernel
theorem d_M_join_6 : decode prog_7_method_15_code 6 = .ok (.istore_n 3, 1) := by decide +kernel
theorem d_M_join_7 : decode prog_7_method_15_code 7 = .ok (.aload_n 0, 1) := by decide +kernel
theorem d_M_join_8 : decode prog_7_method_15_code 8 = .ok (.getfield 16, 3) := by decide +kernel
theorem d_M_join_11 : decode prog_7_method_15_code 11 = .ok (.iload_n 2, 1) := by decide +kernel
theorem d_M_join_12 : decode prog_7_method_15_code 12 = .ok (.iaload, 1) := by decide +kernel
theorem d_M_join_13 : decode prog_7_method_15_code 13 = .ok (.istore 4, 2) := by decide +kernel
theorem d_M_join_15 : decode prog_7_method_15_code 15 = .ok (.aload_n 0, 1) := by decide +kernel
theorem d_M_join_16 : decode prog_7_method_15_code 16 = .ok (.getfield 16, 3) := by decide +kernel
theorem d_M_join_19 : decode prog_7_method_15_code 19 = .ok (.iload_n 3, 1) := by decide +kernel
theorem d_M_join_20 : decode prog_7_method_15_code 20 = .ok (.iload_n 3, 1) := by decide +kernel
theorem d_M_join_21 : decode prog_7_method_15_code 21 = .ok (.iastore, 1) := by decide +kernel
theorem d_M_join_22 : decode prog_7_method_15_code 22 = .ok (.aload_n 0, 1) := by decide +kernel
theorem d_M_join_23 : decode prog_7_method_15_code 23 = .ok (.getfield 16, 3) := by decide +kernel
theorem d_M_join_26 : decode prog_7_method_15_code 26 = .ok (.iload 4, 2) := by decide +kernel
theorem d_M_join_28 : decode prog_7_method_15_code 28 = .ok (.iload 4, 2) := by decide +kernel
theorem d_M_join_30 : decode prog_7_method_15_code 30 = .ok (.iastore, 1) := by decide +kernel
theorem d_M_join_31 : decode prog_7_method_15_code 31 = .ok (.aload_n 0, 1) := by decide +kernel
theorem d_M_join_32 : decode prog_7_method_15_code 32 = .ok (.getfield 16, 3) := by decide +kernel
theorem d_M_join_35 : decode prog_7_method_15_code 35 = .ok (.iload_n 1, 1) := by decide +kernel
theorem d_M_join_36 : decode prog_7_method_15_code 36 = .ok (.iload_n 2, 1) := by decide +kernel
theorem d_M_join_37 : decode prog_7_method_15_code 37 = .ok (.iastore, 1) := by decide +kernel
theorem d_M_join_38 : decode prog_7_method_15_code 38 = .ok (.aload_n 0, 1) := by decide +kernel
theorem d_M_join_39 : decode prog_7_method_15_code 39 = .ok (.getfield 16, 3) := by decide +kernel
theorem d_M_join_42 : decode prog_7_method_15_code 42 = .ok (.iload_n 2, 1) := by decide +kernel
theorem d_M_join_43 : decode prog_7_method_15_code 43 = .ok (.iload_n 1, 1) := by decide +kernel
theorem d_M_join_44 : decode prog_7_method_15_code 44 = .ok (.iastore, 1) := by decide +kernel
theorem d_M_join_45 : decode prog_7_method_15_code 45 = .ok (.return_, 1) := by decide +kernel
theorem d_M_blocks_0 : decode prog_7_method_16_code 0 = .ok (.aload_n 3, 1) := by decide +kernel
theorem d_M_blocks_1 : decode prog_7_method_16_code 1 = .ok (.iload_n 1, 1) := by decide +kernel
theorem d_M_blocks_2 : decode prog_7_method_16_code 2 = .ok (.iaload, 1) := by decide +kernel
theorem d_M_blocks_3 : decode prog_7_method_16_code 3 = .ok (.iload_n 2, 1) := by decide +kernel
theorem d_M_blocks_4 : decode prog_7_method_16_code 4 = .ok (.if_icmp .eq 31, 3) := by decide +kernel
theorem d_M_blocks_7 : decode prog_7_method_16_code 7 = .ok (.aload_n 0, 1) := by decide +kernel
theorem d_M_blocks_8 : decode prog_7_method_16_code 8 = .ok (.iload_n 1, 1) := by decide +kernel
theorem d_M_blocks_9 : decode prog_7_method_16_code 9 = .ok (.iload_n 2, 1) := by decide +kernel
theorem d_M_blocks_10 : decode prog_7_method_16_code 10 = .ok (.aload_n 3, 1) := by decide +kernel
theorem d_M_blocks_11 : decode prog_7_method_16_code 11 = .ok (.iload_n 1, 1) := by decide +kernel
theorem d_M_blocks_12 : decode prog_7_method_16_code 12 = .ok (.iaload, 1) := by decide +kernel
theorem d_M_blocks_13 : decode prog_7_method_16_code 13 = .ok (.invokevirtual 72, 3) := by decide +kernel
theorem d_M_blocks_16 : decode prog_7_method_16_code 16 = .ok (.ifCond .eq 19, 3) := by decide +kernel
theorem d_M_blocks_19 : decode prog_7_method_16_code 19 = .ok (.aload_n 0, 1) := by decide +kernel
theorem d_M_blocks_20 : decode prog_7_method_16_code 20 = .ok (.iload_n 2, 1) := by decide +kernel
theorem d_M_blocks_21 : decode prog_7_method_16_code 21 = .ok (.iload_n 1, 1) := by decide +kernel
theorem d_M_blocks_22 : decode prog_7_method_16_code 22 = .ok (.aload_n 3, 1) := by decide +kernel
theorem d_M_blocks_23 : decode prog_7_method_16_code 23 = .ok (.iload_n 2, 1) := by decide +kernel
theorem d_M_blocks_24 : decode prog_7_method_16_code 24 = .ok (.iaload, 1) := by decide +kernel
theorem d_M_blocks_25 : decode prog_7_method_16_code 25 = .ok (.invokevirtual 72, 3) := by decide +kernel
theorem d_M_blocks_28 : decode prog_7_method_16_code 28 = .ok (.ifCond .eq 7, 3) := by decide +kernel
theorem d_M_blocks_31 : decode prog_7_method_16_code 31 = .ok (.iconst 1, 1) := by decide +kernel
theorem d_M_blocks_32 : decode prog_7_method_16_code 32 = .ok (.goto 4, 3) := by decide +kernel
theorem d_M_blocks_35 : decode prog_7_method_16_code 35 = .ok (.iconst 0, 1) := by decide +kernel
theorem d_M_blocks_36 : decode prog_7_method_16_code 36 = .ok (.ireturn, 1) := by decide +kernel
theorem d_M_wouldLeave_0 : decode prog_7_method_17_code 0 = .ok (.aload_n 0, 1) := by decide +kernel
theorem d_M_wouldLeave_1 : decode prog_7_method_17_code 1 = .ok (.getfield 40, 3) := by decide +kernel
theorem d_M_wouldLeave_4 : decode prog_7_method_17_code 4 = .ok (.bipush 8, 2) := by decide +kernel
theorem d_M_wouldLeave_6 : decode prog_7_method_17_code 6 = .ok (.iload_n 1, 1) := by decide +kernel
theorem d_M_wouldLeave_7 : decode prog_7_method_17_code 7 = .ok (.imul, 1) := by decide +kernel
theorem d_M_wouldLeave_8 : decode prog_7_method_17_code 8 = .ok (.iload_n 2, 1) := by decide +kernel
theorem d_M_wouldLeave_9 : decode prog_7_method_17_code 9 = .ok (.iadd, 1) := by decide +kernel
theorem d_M_wouldLeave_10 : decode prog_7_method_17_code 10 = .ok (.iaload, 1) := by decide +kernel
theorem d_M_wouldLeave_11 : decode prog_7_method_17_code 11 = .ok (.istore 4, 2) := by decide +kernel
theorem d_M_wouldLeave_13 : decode prog_7_method_17_code 13 = .ok (.iload 4, 2) := by decide +kernel
theorem d_M_wouldLeave_15 : decode prog_7_method_17_code 15 = .ok (.bipush 50, 2) := by decide +kernel
theorem d_M_wouldLeave_17 : decode prog_7_method_17_code 17 = .ok (.if_icmp .ge 52, 3) := by decide +kernel
theorem d_M_wouldLeave_20 : decode prog_7_method_17_code 20 = .ok (.iload 4, 2) := by decide +kernel
theorem d_M_wouldLeave_22 : decode prog_7_method_17_code 22 = .ok (.aload_n 0, 1) := by decide +kernel
theorem d_M_wouldLeave_23 : decode prog_7_method_17_code 23 = .ok (.getfield 40, 3) := by decide +kernel
theorem d_M_wouldLeave_26 : decode prog_7_method_17_code 26 = .ok (.bipush 8, 2) := by decide +kernel
theorem d_M_wouldLeave_28 : decode prog_7_method_17_code 28 = .ok (.iload_n 1, 1) := by decide +kernel
theorem d_M_wouldLeave_29 : decode prog_7_method_17_code 29 = .ok (.imul, 1) := by decide +kernel
theorem d_M_wouldLeave_30 : decode prog_7_method_17_code 30 = .ok (.aload_n 3, 1) := by decide +kernel
theorem d_M_wouldLeave_31 : decode prog_7_method_17_code 31 = .ok (.iload_n 1, 1) := by decide +kernel
theorem d_M_wouldLeave_32 : decode prog_7_method_17_code 32 = .ok (.iaload, 1) := by decide +kernel
theorem d_M_wouldLeave_33 : decode prog_7_method_17_code 33 = .ok (.iadd, 1) := by decide +kernel
theorem d_M_wouldLeave_34 : decode prog_7_method_17_code 34 = .ok (.iaload, 1) := by decide +kernel
theorem d_M_wouldLeave_35 : decode prog_7_method_17_code 35 = .ok (.if_icmp .ge 34, 3) := by decide +kernel
theorem d_M_wouldLeave_38 : decode prog_7_method_17_code 38 = .ok (.aload_n 0, 1) := by decide +kernel
theorem d_M_wouldLeave_39 : decode prog_7_method_17_code 39 = .ok (.getfield 40, 3) := by decide +kernel
theorem d_M_wouldLeave_42 : decode prog_7_method_17_code 42 = .ok (.bipush 8, 2) := by decide +kernel
theorem d_M_wouldLeave_44 : decode prog_7_method_17_code 44 = .ok (.iload_n 2, 1) := by decide +kernel
theorem d_M_wouldLeave_45 : decode prog_7_method_17_code 45 = .ok (.imul, 1) := by decide +kernel
theorem d_M_wouldLeave_46 : decode prog_7_method_17_code 46 = .ok (.iload_n 1, 1) := by decide +kernel
theorem d_M_wouldLeave_47 : decode prog_7_method_17_code 47 = .ok (.iadd, 1) := by decide +kernel
theorem d_M_wouldLeave_48 : decode prog_7_method_17_code 48 = .ok (.iaload, 1) := by decide +kernel
theorem d_M_wouldLeave_49 : decode prog_7_method_17_code 49 = .ok (.aload_n 0, 1) := by decide +kernel
theorem d_M_wouldLeave_50 : decode prog_7_method_17_code 50 = .ok (.getfield 40, 3) := by decide +kernel
theorem d_M_wouldLeave_53 : decode prog_7_method_17_code 53 = .ok (.bipush 8, 2) := by decide +kernel
theorem d_M_wouldLeave_55 : decode prog_7_method_17_code 55 = .ok (.iload_n 2, 1) := by decide +kernel
theorem d_M_wouldLeave_56 : decode prog_7_method_17_code 56 = .ok (.imul, 1) := by decide +kernel
theorem d_M_wouldLeave_57 : decode prog_7_method_17_code 57 = .ok (.aload_n 3, 1) := by decide +kernel
theorem d_M_wouldLeave_58 : decode prog_7_method_17_code 58 = .ok (.iload_n 2, 1) := by decide +kernel
theorem d_M_wouldLeave_59 : decode prog_7_method_17_code 59 = .ok (.iaload, 1) := by decide +kernel
theorem d_M_wouldLeave_60 : decode prog_7_method_17_code 60 = .ok (.iadd, 1) := by decide +kernel
theorem d_M_wouldLeave_61 : decode prog_7_method_17_code 61 = .ok (.iaload, 1) := by decide +kernel
theorem d_M_wouldLeave_62 : decode prog_7_method_17_code 62 = .ok (.if_icmp .ge 7, 3) := by decide +kernel
theorem d_M_wouldLeave_65 : decode prog_7_method_17_code 65 = .ok (.iconst 1, 1) := by decide +kernel
theorem d_M_wouldLeave_66 : decode prog_7_method_17_code 66 = .ok (.goto 4, 3) := by decide +kernel
theorem d_M_wouldLeave_69 : decode prog_7_method_17_code 69 = .ok (.iconst 0, 1) := by decide +kernel
theorem d_M_wouldLeave_70 : decode prog_7_method_17_code 70 = .ok (.ireturn, 1) := by decide +kernel
theorem d_M_isStable_0 : decode prog_7_method_18_code 0 = .ok (.iconst 1, 1) := by decide +kernel
theorem d_M_isStable_1 : decode prog_7_method_18_code 1 = .ok (.istore_n 2, 1) := by decide +kernel
theorem d_M_isStable_2 : decode prog_7_method_18_code 2 = .ok (.iconst 0, 1) := by decide +kernel
theorem d_M_isStable_3 : decode prog_7_method_18_code 3 = .ok (.istore_n 3, 1) := by decide +kernel
theorem d_M_isStable_4 : decode prog_7_method_18_code 4 = .ok (.iload_n 3, 1) := by decide +kernel
theorem d_M_isStable_5 : decode prog_7_method_18_code 5 = .ok (.aload_n 0, 1) := by decide +kernel
theorem d_M_isStable_6 : decode prog_7_method_18_code 6 = .ok (.getfield 47, 3) := by decide +kernel
theorem d_M_isStable_9 : decode prog_7_method_18_code 9 = .ok (.if_icmp .ge 50, 3) := by decide +kernel
theorem d_M_isStable_12 : decode prog_7_method_18_code 12 = .ok (.iload_n 3, 1) := by decide +kernel
theorem d_M_isStable_13 : decode prog_7_method_18_code 13 = .ok (.iconst 1, 1) := by decide +kernel
theorem d_M_isStable_14 : decode prog_7_method_18_code 14 = .ok (.iadd, 1) := by decide +kernel
theorem d_M_isStable_15 : decode prog_7_method_18_code 15 = .ok (.istore 4, 2) := by decide +kernel
theorem d_M_isStable_17 : decode prog_7_method_18_code 17 = .ok (.iload 4, 2) := by decide +kernel
theorem d_M_isStable_19 : decode prog_7_method_18_code 19 = .ok (.aload_n 0, 1) := by decide +kernel
theorem d_M_isStable_20 : decode prog_7_method_18_code 20 = .ok (.getfield 47, 3) := by decide +kernel
theorem d_M_isStable_23 : decode prog_7_method_18_code 23 = .ok (.if_icmp .ge 30, 3) := by decide +kernel
theorem d_M_isStable_26 : decode prog_7_method_18_code 26 = .ok (.iload_n 2, 1) := by decide +kernel
theorem d_M_isStable_27 : decode prog_7_method_18_code 27 = .ok (.ifCond .eq 18, 3) := by decide +kernel
theorem d_M_isStable_30 : decode prog_7_method_18_code 30 = .ok (.aload_n 0, 1) := by decide +kernel
theorem d_M_isStable_31 : decode prog_7_method_18_code 31 = .ok (.iload_n 3, 1) := by decide +kernel
theorem d_M_isStable_32 : decode prog_7_method_18_code 32 = .ok (.iload 4, 2) := by decide +kernel
theorem d_M_isStable_34 : decode prog_7_method_18_code 34 = .ok (.aload_n 1, 1) := by decide +kernel
theorem d_M_isStable_35 : decode prog_7_method_18_code 35 = .ok (.invokevirtual 76, 3) := by decide +kernel
theorem d_M_isStable_38 : decode prog_7_method_18_code 38 = .ok (.ifCond .ne 7, 3) := by decide +kernel
theorem d_M_isStable_41 : decode prog_7_method_18_code 41 = .ok (.iconst 1, 1) := by decide +kernel
theorem d_M_isStable_42 : decode prog_7_method_18_code 42 = .ok (.goto 4, 3) := by decide +kernel
theorem d_M_isStable_45 : decode prog_7_method_18_code 45 = .ok (.iconst 0, 1) := by decide +kernel
theorem d_M_isStable_46 : decode prog_7_method_18_code 46 = .ok (.istore_n 2, 1) := by decide +kernel
theorem d_M_isStable_47 : decode prog_7_method_18_code 47 = .ok (.iinc 4 1, 3) := by decide +kernel
theorem d_M_isStable_50 : decode prog_7_method_18_code 50 = .ok (.goto (-33), 3) := by decide +kernel
theorem d_M_isStable_53 : decode prog_7_method_18_code 53 = .ok (.iinc 3 1, 3) := by decide +kernel
theorem d_M_isStable_56 : decode prog_7_method_18_code 56 = .ok (.goto (-52), 3) := by decide +kernel
theorem d_M_isStable_59 : decode prog_7_method_18_code 59 = .ok (.iload_n 2, 1) := by decide +kernel
theorem d_M_isStable_60 : decode prog_7_method_18_code 60 = .ok (.ireturn, 1) := by decide +kernel
theorem d_M_blockingOf_0 : decode prog_7_method_19_code 0 = .ok (.iconst 0, 1) := by decide +kernel
theorem d_M_blockingOf_1 : decode prog_7_method_19_code 1 = .ok (.istore_n 2, 1) := by decide +kernel
theorem d_M_blockingOf_2 : decode prog_7_method_19_code 2 = .ok (.iconst 0, 1) := by decide +kernel
theorem d_M_blockingOf_3 : decode prog_7_method_19_code 3 = .ok (.istore_n 3, 1) := by decide +kernel
theorem d_M_blockingOf_4 : decode prog_7_method_19_code 4 = .ok (.iload_n 3, 1) := by decide +kernel
theorem d_M_blockingOf_5 : decode prog_7_method_19_code 5 = .ok (.aload_n 0, 1) := by decide +kernel
theorem d_M_blockingOf_6 : decode prog_7_method_19_code 6 = .ok (.getfield 47, 3) := by decide +kernel
theorem d_M_blockingOf_9 : decode prog_7_method_19_code 9 = .ok (.if_icmp .ge 48, 3) := by decide +kernel
theorem d_M_blockingOf_12 : decode prog_7_method_19_code 12 = .ok (.iload_n 3, 1) := by decide +kernel
theorem d_M_blockingOf_13 : decode prog_7_method_19_code 13 = .ok (.iconst 1, 1) := by decide +kernel
theorem d_M_blockingOf_14 : decode prog_7_method_19_code 14 = .ok (.iadd, 1) := by decide +kernel
theorem d_M_blockingOf_15 : decode prog_7_method_19_code 15 = .ok (.istore 4, 2) := by decide +kernel
theorem d_M_blockingOf_17 : decode prog_7_method_19_code 17 = .ok (.iload 4, 2) := by decide +kernel
theorem d_M_blockingOf_19 : decode prog_7_method_19_code 19 = .ok (.aload_n 0, 1) := by decide +kernel
theorem d_M_blockingOf_20 : decode prog_7_method_19_code 20 = .ok (.getfield 47, 3) := by decide +kernel
theorem d_M_blockingOf_23 : decode prog_7_method_19_code 23 = .ok (.if_icmp .ge 28, 3) := by decide +kernel
theorem d_M_blockingOf_26 : decode prog_7_method_19_code 26 = .ok (.iload_n 2, 1) := by decide +kernel
theorem d_M_blockingOf_27 : decode prog_7_method_19_code 27 = .ok (.aload_n 0, 1) := by decide +kernel
theorem d_M_blockingOf_28 : decode prog_7_method_19_code 28 = .ok (.iload_n 3, 1) := by decide +kernel
theorem d_M_blockingOf_29 : decode prog_7_method_19_code 29 = .ok (.iload 4, 2) := by decide +kernel
theorem d_M_blockingOf_31 : decode prog_7_method_19_code 31 = .ok (.aload_n 1, 1) := by decide +kernel
theorem d_M_blockingOf_32 : decode prog_7_method_19_code 32 = .ok (.invokevirtual 80, 3) := by decide +kernel
theorem d_M_blockingOf_35 : decode prog_7_method_19_code 35 = .ok (.ifCond .eq 7, 3) := by decide +kernel
theorem d_M_blockingOf_38 : decode prog_7_method_19_code 38 = .ok (.iconst 1, 1) := by decide +kernel
theorem d_M_blockingOf_39 : decode prog_7_method_19_code 39 = .ok (.goto 4, 3) := by decide +kernel
theorem d_M_blockingOf_42 : decode prog_7_method_19_code 42 = .ok (.iconst 0, 1) := by decide +kernel
theorem d_M_blockingOf_43 : decode prog_7_method_19_code 43 = .ok (.iadd, 1) := by decide +kernel
theorem d_M_blockingOf_44 : decode prog_7_method_19_code 44 = .ok (.istore_n 2, 1) := by decide +kernel
theorem d_M_blockingOf_45 : decode prog_7_method_19_code 45 = .ok (.iinc 4 1, 3) := by decide +kernel
theorem d_M_blockingOf_48 : decode prog_7_method_19_code 48 = .ok (.goto (-31), 3) := by decide +kernel
theorem d_M_blockingOf_51 : decode prog_7_method_19_code 51 = .ok (.iinc 3 1, 3) := by decide +kernel
theorem d_M_blockingOf_54 : decode prog_7_method_19_code 54 = .ok (.goto (-50), 3) := by decide +kernel
theorem d_M_blockingOf_57 : decode prog_7_method_19_code 57 = .ok (.iload_n 2, 1) := by decide +kernel
theorem d_M_blockingOf_58 : decode prog_7_method_19_code 58 = .ok (.ireturn, 1) := by decide +kernel
theorem d_M_pair_0 : decode prog_7_method_20_code 0 = .ok (.aload_n 0, 1) := by decide +kernel
theorem d_M_pair_1 : decode prog_7_method_20_code 1 = .ok (.aload_n 0, 1) := by decide +kernel
theorem d_M_pair_2 : decode prog_7_method_20_code 2 = .ok (.iload_n 1, 1) := by decide +kernel
theorem d_M_pair_3 : decode prog_7_method_20_code 3 = .ok (.invokevirtual 62, 3) := by decide +kernel
theorem d_M_pair_6 : decode prog_7_method_20_code 6 = .ok (.ifCond .eq 11, 3) := by decide +kernel
theorem d_M_pair_9 : decode prog_7_method_20_code 9 = .ok (.aload_n 0, 1) := by decide +kernel
theorem d_M_pair_10 : decode prog_7_method_20_code 10 = .ok (.iload_n 2, 1) := by decide +kernel
theorem d_M_pair_11 : decode prog_7_method_20_code 11 = .ok (.invokevirtual 62, 3) := by decide +kernel
theorem d_M_pair_14 : decode prog_7_method_20_code 14 = .ok (.ifCond .ne 7, 3) := by decide +kernel
theorem d_M_pair_17 : decode prog_7_method_20_code 17 = .ok (.iconst 1, 1) := by decide +kernel
theorem d_M_pair_18 : decode prog_7_method_20_code 18 = .ok (.goto 26, 3) := by decide +kernel
theorem d_M_pair_21 : decode prog_7_method_20_code 21 = .ok (.iload_n 1, 1) := by decide +kernel
theorem d_M_pair_22 : decode prog_7_method_20_code 22 = .ok (.iload_n 2, 1) := by decide +kernel
theorem d_M_pair_23 : decode prog_7_method_20_code 23 = .ok (.if_icmp .ne 7, 3) := by decide +kernel
theorem d_M_pair_26 : decode prog_7_method_20_code 26 = .ok (.iconst 2, 1) := by decide +kernel
theorem d_M_pair_27 : decode prog_7_method_20_code 27 = .ok (.goto 17, 3) := by decide +kernel
theorem d_M_pair_30 : decode prog_7_method_20_code 30 = .ok (.aload_n 0, 1) := by decide +kernel
theorem d_M_pair_31 : decode prog_7_method_20_code 31 = .ok (.iload_n 1, 1) := by decide +kernel
theorem d_M_pair_32 : decode prog_7_method_20_code 32 = .ok (.iload_n 2, 1) := by decide +kernel
theorem d_M_pair_33 : decode prog_7_method_20_code 33 = .ok (.invokevirtual 54, 3) := by decide +kernel
theorem d_M_pair_36 : decode prog_7_method_20_code 36 = .ok (.ifCond .ne 7, 3) := by decide +kernel
theorem d_M_pair_39 : decode prog_7_method_20_code 39 = .ok (.iconst 3, 1) := by decide +kernel
theorem d_M_pair_40 : decode prog_7_method_20_code 40 = .ok (.goto 4, 3) := by decide +kernel
theorem d_M_pair_43 : decode prog_7_method_20_code 43 = .ok (.iconst 0, 1) := by decide +kernel
theorem d_M_pair_44 : decode prog_7_method_20_code 44 = .ok (.putfield 43, 3) := by decide +kernel
theorem d_M_pair_47 : decode prog_7_method_20_code 47 = .ok (.aload_n 0, 1) := by decide +kernel
theorem d_M_pair_48 : decode prog_7_method_20_code 48 = .ok (.getfield 43, 3) := by decide +kernel
theorem d_M_pair_51 : decode prog_7_method_20_code 51 = .ok (.ifCond .le 5, 3) := by decide +kernel
theorem d_M_pair_54 : decode prog_7_method_20_code 54 = .ok (.iconst 0, 1) := by decide +kernel
theorem d_M_pair_55 : decode prog_7_method_20_code 55 = .ok (.ireturn, 1) := by decide +kernel
theorem d_M_pair_56 : decode prog_7_method_20_code 56 = .ok (.aload_n 0, 1) := by decide +kernel
theorem d_M_pair_57 : decode prog_7_method_20_code 57 = .ok (.iload_n 1, 1) := by decide +kernel
theorem d_M_pair_58 : decode prog_7_method_20_code 58 = .ok (.iload_n 2, 1) := by decide +kernel
theorem d_M_pair_59 : decode prog_7_method_20_code 59 = .ok (.invokevirtual 83, 3) := by decide +kernel
theorem d_M_pair_62 : decode prog_7_method_20_code 62 = .ok (.aload_n 0, 1) := by decide +kernel
theorem d_M_pair_63 : decode prog_7_method_20_code 63 = .ok (.aload_n 0, 1) := by decide +kernel
theorem d_M_pair_64 : decode prog_7_method_20_code 64 = .ok (.getfield 16, 3) := by decide +kernel
theorem d_M_pair_67 : decode prog_7_method_20_code 67 = .ok (.invokevirtual 87, 3) := by decide +kernel
theorem d_M_pair_70 : decode prog_7_method_20_code 70 = .ok (.ireturn, 1) := by decide +kernel
theorem d_M_partner_0 : decode prog_7_method_21_code 0 = .ok (.aload_n 0, 1) := by decide +kernel
theorem d_M_partner_1 : decode prog_7_method_21_code 1 = .ok (.aload_n 0, 1) := by decide +kernel
theorem d_M_partner_2 : decode prog_7_method_21_code 2 = .ok (.iload_n 1, 1) := by decide +kernel
theorem d_M_partner_3 : decode prog_7_method_21_code 3 = .ok (.invokevirtual 62, 3) := by decide +kernel
theorem d_M_partner_6 : decode prog_7_method_21_code 6 = .ok (.ifCond .eq 7, 3) := by decide +kernel
theorem d_M_partner_9 : decode prog_7_method_21_code 9 = .ok (.iconst 0, 1) := by decide +kernel
theorem d_M_partner_10 : decode prog_7_method_21_code 10 = .ok (.goto 4, 3) := by decide +kernel
theorem d_M_partner_13 : decode prog_7_method_21_code 13 = .ok (.iconst 1, 1) := by decide +kernel
theorem d_M_partner_14 : decode prog_7_method_21_code 14 = .ok (.putfield 43, 3) := by decide +kernel
theorem d_M_partner_17 : decode prog_7_method_21_code 17 = .ok (.aload_n 0, 1) := by decide +kernel
theorem d_M_partner_18 : decode prog_7_method_21_code 18 = .ok (.getfield 43, 3) := by decide +kernel
theorem d_M_partner_21 : decode prog_7_method_21_code 21 = .ok (.ifCond .le 7, 3) := by decide +kernel
