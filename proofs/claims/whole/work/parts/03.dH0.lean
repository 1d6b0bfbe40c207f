/-! what stands where: H -/
theorem d_H_init_0 : decode prog_1_method_1_code 0 = .ok (.aload_n 0, 1) := by decide +kernel
theorem d_H_init_1 : decode prog_1_method_1_code 1 = .ok (.invokespecial 1, 3) := by decide +kernel
theorem d_H_init_4 : decode prog_1_method_1_code 4 = .ok (.aload_n 0, 1) := by decide +kernel
theorem d_H_init_5 : decode prog_1_method_1_code 5 = .ok (.new 7, 3) := by decide +kernel
theorem d_H_init_8 : decode prog_1_method_1_code 8 = .ok (.dup, 1) := by decide +kernel
theorem d_H_init_9 : decode prog_1_method_1_code 9 = .ok (.invokespecial 9, 3) := by decide +kernel
theorem d_H_init_12 : decode prog_1_method_1_code 12 = .ok (.putfield 10, 3) := by decide +kernel
theorem d_H_init_15 : decode prog_1_method_1_code 15 = .ok (.aload_n 0, 1) := by decide +kernel
theorem d_H_init_16 : decode prog_1_method_1_code 16 = .ok (.new 16, 3) := by decide +kernel
theorem d_H_init_19 : decode prog_1_method_1_code 19 = .ok (.dup, 1) := by decide +kernel
theorem d_H_init_20 : decode prog_1_method_1_code 20 = .ok (.aload_n 0, 1) := by decide +kernel
theorem d_H_init_21 : decode prog_1_method_1_code 21 = .ok (.getfield 10, 3) := by decide +kernel
theorem d_H_init_24 : decode prog_1_method_1_code 24 = .ok (.invokespecial 18, 3) := by decide +kernel
theorem d_H_init_27 : decode prog_1_method_1_code 27 = .ok (.putfield 21, 3) := by decide +kernel
theorem d_H_init_30 : decode prog_1_method_1_code 30 = .ok (.aload_n 0, 1) := by decide +kernel
theorem d_H_init_31 : decode prog_1_method_1_code 31 = .ok (.new 25, 3) := by decide +kernel
theorem d_H_init_34 : decode prog_1_method_1_code 34 = .ok (.dup, 1) := by decide +kernel
theorem d_H_init_35 : decode prog_1_method_1_code 35 = .ok (.aload_n 0, 1) := by decide +kernel
theorem d_H_init_36 : decode prog_1_method_1_code 36 = .ok (.getfield 10, 3) := by decide +kernel
theorem d_H_init_39 : decode prog_1_method_1_code 39 = .ok (.invokespecial 27, 3) := by decide +kernel
theorem d_H_init_42 : decode prog_1_method_1_code 42 = .ok (.putfield 28, 3) := by decide +kernel
theorem d_H_init_45 : decode prog_1_method_1_code 45 = .ok (.aload_n 0, 1) := by decide +kernel
theorem d_H_init_46 : decode prog_1_method_1_code 46 = .ok (.new 32, 3) := by decide +kernel
theorem d_H_init_49 : decode prog_1_method_1_code 49 = .ok (.dup, 1) := by decide +kernel
theorem d_H_init_50 : decode prog_1_method_1_code 50 = .ok (.aload_n 0, 1) := by decide +kernel
theorem d_H_init_51 : decode prog_1_method_1_code 51 = .ok (.getfield 10, 3) := by decide +kernel
theorem d_H_init_54 : decode prog_1_method_1_code 54 = .ok (.invokespecial 34, 3) := by decide +kernel
theorem d_H_init_57 : decode prog_1_method_1_code 57 = .ok (.putfield 35, 3) := by decide +kernel
theorem d_H_init_60 : decode prog_1_method_1_code 60 = .ok (.aload_n 0, 1) := by decide +kernel
theorem d_H_init_61 : decode prog_1_method_1_code 61 = .ok (.iconst 0, 1) := by decide +kernel
theorem d_H_init_62 : decode prog_1_method_1_code 62 = .ok (.invokevirtual 39, 3) := by decide +kernel
theorem d_H_init_65 : decode prog_1_method_1_code 65 = .ok (.return_, 1) := by decide +kernel
theorem d_H_people_0 : decode prog_1_method_2_code 0 = .ok (.iload_n 1, 1) := by decide +kernel
theorem d_H_people_1 : decode prog_1_method_2_code 1 = .ok (.ifCond .lt 9, 3) := by decide +kernel
theorem d_H_people_4 : decode prog_1_method_2_code 4 = .ok (.iload_n 1, 1) := by decide +kernel
theorem d_H_people_5 : decode prog_1_method_2_code 5 = .ok (.bipush 8, 2) := by decide +kernel
theorem d_H_people_7 : decode prog_1_method_2_code 7 = .ok (.if_icmp .le 11, 3) := by decide +kernel
theorem d_H_people_10 : decode prog_1_method_2_code 10 = .ok (.new 43, 3) := by decide +kernel
theorem d_H_people_13 : decode prog_1_method_2_code 13 = .ok (.dup, 1) := by decide +kernel
theorem d_H_people_14 : decode prog_1_method_2_code 14 = .ok (.invokespecial 45, 3) := by decide +kernel
theorem d_H_people_17 : decode prog_1_method_2_code 17 = .ok (.athrow, 1) := by decide +kernel
theorem d_H_people_18 : decode prog_1_method_2_code 18 = .ok (.aload_n 0, 1) := by decide +kernel
theorem d_H_people_19 : decode prog_1_method_2_code 19 = .ok (.getfield 10, 3) := by decide +kernel
theorem d_H_people_22 : decode prog_1_method_2_code 22 = .ok (.invokevirtual 46, 3) := by decide +kernel
theorem d_H_people_25 : decode prog_1_method_2_code 25 = .ok (.istore_n 2, 1) := by decide +kernel
theorem d_H_people_26 : decode prog_1_method_2_code 26 = .ok (.aload_n 0, 1) := by decide +kernel
theorem d_H_people_27 : decode prog_1_method_2_code 27 = .ok (.iload_n 1, 1) := by decide +kernel
theorem d_H_people_28 : decode prog_1_method_2_code 28 = .ok (.invokevirtual 39, 3) := by decide +kernel
theorem d_H_people_31 : decode prog_1_method_2_code 31 = .ok (.iload_n 2, 1) := by decide +kernel
theorem d_H_people_32 : decode prog_1_method_2_code 32 = .ok (.ireturn, 1) := by decide +kernel
theorem d_H_put_0 : decode prog_1_method_3_code 0 = .ok (.aload_n 0, 1) := by decide +kernel
theorem d_H_put_1 : decode prog_1_method_3_code 1 = .ok (.iload_n 1, 1) := by decide +kernel
theorem d_H_put_2 : decode prog_1_method_3_code 2 = .ok (.iload_n 2, 1) := by decide +kernel
theorem d_H_put_3 : decode prog_1_method_3_code 3 = .ok (.invokevirtual 50, 3) := by decide +kernel
theorem d_H_put_6 : decode prog_1_method_3_code 6 = .ok (.iload_n 1, 1) := by decide +kernel
theorem d_H_put_7 : decode prog_1_method_3_code 7 = .ok (.iload_n 2, 1) := by decide +kernel
theorem d_H_put_8 : decode prog_1_method_3_code 8 = .ok (.if_icmp .ne 11, 3) := by decide +kernel
theorem d_H_put_11 : decode prog_1_method_3_code 11 = .ok (.new 43, 3) := by decide +kernel
theorem d_H_put_14 : decode prog_1_method_3_code 14 = .ok (.dup, 1) := by decide +kernel
theorem d_H_put_15 : decode prog_1_method_3_code 15 = .ok (.invokespecial 45, 3) := by decide +kernel
theorem d_H_put_18 : decode prog_1_method_3_code 18 = .ok (.athrow, 1) := by decide +kernel
theorem d_H_put_19 : decode prog_1_method_3_code 19 = .ok (.aload_n 0, 1) := by decide +kernel
theorem d_H_put_20 : decode prog_1_method_3_code 20 = .ok (.getfield 10, 3) := by decide +kernel
theorem d_H_put_23 : decode prog_1_method_3_code 23 = .ok (.iload_n 1, 1) := by decide +kernel
theorem d_H_put_24 : decode prog_1_method_3_code 24 = .ok (.iload_n 2, 1) := by decide +kernel
theorem d_H_put_25 : decode prog_1_method_3_code 25 = .ok (.invokevirtual 54, 3) := by decide +kernel
theorem d_H_put_28 : decode prog_1_method_3_code 28 = .ok (.iconst (-1), 1) := by decide +kernel
theorem d_H_put_29 : decode prog_1_method_3_code 29 = .ok (.if_icmp .eq 11, 3) := by decide +kernel
theorem d_H_put_32 : decode prog_1_method_3_code 32 = .ok (.new 58, 3) := by decide +kernel
theorem d_H_put_35 : decode prog_1_method_3_code 35 = .ok (.dup, 1) := by decide +kernel
theorem d_H_put_36 : decode prog_1_method_3_code 36 = .ok (.invokespecial 60, 3) := by decide +kernel
theorem d_H_put_39 : decode prog_1_method_3_code 39 = .ok (.athrow, 1) := by decide +kernel
theorem d_H_put_40 : decode prog_1_method_3_code 40 = .ok (.aload_n 0, 1) := by decide +kernel
theorem d_H_put_41 : decode prog_1_method_3_code 41 = .ok (.getfield 10, 3) := by decide +kernel
theorem d_H_put_44 : decode prog_1_method_3_code 44 = .ok (.iload_n 1, 1) := by decide +kernel
theorem d_H_put_45 : decode prog_1_method_3_code 45 = .ok (.iload_n 2, 1) := by decide +kernel
theorem d_H_put_46 : decode prog_1_method_3_code 46 = .ok (.invokevirtual 61, 3) := by decide +kernel
theorem d_H_put_49 : decode prog_1_method_3_code 49 = .ok (.aload_n 0, 1) := by decide +kernel
theorem d_H_put_50 : decode prog_1_method_3_code 50 = .ok (.getfield 10, 3) := by decide +kernel
theorem d_H_put_53 : decode prog_1_method_3_code 53 = .ok (.iload_n 1, 1) := by decide +kernel
theorem d_H_put_54 : decode prog_1_method_3_code 54 = .ok (.invokevirtual 64, 3) := by decide +kernel
theorem d_H_put_57 : decode prog_1_method_3_code 57 = .ok (.ireturn, 1) := by decide +kernel
theorem d_H_remove_0 : decode prog_1_method_4_code 0 = .ok (.aload_n 0, 1) := by decide +kernel
theorem d_H_remove_1 : decode prog_1_method_4_code 1 = .ok (.iload_n 1, 1) := by decide +kernel
theorem d_H_remove_2 : decode prog_1_method_4_code 2 = .ok (.invokevirtual 68, 3) := by decide +kernel
theorem d_H_remove_5 : decode prog_1_method_4_code 5 = .ok (.aload_n 0, 1) := by decide +kernel
theorem d_H_remove_6 : decode prog_1_method_4_code 6 = .ok (.iload_n 1, 1) := by decide +kernel
theorem d_H_remove_7 : decode prog_1_method_4_code 7 = .ok (.iload_n 2, 1) := by decide +kernel
theorem d_H_remove_8 : decode prog_1_method_4_code 8 = .ok (.invokevirtual 71, 3) := by decide +kernel
theorem d_H_remove_11 : decode prog_1_method_4_code 11 = .ok (.aload_n 0, 1) := by decide +kernel
theorem d_H_remove_12 : decode prog_1_method_4_code 12 = .ok (.getfield 10, 3) := by decide +kernel
theorem d_H_remove_15 : decode prog_1_method_4_code 15 = .ok (.iload_n 1, 1) := by decide +kernel
theorem d_H_remove_16 : decode prog_1_method_4_code 16 = .ok (.iload_n 2, 1) := by decide +kernel
theorem d_H_remove_17 : decode prog_1_method_4_code 17 = .ok (.invokevirtual 74, 3) := by decide +kernel
theorem d_H_remove_20 : decode prog_1_method_4_code 20 = .ok (.istore_n 3, 1) := by decide +kernel
theorem d_H_remove_21 : decode prog_1_method_4_code 21 = .ok (.aload_n 0, 1) := by decide +kernel
theorem d_H_remove_22 : decode prog_1_method_4_code 22 = .ok (.getfield 10, 3) := by decide +kernel
theorem d_H_remove_25 : decode prog_1_method_4_code 25 = .ok (.iload_n 1, 1) := by decide +kernel
theorem d_H_remove_26 : decode prog_1_method_4_code 26 = .ok (.iload_n 2, 1) := by decide +kernel
theorem d_H_remove_27 : decode prog_1_method_4_code 27 = .ok (.invokevirtual 77, 3) := by decide +kernel
theorem d_H_remove_30 : decode prog_1_method_4_code 30 = .ok (.aload_n 0, 1) := by decide +kernel
theorem d_H_remove_31 : decode prog_1_method_4_code 31 = .ok (.getfield 21, 3) := by decide +kernel
theorem d_H_remove_34 : decode prog_1_method_4_code 34 = .ok (.iload_n 1, 1) := by decide +kernel
theorem d_H_remove_35 : decode prog_1_method_4_code 35 = .ok (.iload_n 3, 1) := by decide +kernel
theorem d_H_remove_36 : decode prog_1_method_4_code 36 = .ok (.invokevirtual 80, 3) := by decide +kernel
theorem d_H_remove_39 : decode prog_1_method_4_code 39 = .ok (.iload_n 3, 1) := by decide +kernel
theorem d_H_remove_40 : decode prog_1_method_4_code 40 = .ok (.ireturn, 1) := by decide +kernel
theorem d_H_move_0 : decode prog_1_method_5_code 0 = .ok (.aload_n 0, 1) := by decide +kernel
theorem d_H_move_1 : decode prog_1_method_5_code 1 = .ok (.iload_n 1, 1) := by decide +kernel
theorem d_H_move_2 : decode prog_1_method_5_code 2 = .ok (.invokevirtual 68, 3) := by decide +kernel
theorem d_H_move_5 : decode prog_1_method_5_code 5 = .ok (.aload_n 0, 1) := by decide +kernel
theorem d_H_move_6 : decode prog_1_method_5_code 6 = .ok (.iload_n 1, 1) := by decide +kernel
theorem d_H_move_7 : decode prog_1_method_5_code 7 = .ok (.iload_n 2, 1) := by decide +kernel
theorem d_H_move_8 : decode prog_1_method_5_code 8 = .ok (.invokevirtual 71, 3) := by decide +kernel
theorem d_H_move_11 : decode prog_1_method_5_code 11 = .ok (.aload_n 0, 1) := by decide +kernel
theorem d_H_move_12 : decode prog_1_method_5_code 12 = .ok (.iload_n 1, 1) := by decide +kernel
theorem d_H_move_13 : decode prog_1_method_5_code 13 = .ok (.iload_n 3, 1) := by decide +kernel
theorem d_H_move_14 : decode prog_1_method_5_code 14 = .ok (.invokevirtual 71, 3) := by decide +kernel
theorem d_H_move_17 : decode prog_1_method_5_code 17 = .ok (.aload_n 0, 1) := by decide +kernel
theorem d_H_move_18 : decode prog_1_method_5_code 18 = .ok (.getfield 10, 3) := by decide +kernel
theorem d_H_move_21 : decode prog_1_method_5_code 21 = .ok (.iload_n 1, 1) := by decide +kernel
theorem d_H_move_22 : decode prog_1_method_5_code 22 = .ok (.iload_n 2, 1) := by decide +kernel
theorem d_H_move_23 : decode prog_1_method_5_code 23 = .ok (.iload_n 3, 1) := by decide +kernel
theorem d_H_move_24 : decode prog_1_method_5_code 24 = .ok (.invokevirtual 83, 3) := by decide +kernel
theorem d_H_move_27 : decode prog_1_method_5_code 27 = .ok (.aload_n 0, 1) := by decide +kernel
theorem d_H_move_28 : decode prog_1_method_5_code 28 = .ok (.getfield 10, 3) := by decide +kernel
theorem d_H_move_31 : decode prog_1_method_5_code 31 = .ok (.iload_n 1, 1) := by decide +kernel
theorem d_H_move_32 : decode prog_1_method_5_code 32 = .ok (.iload_n 3, 1) := by decide +kernel
theorem d_H_move_33 : decode prog_1_method_5_code 33 = .ok (.invokevirtual 74, 3) := by decide +kernel
theorem d_H_move_36 : decode prog_1_method_5_code 36 = .ok (.ireturn, 1) := by decide +kernel
theorem d_H_at_0 : decode prog_1_method_6_code 0 = .ok (.aload_n 0, 1) := by decide +kernel
theorem d_H_at_1 : decode prog_1_method_6_code 1 = .ok (.iload_n 1, 1) := by decide +kernel
theorem d_H_at_2 : decode prog_1_method_6_code 2 = .ok (.invokevirtual 68, 3) := by decide +kernel
theorem d_H_at_5 : decode prog_1_method_6_code 5 = .ok (.iload_n 2, 1) := by decide +kernel
theorem d_H_at_6 : decode prog_1_method_6_code 6 = .ok (.ifCond .ge 11, 3) := by decide +kernel
theorem d_H_at_9 : decode prog_1_method_6_code 9 = .ok (.new 87, 3) := by decide +kernel
theorem d_H_at_12 : decode prog_1_method_6_code 12 = .ok (.dup, 1) := by decide +kernel
theorem d_H_at_13 : decode prog_1_method_6_code 13 = .ok (.invokespecial 89, 3) := by decide +kernel
theorem d_H_at_16 : decode prog_1_method_6_code 16 = .ok (.athrow, 1) := by decide +kernel
theorem d_H_at_17 : decode prog_1_method_6_code 17 = .ok (.iload_n 2, 1) := by decide +kernel
theorem d_H_at_18 : decode prog_1_method_6_code 18 = .ok (.aload_n 0, 1) := by decide +kernel
theorem d_H_at_19 : decode prog_1_method_6_code 19 = .ok (.getfield 10, 3) := by decide +kernel
theorem d_H_at_22 : decode prog_1_method_6_code 22 = .ok (.iload_n 1, 1) := by decide +kernel
theorem d_H_at_23 : decode prog_1_method_6_code 23 = .ok (.invokevirtual 64, 3) := by decide +kernel
theorem d_H_at_26 : decode prog_1_method_6_code 26 = .ok (.if_icmp .ge 15, 3) := by decide +kernel
theorem d_H_at_29 : decode prog_1_method_6_code 29 = .ok (.aload_n 0, 1) := by decide +kernel
theorem d_H_at_30 : decode prog_1_method_6_code 30 = .ok (.getfield 10, 3) := by decide +kernel
theorem d_H_at_33 : decode prog_1_method_6_code 33 = .ok (.iload_n 1, 1) := by decide +kernel
theorem d_H_at_34 : decode prog_1_method_6_code 34 = .ok (.iload_n 2, 1) := by decide +kernel
theorem d_H_at_35 : decode prog_1_method_6_code 35 = .ok (.invokevirtual 74, 3) := by decide +kernel
theorem d_H_at_38 : decode prog_1_method_6_code 38 = .ok (.goto 4, 3) := by decide +kernel
theorem d_H_at_41 : decode prog_1_method_6_code 41 = .ok (.iconst (-1), 1) := by decide +kernel
theorem d_H_at_42 : decode prog_1_method_6_code 42 = .ok (.ireturn, 1) := by decide +kernel
theorem d_H_place_0 : decode prog_1_method_7_code 0 = .ok (.aload_n 0, 1) := by decide +kernel
theorem d_H_place_1 : decode prog_1_method_7_code 1 = .ok (.iload_n 1, 1) := by decide +kernel
theorem d_H_place_2 : decode prog_1_method_7_code 2 = .ok (.iload_n 2, 1) := by decide +kernel
theorem d_H_place_3 : decode prog_1_method_7_code 3 = .ok (.invokevirtual 50, 3) := by decide +kernel
theorem d_H_place_6 : decode prog_1_method_7_code 6 = .ok (.aload_n 0, 1) := by decide +kernel
theorem d_H_place_7 : decode prog_1_method_7_code 7 = .ok (.getfield 10, 3) := by decide +kernel
theorem d_H_place_10 : decode prog_1_method_7_code 10 = .ok (.iload_n 1, 1) := by decide +kernel
theorem d_H_place_11 : decode prog_1_method_7_code 11 = .ok (.iload_n 2, 1) := by decide +kernel
theorem d_H_place_12 : decode prog_1_method_7_code 12 = .ok (.invokevirtual 54, 3) := by decide +kernel
theorem d_H_place_15 : decode prog_1_method_7_code 15 = .ok (.ireturn, 1) := by decide +kernel
theorem d_H_pair_0 : decode prog_1_method_8_code 0 = .ok (.aload_n 0, 1) := by decide +kernel
theorem d_H_pair_1 : decode prog_1_method_8_code 1 = .ok (.iload_n 1, 1) := by decide +kernel
theorem d_H_pair_2 : decode prog_1_method_8_code 2 = .ok (.iload_n 2, 1) := by decide +kernel
theorem d_H_pair_3 : decode prog_1_method_8_code 3 = .ok (.invokevirtual 50, 3) := by decide +kernel
theorem d_H_pair_6 : decode prog_1_method_8_code 6 = .ok (.iload_n 1, 1) := by decide +kernel
theorem d_H_pair_7 : decode prog_1_method_8_code 7 = .ok (.iload_n 2, 1) := by decide +kernel
theorem d_H_pair_8 : decode prog_1_method_8_code 8 = .ok (.if_icmp .ne 11, 3) := by decide +kernel
theorem d_H_pair_11 : decode prog_1_method_8_code 11 = .ok (.new 43, 3) := by decide +kernel
theorem d_H_pair_14 : decode prog_1_method_8_code 14 = .ok (.dup, 1) := by decide +kernel
theorem d_H_pair_15 : decode prog_1_method_8_code 15 = .ok (.invokespecial 45, 3) := by decide +kernel
theorem d_H_pair_18 : decode prog_1_method_8_code 18 = .ok (.athrow, 1) := by decide +kernel
theorem d_H_pair_19 : decode prog_1_method_8_code 19 = .ok (.aload_n 0, 1) := by decide +kernel
theorem d_H_pair_20 : decode prog_1_method_8_code 20 = .ok (.getfield 10, 3) := by decide +kernel
theorem d_H_pair_23 : decode prog_1_method_8_code 23 = .ok (.iload_n 1, 1) := by decide +kernel
theorem d_H_pair_24 : decode prog_1_method_8_code 24 = .ok (.iload_n 2, 1) := by decide +kernel
theorem d_H_pair_25 : decode prog_1_method_8_code 25 = .ok (.invokevirtual 90, 3) := by decide +kernel
theorem d_H_pair_28 : decode prog_1_method_8_code 28 = .ok (.ifCond .ne 11, 3) := by decide +kernel
theorem d_H_pair_31 : decode prog_1_method_8_code 31 = .ok (.new 58, 3) := by decide +kernel
theorem d_H_pair_34 : decode prog_1_method_8_code 34 = .ok (.dup, 1) := by decide +kernel
theorem d_H_pair_35 : decode prog_1_method_8_code 35 = .ok (.invokespecial 60, 3) := by decide +kernel
theorem d_H_pair_38 : decode prog_1_method_8_code 38 = .ok (.athrow, 1) := by decide +kernel
theorem d_H_pair_39 : decode prog_1_method_8_code 39 = .ok (.aload_n 0, 1) := by decide +kernel
theorem d_H_pair_40 : decode prog_1_method_8_code 40 = .ok (.getfield 21, 3) := by decide +kernel
theorem d_H_pair_43 : decode prog_1_method_8_code 43 = .ok (.iload_n 1, 1) := by decide +kernel
theorem d_H_pair_44 : decode prog_1_method_8_code 44 = .ok (.iload_n 2, 1) := by decide +kernel
theorem d_H_pair_45 : decode prog_1_method_8_code 45 = .ok (.invokevirtual 94, 3) := by decide +kernel
theorem d_H_pair_48 : decode prog_1_method_8_code 48 = .ok (.aload_n 0, 1) := by decide +kernel
theorem d_H_pair_49 : decode prog_1_method_8_code 49 = .ok (.getfield 21, 3) := by decide +kernel
theorem d_H_pair_52 : decode prog_1_method_8_code 52 = .ok (.invokevirtual 97, 3) := by decide +kernel
theorem d_H_pair_55 : decode prog_1_method_8_code 55 = .ok (.ireturn, 1) := by decide +kernel
theorem d_H_partner_0 : decode prog_1_method_9_code 0 = .ok (.aload_n 0, 1) := by decide +kernel
theorem d_H_partner_1 : decode prog_1_method_9_code 1 = .ok (.iload_n 1, 1) := by decide +kernel
theorem d_H_partner_2 : decode prog_1_method_9_code 2 = .ok (.invokevirtual 68, 3) := by decide +kernel
theorem d_H_partner_5 : decode prog_1_method_9_code 5 = .ok (.aload_n 0, 1) := by decide +kernel
theorem d_H_partner_6 : decode prog_1_method_9_code 6 = .ok (.getfield 21, 3) := by decide +kernel
theorem d_H_partner_9 : decode prog_1_method_9_code 9 = .ok (.iload_n 1, 1) := by decide +kernel
theorem d_H_partner_10 : decode prog_1_method_9_code 10 = .ok (.invokevirtual 100, 3) := by decide +kernel
theorem d_H_partner_13 : decode prog_1_method_9_code 13 = .ok (.ireturn, 1) := by decide +kernel
theorem d_H_blocking_0 : decode prog_1_method_10_code 0 = .ok (.aload_n 0, 1) := by decide +kernel
theorem d_H_blocking_1 : decode prog_1_method_10_code 1 = .ok (.getfield 21, 3) := by decide +kernel
theorem d_H_blocking_4 : decode prog_1_method_10_code 4 = .ok (.invokevirtual 97, 3) := by decide +kernel
theorem d_H_blocking_7 : decode prog_1_method_10_code 7 = .ok (.ireturn, 1) := by decide +kernel
theorem d_H_satisfy_0 : decode prog_1_method_11_code 0 = .ok (.aload_n 0, 1) := by decide +kernel
theorem d_H_satisfy_1 : decode prog_1_method_11_code 1 = .ok (.getfield 21, 3) := by decide +kernel
theorem d_H_satisfy_4 : decode prog_1_method_11_code 4 = .ok (.invokevirtual 103, 3) := by decide +kernel
theorem d_H_satisfy_7 : decode prog_1_method_11_code 7 = .ok (.ireturn, 1) := by decide +kernel
theorem d_H_matchings_0 : decode prog_1_method_12_code 0 = .ok (.aload_n 0, 1) := by decide +kernel
theorem d_H_matchings_1 : decode prog_1_method_12_code 1 = .ok (.getfield 28, 3) := by decide +kernel
theorem d_H_matchings_4 : decode prog_1_method_12_code 4 = .ok (.invokevirtual 106, 3) := by decide +kernel
theorem d_H_matchings_7 : decode prog_1_method_12_code 7 = .ok (.ireturn, 1) := by decide +kernel
theorem d_H_matched_0 : decode prog_1_method_13_code 0 = .ok (.aload_n 0, 1) := by decide +kernel
theorem d_H_matched_1 : decode prog_1_method_13_code 1 = .ok (.iload_n 1, 1) := by decide +kernel
theorem d_H_matched_2 : decode prog_1_method_13_code 2 = .ok (.invokevirtual 68, 3) := by decide +kernel
theorem d_H_matched_5 : decode prog_1_method_13_code 5 = .ok (.aload_n 0, 1) := by decide +kernel
theorem d_H_matched_6 : decode prog_1_method_13_code 6 = .ok (.getfield 28, 3) := by decide +kernel
theorem d_H_matched_9 : decode prog_1_method_13_code 9 = .ok (.iload_n 1, 1) := by decide +kernel
theorem d_H_matched_10 : decode prog_1_method_13_code 10 = .ok (.invokevirtual 109, 3) := by decide +kernel
theorem d_H_matched_13 : decode prog_1_method_13_code 13 = .ok (.ireturn, 1) := by decide +kernel
theorem d_H_extreme_0 : decode prog_1_method_14_code 0 = .ok (.aload_n 0, 1) := by decide +kernel
theorem d_H_extreme_1 : decode prog_1_method_14_code 1 = .ok (.iload_n 1, 1) := by decide +kernel
theorem d_H_extreme_2 : decode prog_1_method_14_code 2 = .ok (.invokevirtual 68, 3) := by decide +kernel
theorem d_H_extreme_5 : decode prog_1_method_14_code 5 = .ok (.iload_n 2, 1) := by decide +kernel
theorem d_H_extreme_6 : decode prog_1_method_14_code 6 = .ok (.ifCond .eq 14, 3) := by decide +kernel
theorem d_H_extreme_9 : decode prog_1_method_14_code 9 = .ok (.aload_n 0, 1) := by decide +kernel
theorem d_H_extreme_10 : decode prog_1_method_14_code 10 = .ok (.getfield 28, 3) := by decide +kernel
theorem d_H_extreme_13 : decode prog_1_method_14_code 13 = .ok (.iload_n 1, 1) := by decide +kernel
theorem d_H_extreme_14 : decode prog_1_method_14_code 14 = .ok (.invokevirtual 112, 3) := by decide +kernel
theorem d_H_extreme_17 : decode prog_1_method_14_code 17 = .ok (.goto 11, 3) := by decide +kernel
theorem d_H_extreme_20 : decode prog_1_method_14_code 20 = .ok (.aload_n 0, 1) := by decide +kernel
theorem d_H_extreme_21 : decode prog_1_method_14_code 21 = .ok (.getfield 28, 3) := by decide +kernel
theorem d_H_extreme_24 : decode prog_1_method_14_code 24 = .ok (.iload_n 1, 1) := by decide +kernel
theorem d_H_extreme_25 : decode prog_1_method_14_code 25 = .ok (.invokevirtual 115, 3) := by decide +kernel
theorem d_H_extreme_28 : decode prog_1_method_14_code 28 = .ok (.ireturn, 1) := by decide +kernel
theorem d_H_together_0 : decode prog_1_method_15_code 0 = .ok (.aload_n 0, 1) := by decide +kernel
theorem d_H_together_1 : decode prog_1_method_15_code 1 = .ok (.iload_n 1, 1) := by decide +kernel
theorem d_H_together_2 : decode prog_1_method_15_code 2 = .ok (.iload_n 2, 1) := by decide +kernel
theorem d_H_together_3 : decode prog_1_method_15_code 3 = .ok (.invokevirtual 50, 3) := by decide +kernel
theorem d_H_together_6 : decode prog_1_method_15_code 6 = .ok (.aload_n 0, 1) := by decide +kernel
theorem d_H_together_7 : decode prog_1_method_15_code 7 = .ok (.getfield 28, 3) := by decide +kernel
theorem d_H_together_10 : decode prog_1_method_15_code 10 = .ok (.iload_n 1, 1) := by decide +kernel
theorem d_H_together_11 : decode prog_1_method_15_code 11 = .ok (.iload_n 2, 1) := by decide +kernel
theorem d_H_together_12 : decode prog_1_method_15_code 12 = .ok (.invokevirtual 118, 3) := by decide +kernel
theorem d_H_together_15 : decode prog_1_method_15_code 15 = .ok (.ireturn, 1) := by decide +kernel
theorem d_H_party_0 : decode prog_1_method_16_code 0 = .ok (.aload_n 0, 1) := by decide +kernel
theorem d_H_party_1 : decode prog_1_method_16_code 1 = .ok (.iload_n 1, 1) := by decide +kernel
theorem d_H_party_2 : decode prog_1_method_16_code 2 = .ok (.invokevirtual 68, 3) := by decide +kernel
theorem d_H_party_5 : decode prog_1_method_16_code 5 = .ok (.aload_n 0, 1) := by decide +kernel
theorem d_H_party_6 : decode prog_1_method_16_code 6 = .ok (.getfield 35, 3) := by decide +kernel
theorem d_H_party_9 : decode prog_1_method_16_code 9 = .ok (.iload_n 1, 1) := by decide +kernel
theorem d_H_party_10 : decode prog_1_method_16_code 10 = .ok (.invokevirtual 121, 3) := by decide +kernel
theorem d_H_party_13 : decode prog_1_method_16_code 13 = .ok (.ireturn, 1) := by decide +kernel
theorem d_H_next_0 : decode prog_1_method_17_code 0 = .ok (.aload_n 0, 1) := by decide +kernel
theorem d_H_next_1 : decode prog_1_method_17_code 1 = .ok (.iload_n 1, 1) := by decide +kernel
theorem d_H_next_2 : decode prog_1_method_17_code 2 = .ok (.invokevirtual 68, 3) := by decide +kernel
theorem d_H_next_5 : decode prog_1_method_17_code 5 = .ok (.aload_n 0, 1) := by decide +kernel
theorem d_H_next_6 : decode prog_1_method_17_code 6 = .ok (.getfield 35, 3) := by decide +kernel
theorem d_H_next_9 : decode prog_1_method_17_code 9 = .ok (.iload_n 1, 1) := by decide +kernel
theorem d_H_next_10 : decode prog_1_method_17_code 10 = .ok (.invokevirtual 124, 3) := by decide +kernel
theorem d_H_next_13 : decode prog_1_method_17_code 13 = .ok (.ireturn, 1) := by decide +kernel
theorem d_H_parties_0 : decode prog_1_method_18_code 0 = .ok (.iload_n 1, 1) := by decide +kernel
theorem d_H_parties_1 : decode prog_1_method_18_code 1 = .ok (.ifCond .eq 13, 3) := by decide +kernel
theorem d_H_parties_4 : decode prog_1_method_18_code 4 = .ok (.aload_n 0, 1) := by decide +kernel
theorem d_H_parties_5 : decode prog_1_method_18_code 5 = .ok (.getfield 35, 3) := by decide +kernel
theorem d_H_parties_8 : decode prog_1_method_18_code 8 = .ok (.invokevirtual 127, 3) := by decide +kernel
theorem d_H_parties_11 : decode prog_1_method_18_code 11 = .ok (.goto 10, 3) := by decide +kernel
theorem d_H_parties_14 : decode prog_1_method_18_code 14 = .ok (.aload_n 0, 1) := by decide +kernel
theorem d_H_parties_15 : decode prog_1_method_18_code 15 = .ok (.getfield 35, 3) := by decide +kernel
theorem d_H_parties_18 : decode prog_1_method_18_code 18 = .ok (.invokevirtual 130, 3) := by decide +kernel
theorem d_H_parties_21 : decode prog_1_method_18_code 21 = .ok (.ireturn, 1) := by decide +kernel
theorem d_H_size_0 : decode prog_1_method_19_code 0 = .ok (.aload_n 0, 1) := by decide +kernel
theorem d_H_size_1 : decode prog_1_method_19_code 1 = .ok (.getfield 10, 3) := by decide +kernel
theorem d_H_size_4 : decode prog_1_method_19_code 4 = .ok (.invokevirtual 46, 3) := by decide +kernel
theorem d_H_size_7 : decode prog_1_method_19_code 7 = .ok (.ireturn, 1) := by decide +kernel
theorem d_H_astray_0 : decode prog_1_method_20_code 0 = .ok (.aload_n 0, 1) := by decide +kernel
theorem d_H_astray_1 : decode prog_1_method_20_code 1 = .ok (.getfield 21, 3) := by decide +kernel
theorem d_H_astray_4 : decode prog_1_method_20_code 4 = .ok (.invokevirtual 133, 3) := by decide +kernel
theorem d_H_astray_7 : decode prog_1_method_20_code 7 = .ok (.ireturn, 1) := by decide +kernel
theorem d_H_startWith_0 : decode prog_1_method_21_code 0 = .ok (.aload_n 0, 1) := by decide +kernel
theorem d_H_startWith_1 : decode prog_1_method_21_code 1 = .ok (.getfield 10, 3) := by decide +kernel
theorem d_H_startWith_4 : decode prog_1_method_21_code 4 = .ok (.iload_n 1, 1) := by decide +kernel
theorem d_H_startWith_5 : decode prog_1_method_21_code 5 = .ok (.invokevirtual 136, 3) := by decide +kernel
theorem d_H_startWith_8 : decode prog_1_method_21_code 8 = .ok (.aload_n 0, 1) := by decide +kernel
theorem d_H_startWith_9 : decode prog_1_method_21_code 9 = .ok (.getfield 21, 3) := by decide +kernel
theorem d_H_startWith_12 : decode prog_1_method_21_code 12 = .ok (.invokevirtual 139, 3) := by decide +kernel
theorem d_H_startWith_15 : decode prog_1_method_21_code 15 = .ok (.return_, 1) := by decide +kernel
theorem d_H_demandPerson_0 : decode prog_1_method_22_code 0 = .ok (.iload_n 1, 1) := by decide +kernel
theorem d_H_demandPerson_1 : decode prog_1_method_22_code 1 = .ok (.ifCond .lt 14, 3) := by decide +kernel
theorem d_H_demandPerson_4 : decode prog_1_method_22_code 4 = .ok (.iload_n 1, 1) := by decide +kernel
theorem d_H_demandPerson_5 : decode prog_1_method_22_code 5 = .ok (.aload_n 0, 1) := by decide +kernel
theorem d_H_demandPerson_6 : decode prog_1_method_22_code 6 = .ok (.getfield 10, 3) := by decide +kernel
theorem d_H_demandPerson_9 : decode prog_1_method_22_code 9 = .ok (.invokevirtual 46, 3) := by decide +kernel
theorem d_H_demandPerson_12 : decode prog_1_method_22_code 12 = .ok (.if_icmp .lt 11, 3) := by decide +kernel
theorem d_H_demandPerson_15 : decode prog_1_method_22_code 15 = .ok (.new 87, 3) := by decide +kernel
theorem d_H_demandPerson_18 : decode prog_1_method_22_code 18 = .ok (.dup, 1) := by decide +kernel
theorem d_H_demandPerson_19 : decode prog_1_method_22_code 19 = .ok (.invokespecial 89, 3) := by decide +kernel
theorem d_H_demandPerson_22 : decode prog_1_method_22_code 22 = .ok (.athrow, 1) := by decide +kernel
theorem d_H_demandPerson_23 : decode prog_1_method_22_code 23 = .ok (.return_, 1) := by decide +kernel
theorem d_H_demandPersons_0 : decode prog_1_method_23_code 0 = .ok (.aload_n 0, 1) := by decide +kernel
theorem d_H_demandPersons_1 : decode prog_1_method_23_code 1 = .ok (.iload_n 1, 1) := by decide +kernel
theorem d_H_demandPersons_2 : decode prog_1_method_23_code 2 = .ok (.invokevirtual 68, 3) := by decide +kernel
theorem d_H_demandPersons_5 : decode prog_1_method_23_code 5 = .ok (.aload_n 0, 1) := by decide +kernel
theorem d_H_demandPersons_6 : decode prog_1_method_23_code 6 = .ok (.iload_n 2, 1) := by decide +kernel
theorem d_H_demandPersons_7 : decode prog_1_method_23_code 7 = .ok (.invokevirtual 68, 3) := by decide +kernel
theorem d_H_demandPersons_10 : decode prog_1_method_23_code 10 = .ok (.return_, 1) := by decide +kernel
theorem d_H_demandPlace_0 : decode prog_1_method_24_code 0 = .ok (.iload_n 2, 1) := by decide +kernel
theorem d_H_demandPlace_1 : decode prog_1_method_24_code 1 = .ok (.ifCond .lt 15, 3) := by decide +kernel
theorem d_H_demandPlace_4 : decode prog_1_method_24_code 4 = .ok (.iload_n 2, 1) := by decide +kernel
theorem d_H_demandPlace_5 : decode prog_1_method_24_code 5 = .ok (.aload_n 0, 1) := by decide +kernel
theorem d_H_demandPlace_6 : decode prog_1_method_24_code 6 = .ok (.getfield 10, 3) := by decide +kernel
theorem d_H_demandPlace_9 : decode prog_1_method_24_code 9 = .ok (.iload_n 1, 1) := by decide +kernel
theorem d_H_demandPlace_10 : decode prog_1_method_24_code 10 = .ok (.invokevirtual 64, 3) := by decide +kernel
theorem d_H_demandPlace_13 : decode prog_1_method_24_code 13 = .ok (.if_icmp .lt 11, 3) := by decide +kernel
theorem d_H_demandPlace_16 : decode prog_1_method_24_code 16 = .ok (.new 87, 3) := by decide +kernel
theorem d_H_demandPlace_19 : decode prog_1_method_24_code 19 = .ok (.dup, 1) := by decide +kernel
theorem d_H_demandPlace_20 : decode prog_1_method_24_code 20 = .ok (.invokespecial 89, 3) := by decide +kernel
theorem d_H_demandPlace_23 : decode prog_1_method_24_code 23 = .ok (.athrow, 1) := by decide +kernel
theorem d_H_demandPlace_24 : decode prog_1_method_24_code 24 = .ok (.return_, 1) := by decide +kernel
