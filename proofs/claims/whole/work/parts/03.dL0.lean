/-! what stands where: L -/
theorem d_L_people_0 : decode method_3_code 0 = .ok (.aload_n 2, 1) := by decide +kernel
theorem d_L_people_1 : decode method_3_code 1 = .ok (.iconst 0, 1) := by decide +kernel
theorem d_L_people_2 : decode method_3_code 2 = .ok (.aload_n 0, 1) := by decide +kernel
theorem d_L_people_3 : decode method_3_code 3 = .ok (.iload_n 1, 1) := by decide +kernel
theorem d_L_people_4 : decode method_3_code 4 = .ok (.invokevirtual 7, 3) := by decide +kernel
theorem d_L_people_7 : decode method_3_code 7 = .ok (.i2l, 1) := by decide +kernel
theorem d_L_people_8 : decode method_3_code 8 = .ok (.lastore, 1) := by decide +kernel
theorem d_L_people_9 : decode method_3_code 9 = .ok (.goto 6, 3) := by decide +kernel
theorem d_L_people_12 : decode method_3_code 12 = .ok (.astore_n 3, 1) := by decide +kernel
theorem d_L_people_13 : decode method_3_code 13 = .ok (.iconst 1, 1) := by decide +kernel
theorem d_L_people_14 : decode method_3_code 14 = .ok (.ireturn, 1) := by decide +kernel
theorem d_L_people_15 : decode method_3_code 15 = .ok (.iconst 0, 1) := by decide +kernel
theorem d_L_people_16 : decode method_3_code 16 = .ok (.ireturn, 1) := by decide +kernel
theorem d_L_put_0 : decode method_4_code 0 = .ok (.aload_n 3, 1) := by decide +kernel
theorem d_L_put_1 : decode method_4_code 1 = .ok (.iconst 0, 1) := by decide +kernel
theorem d_L_put_2 : decode method_4_code 2 = .ok (.aload_n 0, 1) := by decide +kernel
theorem d_L_put_3 : decode method_4_code 3 = .ok (.iload_n 1, 1) := by decide +kernel
theorem d_L_put_4 : decode method_4_code 4 = .ok (.iload_n 2, 1) := by decide +kernel
theorem d_L_put_5 : decode method_4_code 5 = .ok (.invokevirtual 15, 3) := by decide +kernel
theorem d_L_put_8 : decode method_4_code 8 = .ok (.i2l, 1) := by decide +kernel
theorem d_L_put_9 : decode method_4_code 9 = .ok (.lastore, 1) := by decide +kernel
theorem d_L_put_10 : decode method_4_code 10 = .ok (.goto 15, 3) := by decide +kernel
theorem d_L_put_13 : decode method_4_code 13 = .ok (.astore 4, 2) := by decide +kernel
theorem d_L_put_15 : decode method_4_code 15 = .ok (.iconst 1, 1) := by decide +kernel
theorem d_L_put_16 : decode method_4_code 16 = .ok (.ireturn, 1) := by decide +kernel
theorem d_L_put_17 : decode method_4_code 17 = .ok (.astore 4, 2) := by decide +kernel
theorem d_L_put_19 : decode method_4_code 19 = .ok (.iconst 2, 1) := by decide +kernel
theorem d_L_put_20 : decode method_4_code 20 = .ok (.ireturn, 1) := by decide +kernel
theorem d_L_put_21 : decode method_4_code 21 = .ok (.astore 4, 2) := by decide +kernel
theorem d_L_put_23 : decode method_4_code 23 = .ok (.iconst 3, 1) := by decide +kernel
theorem d_L_put_24 : decode method_4_code 24 = .ok (.ireturn, 1) := by decide +kernel
theorem d_L_put_25 : decode method_4_code 25 = .ok (.iconst 0, 1) := by decide +kernel
theorem d_L_put_26 : decode method_4_code 26 = .ok (.ireturn, 1) := by decide +kernel
theorem d_L_remove_0 : decode method_5_code 0 = .ok (.aload_n 3, 1) := by decide +kernel
theorem d_L_remove_1 : decode method_5_code 1 = .ok (.iconst 0, 1) := by decide +kernel
theorem d_L_remove_2 : decode method_5_code 2 = .ok (.aload_n 0, 1) := by decide +kernel
theorem d_L_remove_3 : decode method_5_code 3 = .ok (.iload_n 1, 1) := by decide +kernel
theorem d_L_remove_4 : decode method_5_code 4 = .ok (.iload_n 2, 1) := by decide +kernel
theorem d_L_remove_5 : decode method_5_code 5 = .ok (.invokevirtual 23, 3) := by decide +kernel
theorem d_L_remove_8 : decode method_5_code 8 = .ok (.i2l, 1) := by decide +kernel
theorem d_L_remove_9 : decode method_5_code 9 = .ok (.lastore, 1) := by decide +kernel
theorem d_L_remove_10 : decode method_5_code 10 = .ok (.goto 7, 3) := by decide +kernel
theorem d_L_remove_13 : decode method_5_code 13 = .ok (.astore 4, 2) := by decide +kernel
theorem d_L_remove_15 : decode method_5_code 15 = .ok (.iconst 1, 1) := by decide +kernel
theorem d_L_remove_16 : decode method_5_code 16 = .ok (.ireturn, 1) := by decide +kernel
theorem d_L_remove_17 : decode method_5_code 17 = .ok (.iconst 0, 1) := by decide +kernel
theorem d_L_remove_18 : decode method_5_code 18 = .ok (.ireturn, 1) := by decide +kernel
theorem d_L_move_0 : decode method_6_code 0 = .ok (.aload 4, 2) := by decide +kernel
theorem d_L_move_2 : decode method_6_code 2 = .ok (.iconst 0, 1) := by decide +kernel
theorem d_L_move_3 : decode method_6_code 3 = .ok (.aload_n 0, 1) := by decide +kernel
theorem d_L_move_4 : decode method_6_code 4 = .ok (.iload_n 1, 1) := by decide +kernel
theorem d_L_move_5 : decode method_6_code 5 = .ok (.iload_n 2, 1) := by decide +kernel
theorem d_L_move_6 : decode method_6_code 6 = .ok (.iload_n 3, 1) := by decide +kernel
theorem d_L_move_7 : decode method_6_code 7 = .ok (.invokevirtual 26, 3) := by decide +kernel
theorem d_L_move_10 : decode method_6_code 10 = .ok (.i2l, 1) := by decide +kernel
theorem d_L_move_11 : decode method_6_code 11 = .ok (.lastore, 1) := by decide +kernel
theorem d_L_move_12 : decode method_6_code 12 = .ok (.goto 7, 3) := by decide +kernel
theorem d_L_move_15 : decode method_6_code 15 = .ok (.astore 5, 2) := by decide +kernel
theorem d_L_move_17 : decode method_6_code 17 = .ok (.iconst 1, 1) := by decide +kernel
theorem d_L_move_18 : decode method_6_code 18 = .ok (.ireturn, 1) := by decide +kernel
theorem d_L_move_19 : decode method_6_code 19 = .ok (.iconst 0, 1) := by decide +kernel
theorem d_L_move_20 : decode method_6_code 20 = .ok (.ireturn, 1) := by decide +kernel
theorem d_L_at_0 : decode method_7_code 0 = .ok (.aload_n 3, 1) := by decide +kernel
theorem d_L_at_1 : decode method_7_code 1 = .ok (.iconst 0, 1) := by decide +kernel
theorem d_L_at_2 : decode method_7_code 2 = .ok (.aload_n 0, 1) := by decide +kernel
theorem d_L_at_3 : decode method_7_code 3 = .ok (.iload_n 1, 1) := by decide +kernel
theorem d_L_at_4 : decode method_7_code 4 = .ok (.iload_n 2, 1) := by decide +kernel
theorem d_L_at_5 : decode method_7_code 5 = .ok (.invokevirtual 30, 3) := by decide +kernel
theorem d_L_at_8 : decode method_7_code 8 = .ok (.i2l, 1) := by decide +kernel
theorem d_L_at_9 : decode method_7_code 9 = .ok (.lastore, 1) := by decide +kernel
theorem d_L_at_10 : decode method_7_code 10 = .ok (.goto 7, 3) := by decide +kernel
theorem d_L_at_13 : decode method_7_code 13 = .ok (.astore 4, 2) := by decide +kernel
theorem d_L_at_15 : decode method_7_code 15 = .ok (.iconst 1, 1) := by decide +kernel
theorem d_L_at_16 : decode method_7_code 16 = .ok (.ireturn, 1) := by decide +kernel
theorem d_L_at_17 : decode method_7_code 17 = .ok (.iconst 0, 1) := by decide +kernel
theorem d_L_at_18 : decode method_7_code 18 = .ok (.ireturn, 1) := by decide +kernel
theorem d_L_place_0 : decode method_8_code 0 = .ok (.aload_n 3, 1) := by decide +kernel
theorem d_L_place_1 : decode method_8_code 1 = .ok (.iconst 0, 1) := by decide +kernel
theorem d_L_place_2 : decode method_8_code 2 = .ok (.aload_n 0, 1) := by decide +kernel
theorem d_L_place_3 : decode method_8_code 3 = .ok (.iload_n 1, 1) := by decide +kernel
theorem d_L_place_4 : decode method_8_code 4 = .ok (.iload_n 2, 1) := by decide +kernel
theorem d_L_place_5 : decode method_8_code 5 = .ok (.invokevirtual 33, 3) := by decide +kernel
theorem d_L_place_8 : decode method_8_code 8 = .ok (.i2l, 1) := by decide +kernel
theorem d_L_place_9 : decode method_8_code 9 = .ok (.lastore, 1) := by decide +kernel
theorem d_L_place_10 : decode method_8_code 10 = .ok (.goto 7, 3) := by decide +kernel
theorem d_L_place_13 : decode method_8_code 13 = .ok (.astore 4, 2) := by decide +kernel
theorem d_L_place_15 : decode method_8_code 15 = .ok (.iconst 1, 1) := by decide +kernel
theorem d_L_place_16 : decode method_8_code 16 = .ok (.ireturn, 1) := by decide +kernel
theorem d_L_place_17 : decode method_8_code 17 = .ok (.iconst 0, 1) := by decide +kernel
theorem d_L_place_18 : decode method_8_code 18 = .ok (.ireturn, 1) := by decide +kernel
theorem d_L_pair_0 : decode method_9_code 0 = .ok (.aload_n 3, 1) := by decide +kernel
theorem d_L_pair_1 : decode method_9_code 1 = .ok (.iconst 0, 1) := by decide +kernel
theorem d_L_pair_2 : decode method_9_code 2 = .ok (.aload_n 0, 1) := by decide +kernel
theorem d_L_pair_3 : decode method_9_code 3 = .ok (.iload_n 1, 1) := by decide +kernel
theorem d_L_pair_4 : decode method_9_code 4 = .ok (.iload_n 2, 1) := by decide +kernel
theorem d_L_pair_5 : decode method_9_code 5 = .ok (.invokevirtual 36, 3) := by decide +kernel
theorem d_L_pair_8 : decode method_9_code 8 = .ok (.i2l, 1) := by decide +kernel
theorem d_L_pair_9 : decode method_9_code 9 = .ok (.lastore, 1) := by decide +kernel
theorem d_L_pair_10 : decode method_9_code 10 = .ok (.goto 15, 3) := by decide +kernel
theorem d_L_pair_13 : decode method_9_code 13 = .ok (.astore 4, 2) := by decide +kernel
theorem d_L_pair_15 : decode method_9_code 15 = .ok (.iconst 1, 1) := by decide +kernel
theorem d_L_pair_16 : decode method_9_code 16 = .ok (.ireturn, 1) := by decide +kernel
theorem d_L_pair_17 : decode method_9_code 17 = .ok (.astore 4, 2) := by decide +kernel
theorem d_L_pair_19 : decode method_9_code 19 = .ok (.iconst 2, 1) := by decide +kernel
theorem d_L_pair_20 : decode method_9_code 20 = .ok (.ireturn, 1) := by decide +kernel
theorem d_L_pair_21 : decode method_9_code 21 = .ok (.astore 4, 2) := by decide +kernel
theorem d_L_pair_23 : decode method_9_code 23 = .ok (.iconst 3, 1) := by decide +kernel
theorem d_L_pair_24 : decode method_9_code 24 = .ok (.ireturn, 1) := by decide +kernel
theorem d_L_pair_25 : decode method_9_code 25 = .ok (.iconst 0, 1) := by decide +kernel
theorem d_L_pair_26 : decode method_9_code 26 = .ok (.ireturn, 1) := by decide +kernel
theorem d_L_partner_0 : decode method_10_code 0 = .ok (.aload_n 2, 1) := by decide +kernel
theorem d_L_partner_1 : decode method_10_code 1 = .ok (.iconst 0, 1) := by decide +kernel
theorem d_L_partner_2 : decode method_10_code 2 = .ok (.aload_n 0, 1) := by decide +kernel
theorem d_L_partner_3 : decode method_10_code 3 = .ok (.iload_n 1, 1) := by decide +kernel
theorem d_L_partner_4 : decode method_10_code 4 = .ok (.invokevirtual 39, 3) := by decide +kernel
theorem d_L_partner_7 : decode method_10_code 7 = .ok (.i2l, 1) := by decide +kernel
theorem d_L_partner_8 : decode method_10_code 8 = .ok (.lastore, 1) := by decide +kernel
theorem d_L_partner_9 : decode method_10_code 9 = .ok (.goto 6, 3) := by decide +kernel
theorem d_L_partner_12 : decode method_10_code 12 = .ok (.astore_n 3, 1) := by decide +kernel
theorem d_L_partner_13 : decode method_10_code 13 = .ok (.iconst 1, 1) := by decide +kernel
theorem d_L_partner_14 : decode method_10_code 14 = .ok (.ireturn, 1) := by decide +kernel
theorem d_L_partner_15 : decode method_10_code 15 = .ok (.iconst 0, 1) := by decide +kernel
theorem d_L_partner_16 : decode method_10_code 16 = .ok (.ireturn, 1) := by decide +kernel
theorem d_L_matched_0 : decode method_11_code 0 = .ok (.aload_n 2, 1) := by decide +kernel
theorem d_L_matched_1 : decode method_11_code 1 = .ok (.iconst 0, 1) := by decide +kernel
theorem d_L_matched_2 : decode method_11_code 2 = .ok (.aload_n 0, 1) := by decide +kernel
theorem d_L_matched_3 : decode method_11_code 3 = .ok (.iload_n 1, 1) := by decide +kernel
theorem d_L_matched_4 : decode method_11_code 4 = .ok (.invokevirtual 42, 3) := by decide +kernel
theorem d_L_matched_7 : decode method_11_code 7 = .ok (.i2l, 1) := by decide +kernel
theorem d_L_matched_8 : decode method_11_code 8 = .ok (.lastore, 1) := by decide +kernel
theorem d_L_matched_9 : decode method_11_code 9 = .ok (.goto 6, 3) := by decide +kernel
theorem d_L_matched_12 : decode method_11_code 12 = .ok (.astore_n 3, 1) := by decide +kernel
theorem d_L_matched_13 : decode method_11_code 13 = .ok (.iconst 1, 1) := by decide +kernel
theorem d_L_matched_14 : decode method_11_code 14 = .ok (.ireturn, 1) := by decide +kernel
theorem d_L_matched_15 : decode method_11_code 15 = .ok (.iconst 0, 1) := by decide +kernel
theorem d_L_matched_16 : decode method_11_code 16 = .ok (.ireturn, 1) := by decide +kernel
theorem d_L_extreme_0 : decode method_12_code 0 = .ok (.aload_n 3, 1) := by decide +kernel
theorem d_L_extreme_1 : decode method_12_code 1 = .ok (.iconst 0, 1) := by decide +kernel
theorem d_L_extreme_2 : decode method_12_code 2 = .ok (.aload_n 0, 1) := by decide +kernel
theorem d_L_extreme_3 : decode method_12_code 3 = .ok (.iload_n 1, 1) := by decide +kernel
theorem d_L_extreme_4 : decode method_12_code 4 = .ok (.iload_n 2, 1) := by decide +kernel
theorem d_L_extreme_5 : decode method_12_code 5 = .ok (.invokevirtual 45, 3) := by decide +kernel
theorem d_L_extreme_8 : decode method_12_code 8 = .ok (.i2l, 1) := by decide +kernel
theorem d_L_extreme_9 : decode method_12_code 9 = .ok (.lastore, 1) := by decide +kernel
theorem d_L_extreme_10 : decode method_12_code 10 = .ok (.goto 7, 3) := by decide +kernel
theorem d_L_extreme_13 : decode method_12_code 13 = .ok (.astore 4, 2) := by decide +kernel
theorem d_L_extreme_15 : decode method_12_code 15 = .ok (.iconst 1, 1) := by decide +kernel
theorem d_L_extreme_16 : decode method_12_code 16 = .ok (.ireturn, 1) := by decide +kernel
theorem d_L_extreme_17 : decode method_12_code 17 = .ok (.iconst 0, 1) := by decide +kernel
theorem d_L_extreme_18 : decode method_12_code 18 = .ok (.ireturn, 1) := by decide +kernel
theorem d_L_together_0 : decode method_13_code 0 = .ok (.aload_n 3, 1) := by decide +kernel
theorem d_L_together_1 : decode method_13_code 1 = .ok (.iconst 0, 1) := by decide +kernel
theorem d_L_together_2 : decode method_13_code 2 = .ok (.aload_n 0, 1) := by decide +kernel
theorem d_L_together_3 : decode method_13_code 3 = .ok (.iload_n 1, 1) := by decide +kernel
theorem d_L_together_4 : decode method_13_code 4 = .ok (.iload_n 2, 1) := by decide +kernel
theorem d_L_together_5 : decode method_13_code 5 = .ok (.invokevirtual 49, 3) := by decide +kernel
theorem d_L_together_8 : decode method_13_code 8 = .ok (.i2l, 1) := by decide +kernel
theorem d_L_together_9 : decode method_13_code 9 = .ok (.lastore, 1) := by decide +kernel
theorem d_L_together_10 : decode method_13_code 10 = .ok (.goto 7, 3) := by decide +kernel
theorem d_L_together_13 : decode method_13_code 13 = .ok (.astore 4, 2) := by decide +kernel
theorem d_L_together_15 : decode method_13_code 15 = .ok (.iconst 1, 1) := by decide +kernel
theorem d_L_together_16 : decode method_13_code 16 = .ok (.ireturn, 1) := by decide +kernel
theorem d_L_together_17 : decode method_13_code 17 = .ok (.iconst 0, 1) := by decide +kernel
theorem d_L_together_18 : decode method_13_code 18 = .ok (.ireturn, 1) := by decide +kernel
theorem d_L_party_0 : decode method_14_code 0 = .ok (.aload_n 2, 1) := by decide +kernel
theorem d_L_party_1 : decode method_14_code 1 = .ok (.iconst 0, 1) := by decide +kernel
theorem d_L_party_2 : decode method_14_code 2 = .ok (.aload_n 0, 1) := by decide +kernel
theorem d_L_party_3 : decode method_14_code 3 = .ok (.iload_n 1, 1) := by decide +kernel
theorem d_L_party_4 : decode method_14_code 4 = .ok (.invokevirtual 52, 3) := by decide +kernel
theorem d_L_party_7 : decode method_14_code 7 = .ok (.i2l, 1) := by decide +kernel
theorem d_L_party_8 : decode method_14_code 8 = .ok (.lastore, 1) := by decide +kernel
theorem d_L_party_9 : decode method_14_code 9 = .ok (.goto 6, 3) := by decide +kernel
theorem d_L_party_12 : decode method_14_code 12 = .ok (.astore_n 3, 1) := by decide +kernel
theorem d_L_party_13 : decode method_14_code 13 = .ok (.iconst 1, 1) := by decide +kernel
theorem d_L_party_14 : decode method_14_code 14 = .ok (.ireturn, 1) := by decide +kernel
theorem d_L_party_15 : decode method_14_code 15 = .ok (.iconst 0, 1) := by decide +kernel
theorem d_L_party_16 : decode method_14_code 16 = .ok (.ireturn, 1) := by decide +kernel
theorem d_L_next_0 : decode method_15_code 0 = .ok (.aload_n 2, 1) := by decide +kernel
theorem d_L_next_1 : decode method_15_code 1 = .ok (.iconst 0, 1) := by decide +kernel
theorem d_L_next_2 : decode method_15_code 2 = .ok (.aload_n 0, 1) := by decide +kernel
theorem d_L_next_3 : decode method_15_code 3 = .ok (.iload_n 1, 1) := by decide +kernel
theorem d_L_next_4 : decode method_15_code 4 = .ok (.invokevirtual 55, 3) := by decide +kernel
theorem d_L_next_7 : decode method_15_code 7 = .ok (.i2l, 1) := by decide +kernel
theorem d_L_next_8 : decode method_15_code 8 = .ok (.lastore, 1) := by decide +kernel
theorem d_L_next_9 : decode method_15_code 9 = .ok (.goto 6, 3) := by decide +kernel
theorem d_L_next_12 : decode method_15_code 12 = .ok (.astore_n 3, 1) := by decide +kernel
theorem d_L_next_13 : decode method_15_code 13 = .ok (.iconst 1, 1) := by decide +kernel
theorem d_L_next_14 : decode method_15_code 14 = .ok (.ireturn, 1) := by decide +kernel
theorem d_L_next_15 : decode method_15_code 15 = .ok (.iconst 0, 1) := by decide +kernel
theorem d_L_next_16 : decode method_15_code 16 = .ok (.ireturn, 1) := by decide +kernel
theorem d_L_law_0 : decode code 0 = .ok (.new 8, 3) := by decide +kernel
theorem d_L_law_3 : decode code 3 = .ok (.dup, 1) := by decide +kernel
theorem d_L_law_4 : decode code 4 = .ok (.invokespecial 58, 3) := by decide +kernel
theorem d_L_law_7 : decode code 7 = .ok (.astore_n 1, 1) := by decide +kernel
theorem d_L_law_8 : decode code 8 = .ok (.new 59, 3) := by decide +kernel
theorem d_L_law_11 : decode code 11 = .ok (.dup, 1) := by decide +kernel
theorem d_L_law_12 : decode code 12 = .ok (.invokespecial 61, 3) := by decide +kernel
theorem d_L_law_15 : decode code 15 = .ok (.astore_n 2, 1) := by decide +kernel
theorem d_L_law_16 : decode code 16 = .ok (.iconst 1, 1) := by decide +kernel
theorem d_L_law_17 : decode code 17 = .ok (.newarray .long, 2) := by decide +kernel
theorem d_L_law_19 : decode code 19 = .ok (.astore_n 3, 1) := by decide +kernel
theorem d_L_law_20 : decode code 20 = .ok (.iconst 0, 1) := by decide +kernel
theorem d_L_law_21 : decode code 21 = .ok (.istore 4, 2) := by decide +kernel
theorem d_L_law_23 : decode code 23 = .ok (.iload 4, 2) := by decide +kernel
theorem d_L_law_25 : decode code 25 = .ok (.aload_n 0, 1) := by decide +kernel
theorem d_L_law_26 : decode code 26 = .ok (.arraylength, 1) := by decide +kernel
theorem d_L_law_27 : decode code 27 = .ok (.iconst 4, 1) := by decide +kernel
theorem d_L_law_28 : decode code 28 = .ok (.isub, 1) := by decide +kernel
theorem d_L_law_29 : decode code 29 = .ok (.if_icmp .gt 1063, 3) := by decide +kernel
theorem d_L_law_32 : decode code 32 = .ok (.aload_n 0, 1) := by decide +kernel
theorem d_L_law_33 : decode code 33 = .ok (.iload 4, 2) := by decide +kernel
theorem d_L_law_35 : decode code 35 = .ok (.iaload, 1) := by decide +kernel
theorem d_L_law_36 : decode code 36 = .ok (.bipush 31, 2) := by decide +kernel
theorem d_L_law_38 : decode code 38 = .ok (.iand, 1) := by decide +kernel
theorem d_L_law_39 : decode code 39 = .ok (.tableswitch 1047 0 18 #[89, 145, 213, 281, 361, 429, 497, 565, 621, 634, 647, 660, 716, 800, 868, 924, 980, 1021, 1034], 89) := by decide +kernel
theorem d_L_law_128 : decode code 128 = .ok (.aload_n 1, 1) := by decide +kernel
theorem d_L_law_129 : decode code 129 = .ok (.aload_n 0, 1) := by decide +kernel
theorem d_L_law_130 : decode code 130 = .ok (.iload 4, 2) := by decide +kernel
theorem d_L_law_132 : decode code 132 = .ok (.iconst 1, 1) := by decide +kernel
theorem d_L_law_133 : decode code 133 = .ok (.iadd, 1) := by decide +kernel
theorem d_L_law_134 : decode code 134 = .ok (.iaload, 1) := by decide +kernel
theorem d_L_law_135 : decode code 135 = .ok (.aload_n 3, 1) := by decide +kernel
theorem d_L_law_136 : decode code 136 = .ok (.invokestatic 62, 3) := by decide +kernel
theorem d_L_law_139 : decode code 139 = .ok (.istore 5, 2) := by decide +kernel
theorem d_L_law_141 : decode code 141 = .ok (.aload_n 2, 1) := by decide +kernel
theorem d_L_law_142 : decode code 142 = .ok (.aload_n 0, 1) := by decide +kernel
theorem d_L_law_143 : decode code 143 = .ok (.iload 4, 2) := by decide +kernel
theorem d_L_law_145 : decode code 145 = .ok (.iconst 1, 1) := by decide +kernel
theorem d_L_law_146 : decode code 146 = .ok (.iadd, 1) := by decide +kernel
theorem d_L_law_147 : decode code 147 = .ok (.iaload, 1) := by decide +kernel
theorem d_L_law_148 : decode code 148 = .ok (.invokevirtual 67, 3) := by decide +kernel
theorem d_L_law_151 : decode code 151 = .ok (.istore 6, 2) := by decide +kernel
theorem d_L_law_153 : decode code 153 = .ok (.aload_n 2, 1) := by decide +kernel
theorem d_L_law_154 : decode code 154 = .ok (.invokevirtual 68, 3) := by decide +kernel
theorem d_L_law_157 : decode code 157 = .ok (.iload 5, 2) := by decide +kernel
theorem d_L_law_159 : decode code 159 = .ok (.if_icmp .eq 5, 3) := by decide +kernel
theorem d_L_law_162 : decode code 162 = .ok (.iconst 0, 1) := by decide +kernel
theorem d_L_law_163 : decode code 163 = .ok (.ireturn, 1) := by decide +kernel
theorem d_L_law_164 : decode code 164 = .ok (.iload 5, 2) := by decide +kernel
theorem d_L_law_166 : decode code 166 = .ok (.ifCond .ne 15, 3) := by decide +kernel
theorem d_L_law_169 : decode code 169 = .ok (.aload_n 3, 1) := by decide +kernel
theorem d_L_law_170 : decode code 170 = .ok (.iconst 0, 1) := by decide +kernel
theorem d_L_law_171 : decode code 171 = .ok (.laload, 1) := by decide +kernel
theorem d_L_law_172 : decode code 172 = .ok (.iload 6, 2) := by decide +kernel
theorem d_L_law_174 : decode code 174 = .ok (.i2l, 1) := by decide +kernel
theorem d_L_law_175 : decode code 175 = .ok (.lcmp, 1) := by decide +kernel
theorem d_L_law_176 : decode code 176 = .ok (.ifCond .eq 5, 3) := by decide +kernel
theorem d_L_law_179 : decode code 179 = .ok (.iconst 0, 1) := by decide +kernel
theorem d_L_law_180 : decode code 180 = .ok (.ireturn, 1) := by decide +kernel
theorem d_L_law_181 : decode code 181 = .ok (.goto 905, 3) := by decide +kernel
theorem d_L_law_184 : decode code 184 = .ok (.aload_n 1, 1) := by decide +kernel
theorem d_L_law_185 : decode code 185 = .ok (.aload_n 0, 1) := by decide +kernel
theorem d_L_law_186 : decode code 186 = .ok (.iload 4, 2) := by decide +kernel
theorem d_L_law_188 : decode code 188 = .ok (.iconst 1, 1) := by decide +kernel
theorem d_L_law_189 : decode code 189 = .ok (.iadd, 1) := by decide +kernel
theorem d_L_law_190 : decode code 190 = .ok (.iaload, 1) := by decide +kernel
theorem d_L_law_191 : decode code 191 = .ok (.aload_n 0, 1) := by decide +kernel
theorem d_L_law_192 : decode code 192 = .ok (.iload 4, 2) := by decide +kernel
theorem d_L_law_194 : decode code 194 = .ok (.iconst 2, 1) := by decide +kernel
theorem d_L_law_195 : decode code 195 = .ok (.iadd, 1) := by decide +kernel
theorem d_L_law_196 : decode code 196 = .ok (.iaload, 1) := by decide +kernel
theorem d_L_law_197 : decode code 197 = .ok (.aload_n 3, 1) := by decide +kernel
theorem d_L_law_198 : decode code 198 = .ok (.invokestatic 72, 3) := by decide +kernel
theorem d_L_law_201 : decode code 201 = .ok (.istore 5, 2) := by decide +kernel
theorem d_L_law_203 : decode code 203 = .ok (.aload_n 2, 1) := by decide +kernel
theorem d_L_law_204 : decode code 204 = .ok (.aload_n 0, 1) := by decide +kernel
theorem d_L_law_205 : decode code 205 = .ok (.iload 4, 2) := by decide +kernel
theorem d_L_law_207 : decode code 207 = .ok (.iconst 1, 1) := by decide +kernel
theorem d_L_law_208 : decode code 208 = .ok (.iadd, 1) := by decide +kernel
theorem d_L_law_209 : decode code 209 = .ok (.iaload, 1) := by decide +kernel
theorem d_L_law_210 : decode code 210 = .ok (.aload_n 0, 1) := by decide +kernel
theorem d_L_law_211 : decode code 211 = .ok (.iload 4, 2) := by decide +kernel
theorem d_L_law_213 : decode code 213 = .ok (.iconst 2, 1) := by decide +kernel
theorem d_L_law_214 : decode code 214 = .ok (.iadd, 1) := by decide +kernel
theorem d_L_law_215 : decode code 215 = .ok (.iaload, 1) := by decide +kernel
theorem d_L_law_216 : decode code 216 = .ok (.invokevirtual 75, 3) := by decide +kernel
theorem d_L_law_219 : decode code 219 = .ok (.istore 6, 2) := by decide +kernel
theorem d_L_law_221 : decode code 221 = .ok (.aload_n 2, 1) := by decide +kernel
theorem d_L_law_222 : decode code 222 = .ok (.invokevirtual 68, 3) := by decide +kernel
theorem d_L_law_225 : decode code 225 = .ok (.iload 5, 2) := by decide +kernel
theorem d_L_law_227 : decode code 227 = .ok (.if_icmp .eq 5, 3) := by decide +kernel
theorem d_L_law_230 : decode code 230 = .ok (.iconst 0, 1) := by decide +kernel
theorem d_L_law_231 : decode code 231 = .ok (.ireturn, 1) := by decide +kernel
theorem d_L_law_232 : decode code 232 = .ok (.iload 5, 2) := by decide +kernel
theorem d_L_law_234 : decode code 234 = .ok (.ifCond .ne 15, 3) := by decide +kernel
theorem d_L_law_237 : decode code 237 = .ok (.aload_n 3, 1) := by decide +kernel
theorem d_L_law_238 : decode code 238 = .ok (.iconst 0, 1) := by decide +kernel
theorem d_L_law_239 : decode code 239 = .ok (.laload, 1) := by decide +kernel
theorem d_L_law_240 : decode code 240 = .ok (.iload 6, 2) := by decide +kernel
theorem d_L_law_242 : decode code 242 = .ok (.i2l, 1) := by decide +kernel
theorem d_L_law_243 : decode code 243 = .ok (.lcmp, 1) := by decide +kernel
theorem d_L_law_244 : decode code 244 = .ok (.ifCond .eq 5, 3) := by decide +kernel
theorem d_L_law_247 : decode code 247 = .ok (.iconst 0, 1) := by decide +kernel
theorem d_L_law_248 : decode code 248 = .ok (.ireturn, 1) := by decide +kernel
theorem d_L_law_249 : decode code 249 = .ok (.goto 837, 3) := by decide +kernel
theorem d_L_law_252 : decode code 252 = .ok (.aload_n 1, 1) := by decide +kernel
theorem d_L_law_253 : decode code 253 = .ok (.aload_n 0, 1) := by decide +kernel
theorem d_L_law_254 : decode code 254 = .ok (.iload 4, 2) := by decide +kernel
theorem d_L_law_256 : decode code 256 = .ok (.iconst 1, 1) := by decide +kernel
theorem d_L_law_257 : decode code 257 = .ok (.iadd, 1) := by decide +kernel
theorem d_L_law_258 : decode code 258 = .ok (.iaload, 1) := by decide +kernel
theorem d_L_law_259 : decode code 259 = .ok (.aload_n 0, 1) := by decide +kernel
theorem d_L_law_260 : decode code 260 = .ok (.iload 4, 2) := by decide +kernel
theorem d_L_law_262 : decode code 262 = .ok (.iconst 2, 1) := by decide +kernel
theorem d_L_law_263 : decode code 263 = .ok (.iadd, 1) := by decide +kernel
theorem d_L_law_264 : decode code 264 = .ok (.iaload, 1) := by decide +kernel
theorem d_L_law_265 : decode code 265 = .ok (.aload_n 3, 1) := by decide +kernel
theorem d_L_law_266 : decode code 266 = .ok (.invokestatic 76, 3) := by decide +kernel
theorem d_L_law_269 : decode code 269 = .ok (.istore 5, 2) := by decide +kernel
theorem d_L_law_271 : decode code 271 = .ok (.aload_n 2, 1) := by decide +kernel
theorem d_L_law_272 : decode code 272 = .ok (.aload_n 0, 1) := by decide +kernel
theorem d_L_law_273 : decode code 273 = .ok (.iload 4, 2) := by decide +kernel
theorem d_L_law_275 : decode code 275 = .ok (.iconst 1, 1) := by decide +kernel
theorem d_L_law_276 : decode code 276 = .ok (.iadd, 1) := by decide +kernel
theorem d_L_law_277 : decode code 277 = .ok (.iaload, 1) := by decide +kernel
theorem d_L_law_278 : decode code 278 = .ok (.aload_n 0, 1) := by decide +kernel
theorem d_L_law_279 : decode code 279 = .ok (.iload 4, 2) := by decide +kernel
theorem d_L_law_281 : decode code 281 = .ok (.iconst 2, 1) := by decide +kernel
theorem d_L_law_282 : decode code 282 = .ok (.iadd, 1) := by decide +kernel
theorem d_L_law_283 : decode code 283 = .ok (.iaload, 1) := by decide +kernel
theorem d_L_law_284 : decode code 284 = .ok (.invokevirtual 78, 3) := by decide +kernel
theorem d_L_law_287 : decode code 287 = .ok (.istore 6, 2) := by decide +kernel
theorem d_L_law_289 : decode code 289 = .ok (.aload_n 2, 1) := by decide +kernel
theorem d_L_law_290 : decode code 290 = .ok (.invokevirtual 68, 3) := by decide +kernel
theorem d_L_law_293 : decode code 293 = .ok (.iload 5, 2) := by decide +kernel
theorem d_L_law_295 : decode code 295 = .ok (.if_icmp .eq 5, 3) := by decide +kernel
theorem d_L_law_298 : decode code 298 = .ok (.iconst 0, 1) := by decide +kernel
theorem d_L_law_299 : decode code 299 = .ok (.ireturn, 1) := by decide +kernel
theorem d_L_law_300 : decode code 300 = .ok (.iload 5, 2) := by decide +kernel
theorem d_L_law_302 : decode code 302 = .ok (.ifCond .ne 15, 3) := by decide +kernel
theorem d_L_law_305 : decode code 305 = .ok (.aload_n 3, 1) := by decide +kernel
theorem d_L_law_306 : decode code 306 = .ok (.iconst 0, 1) := by decide +kernel
theorem d_L_law_307 : decode code 307 = .ok (.laload, 1) := by decide +kernel
theorem d_L_law_308 : decode code 308 = .ok (.iload 6, 2) := by decide +kernel
theorem d_L_law_310 : decode code 310 = .ok (.i2l, 1) := by decide +kernel
theorem d_L_law_311 : decode code 311 = .ok (.lcmp, 1) := by decide +kernel
theorem d_L_law_312 : decode code 312 = .ok (.ifCond .eq 5, 3) := by decide +kernel
theorem d_L_law_315 : decode code 315 = .ok (.iconst 0, 1) := by decide +kernel
theorem d_L_law_316 : decode code 316 = .ok (.ireturn, 1) := by decide +kernel
theorem d_L_law_317 : decode code 317 = .ok (.goto 769, 3) := by decide +kernel
theorem d_L_law_320 : decode code 320 = .ok (.aload_n 1, 1) := by decide +kernel
theorem d_L_law_321 : decode code 321 = .ok (.aload_n 0, 1) := by decide +kernel
theorem d_L_law_322 : decode code 322 = .ok (.iload 4, 2) := by decide +kernel
theorem d_L_law_324 : decode code 324 = .ok (.iconst 1, 1) := by decide +kernel
theorem d_L_law_325 : decode code 325 = .ok (.iadd, 1) := by decide +kernel
theorem d_L_law_326 : decode code 326 = .ok (.iaload, 1) := by decide +kernel
theorem d_L_law_327 : decode code 327 = .ok (.aload_n 0, 1) := by decide +kernel
theorem d_L_law_328 : decode code 328 = .ok (.iload 4, 2) := by decide +kernel
theorem d_L_law_330 : decode code 330 = .ok (.iconst 2, 1) := by decide +kernel
theorem d_L_law_331 : decode code 331 = .ok (.iadd, 1) := by decide +kernel
theorem d_L_law_332 : decode code 332 = .ok (.iaload, 1) := by decide +kernel
theorem d_L_law_333 : decode code 333 = .ok (.aload_n 0, 1) := by decide +kernel
theorem d_L_law_334 : decode code 334 = .ok (.iload 4, 2) := by decide +kernel
theorem d_L_law_336 : decode code 336 = .ok (.iconst 3, 1) := by decide +kernel
theorem d_L_law_337 : decode code 337 = .ok (.iadd, 1) := by decide +kernel
theorem d_L_law_338 : decode code 338 = .ok (.iaload, 1) := by decide +kernel
theorem d_L_law_339 : decode code 339 = .ok (.aload_n 3, 1) := by decide +kernel
theorem d_L_law_340 : decode code 340 = .ok (.invokestatic 79, 3) := by decide +kernel
theorem d_L_law_343 : decode code 343 = .ok (.istore 5, 2) := by decide +kernel
theorem d_L_law_345 : decode code 345 = .ok (.aload_n 2, 1) := by decide +kernel
theorem d_L_law_346 : decode code 346 = .ok (.aload_n 0, 1) := by decide +kernel
theorem d_L_law_347 : decode code 347 = .ok (.iload 4, 2) := by decide +kernel
theorem d_L_law_349 : decode code 349 = .ok (.iconst 1, 1) := by decide +kernel
theorem d_L_law_350 : decode code 350 = .ok (.iadd, 1) := by decide +kernel
theorem d_L_law_351 : decode code 351 = .ok (.iaload, 1) := by decide +kernel
theorem d_L_law_352 : decode code 352 = .ok (.aload_n 0, 1) := by decide +kernel
theorem d_L_law_353 : decode code 353 = .ok (.iload 4, 2) := by decide +kernel
theorem d_L_law_355 : decode code 355 = .ok (.iconst 2, 1) := by decide +kernel
theorem d_L_law_356 : decode code 356 = .ok (.iadd, 1) := by decide +kernel
theorem d_L_law_357 : decode code 357 = .ok (.iaload, 1) := by decide +kernel
theorem d_L_law_358 : decode code 358 = .ok (.aload_n 0, 1) := by decide +kernel
theorem d_L_law_359 : decode code 359 = .ok (.iload 4, 2) := by decide +kernel
theorem d_L_law_361 : decode code 361 = .ok (.iconst 3, 1) := by decide +kernel
theorem d_L_law_362 : decode code 362 = .ok (.iadd, 1) := by decide +kernel
theorem d_L_law_363 : decode code 363 = .ok (.iaload, 1) := by decide +kernel
theorem d_L_law_364 : decode code 364 = .ok (.invokevirtual 82, 3) := by decide +kernel
theorem d_L_law_367 : decode code 367 = .ok (.istore 6, 2) := by decide +kernel
theorem d_L_law_369 : decode code 369 = .ok (.aload_n 2, 1) := by decide +kernel
theorem d_L_law_370 : decode code 370 = .ok (.invokevirtual 68, 3) := by decide +kernel
theorem d_L_law_373 : decode code 373 = .ok (.iload 5, 2) := by decide +kernel
theorem d_L_law_375 : decode code 375 = .ok (.if_icmp .eq 5, 3) := by decide +kernel
theorem d_L_law_378 : decode code 378 = .ok (.iconst 0, 1) := by decide +kernel
theorem d_L_law_379 : decode code 379 = .ok (.ireturn, 1) := by decide +kernel
theorem d_L_law_380 : decode code 380 = .ok (.iload 5, 2) := by decide +kernel
theorem d_L_law_382 : decode code 382 = .ok (.ifCond .ne 15, 3) := by decide +kernel
theorem d_L_law_385 : decode code 385 = .ok (.aload_n 3, 1) := by decide +kernel
theorem d_L_law_386 : decode code 386 = .ok (.iconst 0, 1) := by decide +kernel
theorem d_L_law_387 : decode code 387 = .ok (.laload, 1) := by decide +kernel
theorem d_L_law_388 : decode code 388 = .ok (.iload 6, 2) := by decide +kernel
theorem d_L_law_390 : decode code 390 = .ok (.i2l, 1) := by decide +kernel
theorem d_L_law_391 : decode code 391 = .ok (.lcmp, 1) := by decide +kernel
theorem d_L_law_392 : decode code 392 = .ok (.ifCond .eq 5, 3) := by decide +kernel
theorem d_L_law_395 : decode code 395 = .ok (.iconst 0, 1) := by decide +kernel
theorem d_L_law_396 : decode code 396 = .ok (.ireturn, 1) := by decide +kernel
theorem d_L_law_397 : decode code 397 = .ok (.goto 689, 3) := by decide +kernel
theorem d_L_law_400 : decode code 400 = .ok (.aload_n 1, 1) := by decide +kernel
theorem d_L_law_401 : decode code 401 = .ok (.aload_n 0, 1) := by decide +kernel
theorem d_L_law_402 : decode code 402 = .ok (.iload 4, 2) := by decide +kernel
theorem d_L_law_404 : decode code 404 = .ok (.iconst 1, 1) := by decide +kernel
theorem d_L_law_405 : decode code 405 = .ok (.iadd, 1) := by decide +kernel
theorem d_L_law_406 : decode code 406 = .ok (.iaload, 1) := by decide +kernel
theorem d_L_law_407 : decode code 407 = .ok (.aload_n 0, 1) := by decide +kernel
theorem d_L_law_408 : decode code 408 = .ok (.iload 4, 2) := by decide +kernel
theorem d_L_law_410 : decode code 410 = .ok (.iconst 2, 1) := by decide +kernel
theorem d_L_law_411 : decode code 411 = .ok (.iadd, 1) := by decide +kernel
theorem d_L_law_412 : decode code 412 = .ok (.iaload, 1) := by decide +kernel
theorem d_L_law_413 : decode code 413 = .ok (.aload_n 3, 1) := by decide +kernel
theorem d_L_law_414 : decode code 414 = .ok (.invokestatic 83, 3) := by decide +kernel
theorem d_L_law_417 : decode code 417 = .ok (.istore 5, 2) := by decide +kernel
theorem d_L_law_419 : decode code 419 = .ok (.aload_n 2, 1) := by decide +kernel
theorem d_L_law_420 : decode code 420 = .ok (.aload_n 0, 1) := by decide +kernel
theorem d_L_law_421 : decode code 421 = .ok (.iload 4, 2) := by decide +kernel
theorem d_L_law_423 : decode code 423 = .ok (.iconst 1, 1) := by decide +kernel
theorem d_L_law_424 : decode code 424 = .ok (.iadd, 1) := by decide +kernel
theorem d_L_law_425 : decode code 425 = .ok (.iaload, 1) := by decide +kernel
theorem d_L_law_426 : decode code 426 = .ok (.aload_n 0, 1) := by decide +kernel
theorem d_L_law_427 : decode code 427 = .ok (.iload 4, 2) := by decide +kernel
theorem d_L_law_429 : decode code 429 = .ok (.iconst 2, 1) := by decide +kernel
theorem d_L_law_430 : decode code 430 = .ok (.iadd, 1) := by decide +kernel
theorem d_L_law_431 : decode code 431 = .ok (.iaload, 1) := by decide +kernel
theorem d_L_law_432 : decode code 432 = .ok (.invokevirtual 85, 3) := by decide +kernel
theorem d_L_law_435 : decode code 435 = .ok (.istore 6, 2) := by decide +kernel
theorem d_L_law_437 : decode code 437 = .ok (.aload_n 2, 1) := by decide +kernel
theorem d_L_law_438 : decode code 438 = .ok (.invokevirtual 68, 3) := by decide +kernel
theorem d_L_law_441 : decode code 441 = .ok (.iload 5, 2) := by decide +kernel
theorem d_L_law_443 : decode code 443 = .ok (.if_icmp .eq 5, 3) := by decide +kernel
theorem d_L_law_446 : decode code 446 = .ok (.iconst 0, 1) := by decide +kernel
theorem d_L_law_447 : decode code 447 = .ok (.ireturn, 1) := by decide +kernel
theorem d_L_law_448 : decode code 448 = .ok (.iload 5, 2) := by decide +kernel
theorem d_L_law_450 : decode code 450 = .ok (.ifCond .ne 15, 3) := by decide +kernel
theorem d_L_law_453 : decode code 453 = .ok (.aload_n 3, 1) := by decide +kernel
theorem d_L_law_454 : decode code 454 = .ok (.iconst 0, 1) := by decide +kernel
theorem d_L_law_455 : decode code 455 = .ok (.laload, 1) := by decide +kernel
theorem d_L_law_456 : decode code 456 = .ok (.iload 6, 2) := by decide +kernel
theorem d_L_law_458 : decode code 458 = .ok (.i2l, 1) := by decide +kernel
theorem d_L_law_459 : decode code 459 = .ok (.lcmp, 1) := by decide +kernel
theorem d_L_law_460 : decode code 460 = .ok (.ifCond .eq 5, 3) := by decide +kernel
theorem d_L_law_463 : decode code 463 = .ok (.iconst 0, 1) := by decide +kernel
theorem d_L_law_464 : decode code 464 = .ok (.ireturn, 1) := by decide +kernel
theorem d_L_law_465 : decode code 465 = .ok (.goto 621, 3) := by decide +kernel
theorem d_L_law_468 : decode code 468 = .ok (.aload_n 1, 1) := by decide +kernel
theorem d_L_law_469 : decode code 469 = .ok (.aload_n 0, 1) := by decide +kernel
theorem d_L_law_470 : decode code 470 = .ok (.iload 4, 2) := by decide +kernel
theorem d_L_law_472 : decode code 472 = .ok (.iconst 1, 1) := by decide +kernel
theorem d_L_law_473 : decode code 473 = .ok (.iadd, 1) := by decide +kernel
theorem d_L_law_474 : decode code 474 = .ok (.iaload, 1) := by decide +kernel
theorem d_L_law_475 : decode code 475 = .ok (.aload_n 0, 1) := by decide +kernel
theorem d_L_law_476 : decode code 476 = .ok (.iload 4, 2) := by decide +kernel
theorem d_L_law_478 : decode code 478 = .ok (.iconst 2, 1) := by decide +kernel
theorem d_L_law_479 : decode code 479 = .ok (.iadd, 1) := by decide +kernel
theorem d_L_law_480 : decode code 480 = .ok (.iaload, 1) := by decide +kernel
theorem d_L_law_481 : decode code 481 = .ok (.aload_n 3, 1) := by decide +kernel
theorem d_L_law_482 : decode code 482 = .ok (.invokestatic 86, 3) := by decide +kernel
theorem d_L_law_485 : decode code 485 = .ok (.istore 5, 2) := by decide +kernel
theorem d_L_law_487 : decode code 487 = .ok (.aload_n 2, 1) := by decide +kernel
theorem d_L_law_488 : decode code 488 = .ok (.aload_n 0, 1) := by decide +kernel
theorem d_L_law_489 : decode code 489 = .ok (.iload 4, 2) := by decide +kernel
theorem d_L_law_491 : decode code 491 = .ok (.iconst 1, 1) := by decide +kernel
theorem d_L_law_492 : decode code 492 = .ok (.iadd, 1) := by decide +kernel
theorem d_L_law_493 : decode code 493 = .ok (.iaload, 1) := by decide +kernel
theorem d_L_law_494 : decode code 494 = .ok (.aload_n 0, 1) := by decide +kernel
theorem d_L_law_495 : decode code 495 = .ok (.iload 4, 2) := by decide +kernel
theorem d_L_law_497 : decode code 497 = .ok (.iconst 2, 1) := by decide +kernel
theorem d_L_law_498 : decode code 498 = .ok (.iadd, 1) := by decide +kernel
theorem d_L_law_499 : decode code 499 = .ok (.iaload, 1) := by decide +kernel
theorem d_L_law_500 : decode code 500 = .ok (.invokevirtual 88, 3) := by decide +kernel
theorem d_L_law_503 : decode code 503 = .ok (.istore 6, 2) := by decide +kernel
theorem d_L_law_505 : decode code 505 = .ok (.aload_n 2, 1) := by decide +kernel
theorem d_L_law_506 : decode code 506 = .ok (.invokevirtual 68, 3) := by decide +kernel
theorem d_L_law_509 : decode code 509 = .ok (.iload 5, 2) := by decide +kernel
theorem d_L_law_511 : decode code 511 = .ok (.if_icmp .eq 5, 3) := by decide +kernel
theorem d_L_law_514 : decode code 514 = .ok (.iconst 0, 1) := by decide +kernel
theorem d_L_law_515 : decode code 515 = .ok (.ireturn, 1) := by decide +kernel
theorem d_L_law_516 : decode code 516 = .ok (.iload 5, 2) := by decide +kernel
theorem d_L_law_518 : decode code 518 = .ok (.ifCond .ne 15, 3) := by decide +kernel
theorem d_L_law_521 : decode code 521 = .ok (.aload_n 3, 1) := by decide +kernel
theorem d_L_law_522 : decode code 522 = .ok (.iconst 0, 1) := by decide +kernel
theorem d_L_law_523 : decode code 523 = .ok (.laload, 1) := by decide +kernel
theorem d_L_law_524 : decode code 524 = .ok (.iload 6, 2) := by decide +kernel
theorem d_L_law_526 : decode code 526 = .ok (.i2l, 1) := by decide +kernel
theorem d_L_law_527 : decode code 527 = .ok (.lcmp, 1) := by decide +kernel
theorem d_L_law_528 : decode code 528 = .ok (.ifCond .eq 5, 3) := by decide +kernel
theorem d_L_law_531 : decode code 531 = .ok (.iconst 0, 1) := by decide +kernel
theorem d_L_law_532 : decode code 532 = .ok (.ireturn, 1) := by decide +kernel
theorem d_L_law_533 : decode code 533 = .ok (.goto 553, 3) := by decide +kernel
theorem d_L_law_536 : decode code 536 = .ok (.aload_n 1, 1) := by decide +kernel
theorem d_L_law_537 : decode code 537 = .ok (.aload_n 0, 1) := by decide +kernel
theorem d_L_law_538 : decode code 538 = .ok (.iload 4, 2) := by decide +kernel
theorem d_L_law_540 : decode code 540 = .ok (.iconst 1, 1) := by decide +kernel
theorem d_L_law_541 : decode code 541 = .ok (.iadd, 1) := by decide +kernel
theorem d_L_law_542 : decode code 542 = .ok (.iaload, 1) := by decide +kernel
theorem d_L_law_543 : decode code 543 = .ok (.aload_n 0, 1) := by decide +kernel
theorem d_L_law_544 : decode code 544 = .ok (.iload 4, 2) := by decide +kernel
theorem d_L_law_546 : decode code 546 = .ok (.iconst 2, 1) := by decide +kernel
theorem d_L_law_547 : decode code 547 = .ok (.iadd, 1) := by decide +kernel
theorem d_L_law_548 : decode code 548 = .ok (.iaload, 1) := by decide +kernel
theorem d_L_law_549 : decode code 549 = .ok (.aload_n 3, 1) := by decide +kernel
theorem d_L_law_550 : decode code 550 = .ok (.invokestatic 89, 3) := by decide +kernel
theorem d_L_law_553 : decode code 553 = .ok (.istore 5, 2) := by decide +kernel
theorem d_L_law_555 : decode code 555 = .ok (.aload_n 2, 1) := by decide +kernel
theorem d_L_law_556 : decode code 556 = .ok (.aload_n 0, 1) := by decide +kernel
theorem d_L_law_557 : decode code 557 = .ok (.iload 4, 2) := by decide +kernel
theorem d_L_law_559 : decode code 559 = .ok (.iconst 1, 1) := by decide +kernel
theorem d_L_law_560 : decode code 560 = .ok (.iadd, 1) := by decide +kernel
theorem d_L_law_561 : decode code 561 = .ok (.iaload, 1) := by decide +kernel
theorem d_L_law_562 : decode code 562 = .ok (.aload_n 0, 1) := by decide +kernel
theorem d_L_law_563 : decode code 563 = .ok (.iload 4, 2) := by decide +kernel
theorem d_L_law_565 : decode code 565 = .ok (.iconst 2, 1) := by decide +kernel
theorem d_L_law_566 : decode code 566 = .ok (.iadd, 1) := by decide +kernel
theorem d_L_law_567 : decode code 567 = .ok (.iaload, 1) := by decide +kernel
theorem d_L_law_568 : decode code 568 = .ok (.invokevirtual 91, 3) := by decide +kernel
theorem d_L_law_571 : decode code 571 = .ok (.istore 6, 2) := by decide +kernel
theorem d_L_law_573 : decode code 573 = .ok (.aload_n 2, 1) := by decide +kernel
theorem d_L_law_574 : decode code 574 = .ok (.invokevirtual 68, 3) := by decide +kernel
theorem d_L_law_577 : decode code 577 = .ok (.iload 5, 2) := by decide +kernel
theorem d_L_law_579 : decode code 579 = .ok (.if_icmp .eq 5, 3) := by decide +kernel
theorem d_L_law_582 : decode code 582 = .ok (.iconst 0, 1) := by decide +kernel
theorem d_L_law_583 : decode code 583 = .ok (.ireturn, 1) := by decide +kernel
theorem d_L_law_584 : decode code 584 = .ok (.iload 5, 2) := by decide +kernel
theorem d_L_law_586 : decode code 586 = .ok (.ifCond .ne 15, 3) := by decide +kernel
theorem d_L_law_589 : decode code 589 = .ok (.aload_n 3, 1) := by decide +kernel
theorem d_L_law_590 : decode code 590 = .ok (.iconst 0, 1) := by decide +kernel
theorem d_L_law_591 : decode code 591 = .ok (.laload, 1) := by decide +kernel
theorem d_L_law_592 : decode code 592 = .ok (.iload 6, 2) := by decide +kernel
theorem d_L_law_594 : decode code 594 = .ok (.i2l, 1) := by decide +kernel
theorem d_L_law_595 : decode code 595 = .ok (.lcmp, 1) := by decide +kernel
theorem d_L_law_596 : decode code 596 = .ok (.ifCond .eq 5, 3) := by decide +kernel
theorem d_L_law_599 : decode code 599 = .ok (.iconst 0, 1) := by decide +kernel
theorem d_L_law_600 : decode code 600 = .ok (.ireturn, 1) := by decide +kernel
theorem d_L_law_601 : decode code 601 = .ok (.goto 485, 3) := by decide +kernel
theorem d_L_law_604 : decode code 604 = .ok (.aload_n 1, 1) := by decide +kernel
theorem d_L_law_605 : decode code 605 = .ok (.aload_n 0, 1) := by decide +kernel
theorem d_L_law_606 : decode code 606 = .ok (.iload 4, 2) := by decide +kernel
theorem d_L_law_608 : decode code 608 = .ok (.iconst 1, 1) := by decide +kernel
theorem d_L_law_609 : decode code 609 = .ok (.iadd, 1) := by decide +kernel
theorem d_L_law_610 : decode code 610 = .ok (.iaload, 1) := by decide +kernel
theorem d_L_law_611 : decode code 611 = .ok (.aload_n 3, 1) := by decide +kernel
theorem d_L_law_612 : decode code 612 = .ok (.invokestatic 92, 3) := by decide +kernel
theorem d_L_law_615 : decode code 615 = .ok (.istore 5, 2) := by decide +kernel
theorem d_L_law_617 : decode code 617 = .ok (.aload_n 2, 1) := by decide +kernel
theorem d_L_law_618 : decode code 618 = .ok (.aload_n 0, 1) := by decide +kernel
theorem d_L_law_619 : decode code 619 = .ok (.iload 4, 2) := by decide +kernel
theorem d_L_law_621 : decode code 621 = .ok (.iconst 1, 1) := by decide +kernel
theorem d_L_law_622 : decode code 622 = .ok (.iadd, 1) := by decide +kernel
theorem d_L_law_623 : decode code 623 = .ok (.iaload, 1) := by decide +kernel
theorem d_L_law_624 : decode code 624 = .ok (.invokevirtual 94, 3) := by decide +kernel
theorem d_L_law_627 : decode code 627 = .ok (.istore 6, 2) := by decide +kernel
theorem d_L_law_629 : decode code 629 = .ok (.aload_n 2, 1) := by decide +kernel
theorem d_L_law_630 : decode code 630 = .ok (.invokevirtual 68, 3) := by decide +kernel
theorem d_L_law_633 : decode code 633 = .ok (.iload 5, 2) := by decide +kernel
theorem d_L_law_635 : decode code 635 = .ok (.if_icmp .eq 5, 3) := by decide +kernel
theorem d_L_law_638 : decode code 638 = .ok (.iconst 0, 1) := by decide +kernel
theorem d_L_law_639 : decode code 639 = .ok (.ireturn, 1) := by decide +kernel
theorem d_L_law_640 : decode code 640 = .ok (.iload 5, 2) := by decide +kernel
theorem d_L_law_642 : decode code 642 = .ok (.ifCond .ne 15, 3) := by decide +kernel
theorem d_L_law_645 : decode code 645 = .ok (.aload_n 3, 1) := by decide +kernel
theorem d_L_law_646 : decode code 646 = .ok (.iconst 0, 1) := by decide +kernel
theorem d_L_law_647 : decode code 647 = .ok (.laload, 1) := by decide +kernel
theorem d_L_law_648 : decode code 648 = .ok (.iload 6, 2) := by decide +kernel
theorem d_L_law_650 : decode code 650 = .ok (.i2l, 1) := by decide +kernel
theorem d_L_law_651 : decode code 651 = .ok (.lcmp, 1) := by decide +kernel
theorem d_L_law_652 : decode code 652 = .ok (.ifCond .eq 5, 3) := by decide +kernel
theorem d_L_law_655 : decode code 655 = .ok (.iconst 0, 1) := by decide +kernel
theorem d_L_law_656 : decode code 656 = .ok (.ireturn, 1) := by decide +kernel
theorem d_L_law_657 : decode code 657 = .ok (.goto 429, 3) := by decide +kernel
theorem d_L_law_660 : decode code 660 = .ok (.aload_n 1, 1) := by decide +kernel
theorem d_L_law_661 : decode code 661 = .ok (.invokevirtual 95, 3) := by decide +kernel
theorem d_L_law_664 : decode code 664 = .ok (.aload_n 2, 1) := by decide +kernel
theorem d_L_law_665 : decode code 665 = .ok (.invokevirtual 98, 3) := by decide +kernel
theorem d_L_law_668 : decode code 668 = .ok (.if_icmp .eq 418, 3) := by decide +kernel
theorem d_L_law_671 : decode code 671 = .ok (.iconst 0, 1) := by decide +kernel
theorem d_L_law_672 : decode code 672 = .ok (.ireturn, 1) := by decide +kernel
theorem d_L_law_673 : decode code 673 = .ok (.aload_n 1, 1) := by decide +kernel
theorem d_L_law_674 : decode code 674 = .ok (.invokevirtual 99, 3) := by decide +kernel
theorem d_L_law_677 : decode code 677 = .ok (.aload_n 2, 1) := by decide +kernel
theorem d_L_law_678 : decode code 678 = .ok (.invokevirtual 102, 3) := by decide +kernel
theorem d_L_law_681 : decode code 681 = .ok (.if_icmp .eq 405, 3) := by decide +kernel
theorem d_L_law_684 : decode code 684 = .ok (.iconst 0, 1) := by decide +kernel
theorem d_L_law_685 : decode code 685 = .ok (.ireturn, 1) := by decide +kernel
theorem d_L_law_686 : decode code 686 = .ok (.aload_n 1, 1) := by decide +kernel
theorem d_L_law_687 : decode code 687 = .ok (.invokevirtual 103, 3) := by decide +kernel
theorem d_L_law_690 : decode code 690 = .ok (.aload_n 2, 1) := by decide +kernel
theorem d_L_law_691 : decode code 691 = .ok (.invokevirtual 106, 3) := by decide +kernel
theorem d_L_law_694 : decode code 694 = .ok (.if_icmp .eq 392, 3) := by decide +kernel
theorem d_L_law_697 : decode code 697 = .ok (.iconst 0, 1) := by decide +kernel
theorem d_L_law_698 : decode code 698 = .ok (.ireturn, 1) := by decide +kernel
theorem d_L_law_699 : decode code 699 = .ok (.aload_n 1, 1) := by decide +kernel
theorem d_L_law_700 : decode code 700 = .ok (.aload_n 0, 1) := by decide +kernel
theorem d_L_law_701 : decode code 701 = .ok (.iload 4, 2) := by decide +kernel
theorem d_L_law_703 : decode code 703 = .ok (.iconst 1, 1) := by decide +kernel
theorem d_L_law_704 : decode code 704 = .ok (.iadd, 1) := by decide +kernel
theorem d_L_law_705 : decode code 705 = .ok (.iaload, 1) := by decide +kernel
theorem d_L_law_706 : decode code 706 = .ok (.aload_n 3, 1) := by decide +kernel
theorem d_L_law_707 : decode code 707 = .ok (.invokestatic 107, 3) := by decide +kernel
theorem d_L_law_710 : decode code 710 = .ok (.istore 5, 2) := by decide +kernel
theorem d_L_law_712 : decode code 712 = .ok (.aload_n 2, 1) := by decide +kernel
theorem d_L_law_713 : decode code 713 = .ok (.aload_n 0, 1) := by decide +kernel
theorem d_L_law_714 : decode code 714 = .ok (.iload 4, 2) := by decide +kernel
theorem d_L_law_716 : decode code 716 = .ok (.iconst 1, 1) := by decide +kernel
theorem d_L_law_717 : decode code 717 = .ok (.iadd, 1) := by decide +kernel
theorem d_L_law_718 : decode code 718 = .ok (.iaload, 1) := by decide +kernel
theorem d_L_law_719 : decode code 719 = .ok (.invokevirtual 109, 3) := by decide +kernel
theorem d_L_law_722 : decode code 722 = .ok (.istore 6, 2) := by decide +kernel
theorem d_L_law_724 : decode code 724 = .ok (.aload_n 2, 1) := by decide +kernel
theorem d_L_law_725 : decode code 725 = .ok (.invokevirtual 68, 3) := by decide +kernel
theorem d_L_law_728 : decode code 728 = .ok (.iload 5, 2) := by decide +kernel
theorem d_L_law_730 : decode code 730 = .ok (.if_icmp .eq 5, 3) := by decide +kernel
theorem d_L_law_733 : decode code 733 = .ok (.iconst 0, 1) := by decide +kernel
theorem d_L_law_734 : decode code 734 = .ok (.ireturn, 1) := by decide +kernel
theorem d_L_law_735 : decode code 735 = .ok (.iload 5, 2) := by decide +kernel
theorem d_L_law_737 : decode code 737 = .ok (.ifCond .ne 15, 3) := by decide +kernel
theorem d_L_law_740 : decode code 740 = .ok (.aload_n 3, 1) := by decide +kernel
theorem d_L_law_741 : decode code 741 = .ok (.iconst 0, 1) := by decide +kernel
theorem d_L_law_742 : decode code 742 = .ok (.laload, 1) := by decide +kernel
theorem d_L_law_743 : decode code 743 = .ok (.iload 6, 2) := by decide +kernel
theorem d_L_law_745 : decode code 745 = .ok (.i2l, 1) := by decide +kernel
theorem d_L_law_746 : decode code 746 = .ok (.lcmp, 1) := by decide +kernel
theorem d_L_law_747 : decode code 747 = .ok (.ifCond .eq 5, 3) := by decide +kernel
theorem d_L_law_750 : decode code 750 = .ok (.iconst 0, 1) := by decide +kernel
theorem d_L_law_751 : decode code 751 = .ok (.ireturn, 1) := by decide +kernel
theorem d_L_law_752 : decode code 752 = .ok (.goto 334, 3) := by decide +kernel
theorem d_L_law_755 : decode code 755 = .ok (.aload_n 1, 1) := by decide +kernel
theorem d_L_law_756 : decode code 756 = .ok (.aload_n 0, 1) := by decide +kernel
theorem d_L_law_757 : decode code 757 = .ok (.iload 4, 2) := by decide +kernel
theorem d_L_law_759 : decode code 759 = .ok (.iconst 1, 1) := by decide +kernel
theorem d_L_law_760 : decode code 760 = .ok (.iadd, 1) := by decide +kernel
theorem d_L_law_761 : decode code 761 = .ok (.iaload, 1) := by decide +kernel
theorem d_L_law_762 : decode code 762 = .ok (.aload_n 0, 1) := by decide +kernel
theorem d_L_law_763 : decode code 763 = .ok (.iload 4, 2) := by decide +kernel
theorem d_L_law_765 : decode code 765 = .ok (.iconst 2, 1) := by decide +kernel
theorem d_L_law_766 : decode code 766 = .ok (.iadd, 1) := by decide +kernel
theorem d_L_law_767 : decode code 767 = .ok (.iaload, 1) := by decide +kernel
theorem d_L_law_768 : decode code 768 = .ok (.ifCond .eq 7, 3) := by decide +kernel
theorem d_L_law_771 : decode code 771 = .ok (.iconst 1, 1) := by decide +kernel
theorem d_L_law_772 : decode code 772 = .ok (.goto 4, 3) := by decide +kernel
theorem d_L_law_775 : decode code 775 = .ok (.iconst 0, 1) := by decide +kernel
theorem d_L_law_776 : decode code 776 = .ok (.aload_n 3, 1) := by decide +kernel
theorem d_L_law_777 : decode code 777 = .ok (.invokestatic 110, 3) := by decide +kernel
theorem d_L_law_780 : decode code 780 = .ok (.istore 5, 2) := by decide +kernel
theorem d_L_law_782 : decode code 782 = .ok (.aload_n 2, 1) := by decide +kernel
theorem d_L_law_783 : decode code 783 = .ok (.aload_n 0, 1) := by decide +kernel
theorem d_L_law_784 : decode code 784 = .ok (.iload 4, 2) := by decide +kernel
theorem d_L_law_786 : decode code 786 = .ok (.iconst 1, 1) := by decide +kernel
theorem d_L_law_787 : decode code 787 = .ok (.iadd, 1) := by decide +kernel
theorem d_L_law_788 : decode code 788 = .ok (.iaload, 1) := by decide +kernel
theorem d_L_law_789 : decode code 789 = .ok (.aload_n 0, 1) := by decide +kernel
theorem d_L_law_790 : decode code 790 = .ok (.iload 4, 2) := by decide +kernel
theorem d_L_law_792 : decode code 792 = .ok (.iconst 2, 1) := by decide +kernel
theorem d_L_law_793 : decode code 793 = .ok (.iadd, 1) := by decide +kernel
theorem d_L_law_794 : decode code 794 = .ok (.iaload, 1) := by decide +kernel
theorem d_L_law_795 : decode code 795 = .ok (.ifCond .eq 7, 3) := by decide +kernel
theorem d_L_law_798 : decode code 798 = .ok (.iconst 1, 1) := by decide +kernel
theorem d_L_law_799 : decode code 799 = .ok (.goto 4, 3) := by decide +kernel
theorem d_L_law_802 : decode code 802 = .ok (.iconst 0, 1) := by decide +kernel
theorem d_L_law_803 : decode code 803 = .ok (.invokevirtual 113, 3) := by decide +kernel
theorem d_L_law_806 : decode code 806 = .ok (.istore 6, 2) := by decide +kernel
theorem d_L_law_808 : decode code 808 = .ok (.aload_n 2, 1) := by decide +kernel
theorem d_L_law_809 : decode code 809 = .ok (.invokevirtual 68, 3) := by decide +kernel
theorem d_L_law_812 : decode code 812 = .ok (.iload 5, 2) := by decide +kernel
theorem d_L_law_814 : decode code 814 = .ok (.if_icmp .eq 5, 3) := by decide +kernel
theorem d_L_law_817 : decode code 817 = .ok (.iconst 0, 1) := by decide +kernel
theorem d_L_law_818 : decode code 818 = .ok (.ireturn, 1) := by decide +kernel
theorem d_L_law_819 : decode code 819 = .ok (.iload 5, 2) := by decide +kernel
theorem d_L_law_821 : decode code 821 = .ok (.ifCond .ne 15, 3) := by decide +kernel
theorem d_L_law_824 : decode code 824 = .ok (.aload_n 3, 1) := by decide +kernel
theorem d_L_law_825 : decode code 825 = .ok (.iconst 0, 1) := by decide +kernel
theorem d_L_law_826 : decode code 826 = .ok (.laload, 1) := by decide +kernel
theorem d_L_law_827 : decode code 827 = .ok (.iload 6, 2) := by decide +kernel
theorem d_L_law_829 : decode code 829 = .ok (.i2l, 1) := by decide +kernel
theorem d_L_law_830 : decode code 830 = .ok (.lcmp, 1) := by decide +kernel
theorem d_L_law_831 : decode code 831 = .ok (.ifCond .eq 5, 3) := by decide +kernel
theorem d_L_law_834 : decode code 834 = .ok (.iconst 0, 1) := by decide +kernel
theorem d_L_law_835 : decode code 835 = .ok (.ireturn, 1) := by decide +kernel
theorem d_L_law_836 : decode code 836 = .ok (.goto 250, 3) := by decide +kernel
theorem d_L_law_839 : decode code 839 = .ok (.aload_n 1, 1) := by decide +kernel
theorem d_L_law_840 : decode code 840 = .ok (.aload_n 0, 1) := by decide +kernel
theorem d_L_law_841 : decode code 841 = .ok (.iload 4, 2) := by decide +kernel
theorem d_L_law_843 : decode code 843 = .ok (.iconst 1, 1) := by decide +kernel
theorem d_L_law_844 : decode code 844 = .ok (.iadd, 1) := by decide +kernel
theorem d_L_law_845 : decode code 845 = .ok (.iaload, 1) := by decide +kernel
theorem d_L_law_846 : decode code 846 = .ok (.aload_n 0, 1) := by decide +kernel
theorem d_L_law_847 : decode code 847 = .ok (.iload 4, 2) := by decide +kernel
theorem d_L_law_849 : decode code 849 = .ok (.iconst 2, 1) := by decide +kernel
theorem d_L_law_850 : decode code 850 = .ok (.iadd, 1) := by decide +kernel
theorem d_L_law_851 : decode code 851 = .ok (.iaload, 1) := by decide +kernel
theorem d_L_law_852 : decode code 852 = .ok (.aload_n 3, 1) := by decide +kernel
theorem d_L_law_853 : decode code 853 = .ok (.invokestatic 114, 3) := by decide +kernel
theorem d_L_law_856 : decode code 856 = .ok (.istore 5, 2) := by decide +kernel
theorem d_L_law_858 : decode code 858 = .ok (.aload_n 2, 1) := by decide +kernel
theorem d_L_law_859 : decode code 859 = .ok (.aload_n 0, 1) := by decide +kernel
theorem d_L_law_860 : decode code 860 = .ok (.iload 4, 2) := by decide +kernel
theorem d_L_law_862 : decode code 862 = .ok (.iconst 1, 1) := by decide +kernel
theorem d_L_law_863 : decode code 863 = .ok (.iadd, 1) := by decide +kernel
theorem d_L_law_864 : decode code 864 = .ok (.iaload, 1) := by decide +kernel
theorem d_L_law_865 : decode code 865 = .ok (.aload_n 0, 1) := by decide +kernel
theorem d_L_law_866 : decode code 866 = .ok (.iload 4, 2) := by decide +kernel
theorem d_L_law_868 : decode code 868 = .ok (.iconst 2, 1) := by decide +kernel
theorem d_L_law_869 : decode code 869 = .ok (.iadd, 1) := by decide +kernel
theorem d_L_law_870 : decode code 870 = .ok (.iaload, 1) := by decide +kernel
theorem d_L_law_871 : decode code 871 = .ok (.invokevirtual 116, 3) := by decide +kernel
