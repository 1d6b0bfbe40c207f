/-! what stands where: W -/
theorem d_W_init_0 : decode prog_5_method_1_code 0 = .ok (.aload_n 0, 1) := by decide +kernel
theorem d_W_init_1 : decode prog_5_method_1_code 1 = .ok (.invokespecial 3, 3) := by decide +kernel
theorem d_W_init_4 : decode prog_5_method_1_code 4 = .ok (.aload_n 0, 1) := by decide +kernel
theorem d_W_init_5 : decode prog_5_method_1_code 5 = .ok (.bipush 8, 2) := by decide +kernel
theorem d_W_init_7 : decode prog_5_method_1_code 7 = .ok (.newarray .int, 2) := by decide +kernel
theorem d_W_init_9 : decode prog_5_method_1_code 9 = .ok (.putfield 9, 3) := by decide +kernel
theorem d_W_init_12 : decode prog_5_method_1_code 12 = .ok (.aload_n 0, 1) := by decide +kernel
theorem d_W_init_13 : decode prog_5_method_1_code 13 = .ok (.bipush 8, 2) := by decide +kernel
theorem d_W_init_15 : decode prog_5_method_1_code 15 = .ok (.bipush 8, 2) := by decide +kernel
theorem d_W_init_17 : decode prog_5_method_1_code 17 = .ok (.multianewarray 15 2, 4) := by decide +kernel
theorem d_W_init_21 : decode prog_5_method_1_code 21 = .ok (.putfield 17, 3) := by decide +kernel
theorem d_W_init_24 : decode prog_5_method_1_code 24 = .ok (.aload_n 0, 1) := by decide +kernel
theorem d_W_init_25 : decode prog_5_method_1_code 25 = .ok (.bipush 8, 2) := by decide +kernel
theorem d_W_init_27 : decode prog_5_method_1_code 27 = .ok (.bipush 8, 2) := by decide +kernel
theorem d_W_init_29 : decode prog_5_method_1_code 29 = .ok (.multianewarray 15 2, 4) := by decide +kernel
theorem d_W_init_33 : decode prog_5_method_1_code 33 = .ok (.putfield 20, 3) := by decide +kernel
theorem d_W_init_36 : decode prog_5_method_1_code 36 = .ok (.aload_n 0, 1) := by decide +kernel
theorem d_W_init_37 : decode prog_5_method_1_code 37 = .ok (.bipush 8, 2) := by decide +kernel
theorem d_W_init_39 : decode prog_5_method_1_code 39 = .ok (.bipush 8, 2) := by decide +kernel
theorem d_W_init_41 : decode prog_5_method_1_code 41 = .ok (.multianewarray 15 2, 4) := by decide +kernel
theorem d_W_init_45 : decode prog_5_method_1_code 45 = .ok (.putfield 23, 3) := by decide +kernel
theorem d_W_init_48 : decode prog_5_method_1_code 48 = .ok (.return_, 1) := by decide +kernel
theorem d_W_count_0 : decode prog_5_method_2_code 0 = .ok (.aload_n 0, 1) := by decide +kernel
theorem d_W_count_1 : decode prog_5_method_2_code 1 = .ok (.getfield 26, 3) := by decide +kernel
theorem d_W_count_4 : decode prog_5_method_2_code 4 = .ok (.ireturn, 1) := by decide +kernel
theorem d_W_changes_0 : decode prog_5_method_3_code 0 = .ok (.aload_n 0, 1) := by decide +kernel
theorem d_W_changes_1 : decode prog_5_method_3_code 1 = .ok (.getfield 30, 3) := by decide +kernel
theorem d_W_changes_4 : decode prog_5_method_3_code 4 = .ok (.ireturn, 1) := by decide +kernel
theorem d_W_length_0 : decode prog_5_method_4_code 0 = .ok (.aload_n 0, 1) := by decide +kernel
theorem d_W_length_1 : decode prog_5_method_4_code 1 = .ok (.getfield 9, 3) := by decide +kernel
theorem d_W_length_4 : decode prog_5_method_4_code 4 = .ok (.iload_n 1, 1) := by decide +kernel
theorem d_W_length_5 : decode prog_5_method_4_code 5 = .ok (.iaload, 1) := by decide +kernel
theorem d_W_length_6 : decode prog_5_method_4_code 6 = .ok (.ireturn, 1) := by decide +kernel
theorem d_W_otherAt_0 : decode prog_5_method_5_code 0 = .ok (.aload_n 0, 1) := by decide +kernel
theorem d_W_otherAt_1 : decode prog_5_method_5_code 1 = .ok (.getfield 17, 3) := by decide +kernel
theorem d_W_otherAt_4 : decode prog_5_method_5_code 4 = .ok (.iload_n 1, 1) := by decide +kernel
theorem d_W_otherAt_5 : decode prog_5_method_5_code 5 = .ok (.aaload, 1) := by decide +kernel
theorem d_W_otherAt_6 : decode prog_5_method_5_code 6 = .ok (.iload_n 2, 1) := by decide +kernel
theorem d_W_otherAt_7 : decode prog_5_method_5_code 7 = .ok (.iaload, 1) := by decide +kernel
theorem d_W_otherAt_8 : decode prog_5_method_5_code 8 = .ok (.ireturn, 1) := by decide +kernel
theorem d_W_placeOf_0 : decode prog_5_method_6_code 0 = .ok (.aload_n 0, 1) := by decide +kernel
theorem d_W_placeOf_1 : decode prog_5_method_6_code 1 = .ok (.getfield 20, 3) := by decide +kernel
theorem d_W_placeOf_4 : decode prog_5_method_6_code 4 = .ok (.iload_n 1, 1) := by decide +kernel
theorem d_W_placeOf_5 : decode prog_5_method_6_code 5 = .ok (.aaload, 1) := by decide +kernel
theorem d_W_placeOf_6 : decode prog_5_method_6_code 6 = .ok (.iload_n 2, 1) := by decide +kernel
theorem d_W_placeOf_7 : decode prog_5_method_6_code 7 = .ok (.iaload, 1) := by decide +kernel
theorem d_W_placeOf_8 : decode prog_5_method_6_code 8 = .ok (.ireturn, 1) := by decide +kernel
theorem d_W_clear_0 : decode prog_5_method_7_code 0 = .ok (.aload_n 0, 1) := by decide +kernel
theorem d_W_clear_1 : decode prog_5_method_7_code 1 = .ok (.iload_n 1, 1) := by decide +kernel
theorem d_W_clear_2 : decode prog_5_method_7_code 2 = .ok (.putfield 26, 3) := by decide +kernel
theorem d_W_clear_5 : decode prog_5_method_7_code 5 = .ok (.iconst 0, 1) := by decide +kernel
theorem d_W_clear_6 : decode prog_5_method_7_code 6 = .ok (.istore_n 2, 1) := by decide +kernel
theorem d_W_clear_7 : decode prog_5_method_7_code 7 = .ok (.iload_n 2, 1) := by decide +kernel
theorem d_W_clear_8 : decode prog_5_method_7_code 8 = .ok (.bipush 8, 2) := by decide +kernel
theorem d_W_clear_10 : decode prog_5_method_7_code 10 = .ok (.if_icmp .ge 59, 3) := by decide +kernel
theorem d_W_clear_13 : decode prog_5_method_7_code 13 = .ok (.aload_n 0, 1) := by decide +kernel
theorem d_W_clear_14 : decode prog_5_method_7_code 14 = .ok (.getfield 9, 3) := by decide +kernel
theorem d_W_clear_17 : decode prog_5_method_7_code 17 = .ok (.iload_n 2, 1) := by decide +kernel
theorem d_W_clear_18 : decode prog_5_method_7_code 18 = .ok (.iconst 0, 1) := by decide +kernel
theorem d_W_clear_19 : decode prog_5_method_7_code 19 = .ok (.iastore, 1) := by decide +kernel
theorem d_W_clear_20 : decode prog_5_method_7_code 20 = .ok (.iconst 0, 1) := by decide +kernel
theorem d_W_clear_21 : decode prog_5_method_7_code 21 = .ok (.istore_n 3, 1) := by decide +kernel
theorem d_W_clear_22 : decode prog_5_method_7_code 22 = .ok (.iload_n 3, 1) := by decide +kernel
theorem d_W_clear_23 : decode prog_5_method_7_code 23 = .ok (.bipush 8, 2) := by decide +kernel
theorem d_W_clear_25 : decode prog_5_method_7_code 25 = .ok (.if_icmp .ge 38, 3) := by decide +kernel
theorem d_W_clear_28 : decode prog_5_method_7_code 28 = .ok (.aload_n 0, 1) := by decide +kernel
theorem d_W_clear_29 : decode prog_5_method_7_code 29 = .ok (.getfield 20, 3) := by decide +kernel
theorem d_W_clear_32 : decode prog_5_method_7_code 32 = .ok (.iload_n 2, 1) := by decide +kernel
theorem d_W_clear_33 : decode prog_5_method_7_code 33 = .ok (.aaload, 1) := by decide +kernel
theorem d_W_clear_34 : decode prog_5_method_7_code 34 = .ok (.iload_n 3, 1) := by decide +kernel
theorem d_W_clear_35 : decode prog_5_method_7_code 35 = .ok (.iconst (-1), 1) := by decide +kernel
theorem d_W_clear_36 : decode prog_5_method_7_code 36 = .ok (.iastore, 1) := by decide +kernel
theorem d_W_clear_37 : decode prog_5_method_7_code 37 = .ok (.aload_n 0, 1) := by decide +kernel
theorem d_W_clear_38 : decode prog_5_method_7_code 38 = .ok (.getfield 23, 3) := by decide +kernel
theorem d_W_clear_41 : decode prog_5_method_7_code 41 = .ok (.iload_n 2, 1) := by decide +kernel
theorem d_W_clear_42 : decode prog_5_method_7_code 42 = .ok (.aaload, 1) := by decide +kernel
theorem d_W_clear_43 : decode prog_5_method_7_code 43 = .ok (.iload_n 3, 1) := by decide +kernel
theorem d_W_clear_44 : decode prog_5_method_7_code 44 = .ok (.iload_n 2, 1) := by decide +kernel
theorem d_W_clear_45 : decode prog_5_method_7_code 45 = .ok (.iload_n 3, 1) := by decide +kernel
theorem d_W_clear_46 : decode prog_5_method_7_code 46 = .ok (.if_icmp .ne 8, 3) := by decide +kernel
theorem d_W_clear_49 : decode prog_5_method_7_code 49 = .ok (.bipush 8, 2) := by decide +kernel
theorem d_W_clear_51 : decode prog_5_method_7_code 51 = .ok (.goto 5, 3) := by decide +kernel
theorem d_W_clear_54 : decode prog_5_method_7_code 54 = .ok (.bipush 9, 2) := by decide +kernel
theorem d_W_clear_56 : decode prog_5_method_7_code 56 = .ok (.iastore, 1) := by decide +kernel
theorem d_W_clear_57 : decode prog_5_method_7_code 57 = .ok (.iinc 3 1, 3) := by decide +kernel
theorem d_W_clear_60 : decode prog_5_method_7_code 60 = .ok (.goto (-38), 3) := by decide +kernel
theorem d_W_clear_63 : decode prog_5_method_7_code 63 = .ok (.iinc 2 1, 3) := by decide +kernel
theorem d_W_clear_66 : decode prog_5_method_7_code 66 = .ok (.goto (-59), 3) := by decide +kernel
theorem d_W_clear_69 : decode prog_5_method_7_code 69 = .ok (.aload_n 0, 1) := by decide +kernel
theorem d_W_clear_70 : decode prog_5_method_7_code 70 = .ok (.dup, 1) := by decide +kernel
theorem d_W_clear_71 : decode prog_5_method_7_code 71 = .ok (.getfield 30, 3) := by decide +kernel
theorem d_W_clear_74 : decode prog_5_method_7_code 74 = .ok (.iconst 1, 1) := by decide +kernel
theorem d_W_clear_75 : decode prog_5_method_7_code 75 = .ok (.iadd, 1) := by decide +kernel
theorem d_W_clear_76 : decode prog_5_method_7_code 76 = .ok (.putfield 30, 3) := by decide +kernel
theorem d_W_clear_79 : decode prog_5_method_7_code 79 = .ok (.return_, 1) := by decide +kernel
theorem d_W_append_0 : decode prog_5_method_8_code 0 = .ok (.aload_n 0, 1) := by decide +kernel
theorem d_W_append_1 : decode prog_5_method_8_code 1 = .ok (.getfield 9, 3) := by decide +kernel
theorem d_W_append_4 : decode prog_5_method_8_code 4 = .ok (.iload_n 1, 1) := by decide +kernel
theorem d_W_append_5 : decode prog_5_method_8_code 5 = .ok (.iaload, 1) := by decide +kernel
theorem d_W_append_6 : decode prog_5_method_8_code 6 = .ok (.istore_n 3, 1) := by decide +kernel
theorem d_W_append_7 : decode prog_5_method_8_code 7 = .ok (.aload_n 0, 1) := by decide +kernel
theorem d_W_append_8 : decode prog_5_method_8_code 8 = .ok (.getfield 9, 3) := by decide +kernel
theorem d_W_append_11 : decode prog_5_method_8_code 11 = .ok (.iload_n 1, 1) := by decide +kernel
theorem d_W_append_12 : decode prog_5_method_8_code 12 = .ok (.iload_n 3, 1) := by decide +kernel
theorem d_W_append_13 : decode prog_5_method_8_code 13 = .ok (.iconst 1, 1) := by decide +kernel
theorem d_W_append_14 : decode prog_5_method_8_code 14 = .ok (.iadd, 1) := by decide +kernel
theorem d_W_append_15 : decode prog_5_method_8_code 15 = .ok (.iastore, 1) := by decide +kernel
theorem d_W_append_16 : decode prog_5_method_8_code 16 = .ok (.aload_n 0, 1) := by decide +kernel
theorem d_W_append_17 : decode prog_5_method_8_code 17 = .ok (.iload_n 1, 1) := by decide +kernel
theorem d_W_append_18 : decode prog_5_method_8_code 18 = .ok (.iload_n 3, 1) := by decide +kernel
theorem d_W_append_19 : decode prog_5_method_8_code 19 = .ok (.iload_n 2, 1) := by decide +kernel
theorem d_W_append_20 : decode prog_5_method_8_code 20 = .ok (.invokevirtual 33, 3) := by decide +kernel
theorem d_W_append_23 : decode prog_5_method_8_code 23 = .ok (.aload_n 0, 1) := by decide +kernel
theorem d_W_append_24 : decode prog_5_method_8_code 24 = .ok (.iload_n 1, 1) := by decide +kernel
theorem d_W_append_25 : decode prog_5_method_8_code 25 = .ok (.invokevirtual 37, 3) := by decide +kernel
theorem d_W_append_28 : decode prog_5_method_8_code 28 = .ok (.return_, 1) := by decide +kernel
theorem d_W_cut_0 : decode prog_5_method_9_code 0 = .ok (.aload_n 0, 1) := by decide +kernel
theorem d_W_cut_1 : decode prog_5_method_9_code 1 = .ok (.getfield 9, 3) := by decide +kernel
theorem d_W_cut_4 : decode prog_5_method_9_code 4 = .ok (.iload_n 1, 1) := by decide +kernel
theorem d_W_cut_5 : decode prog_5_method_9_code 5 = .ok (.iaload, 1) := by decide +kernel
theorem d_W_cut_6 : decode prog_5_method_9_code 6 = .ok (.iconst 1, 1) := by decide +kernel
theorem d_W_cut_7 : decode prog_5_method_9_code 7 = .ok (.isub, 1) := by decide +kernel
theorem d_W_cut_8 : decode prog_5_method_9_code 8 = .ok (.istore_n 3, 1) := by decide +kernel
theorem d_W_cut_9 : decode prog_5_method_9_code 9 = .ok (.aload_n 0, 1) := by decide +kernel
theorem d_W_cut_10 : decode prog_5_method_9_code 10 = .ok (.getfield 17, 3) := by decide +kernel
theorem d_W_cut_13 : decode prog_5_method_9_code 13 = .ok (.iload_n 1, 1) := by decide +kernel
theorem d_W_cut_14 : decode prog_5_method_9_code 14 = .ok (.aaload, 1) := by decide +kernel
theorem d_W_cut_15 : decode prog_5_method_9_code 15 = .ok (.iload_n 2, 1) := by decide +kernel
theorem d_W_cut_16 : decode prog_5_method_9_code 16 = .ok (.iaload, 1) := by decide +kernel
theorem d_W_cut_17 : decode prog_5_method_9_code 17 = .ok (.istore 4, 2) := by decide +kernel
theorem d_W_cut_19 : decode prog_5_method_9_code 19 = .ok (.aload_n 0, 1) := by decide +kernel
theorem d_W_cut_20 : decode prog_5_method_9_code 20 = .ok (.iload_n 1, 1) := by decide +kernel
theorem d_W_cut_21 : decode prog_5_method_9_code 21 = .ok (.iload_n 2, 1) := by decide +kernel
theorem d_W_cut_22 : decode prog_5_method_9_code 22 = .ok (.iload_n 3, 1) := by decide +kernel
theorem d_W_cut_23 : decode prog_5_method_9_code 23 = .ok (.invokevirtual 41, 3) := by decide +kernel
theorem d_W_cut_26 : decode prog_5_method_9_code 26 = .ok (.aload_n 0, 1) := by decide +kernel
theorem d_W_cut_27 : decode prog_5_method_9_code 27 = .ok (.getfield 9, 3) := by decide +kernel
theorem d_W_cut_30 : decode prog_5_method_9_code 30 = .ok (.iload_n 1, 1) := by decide +kernel
theorem d_W_cut_31 : decode prog_5_method_9_code 31 = .ok (.iload_n 3, 1) := by decide +kernel
theorem d_W_cut_32 : decode prog_5_method_9_code 32 = .ok (.iastore, 1) := by decide +kernel
theorem d_W_cut_33 : decode prog_5_method_9_code 33 = .ok (.aload_n 0, 1) := by decide +kernel
theorem d_W_cut_34 : decode prog_5_method_9_code 34 = .ok (.getfield 20, 3) := by decide +kernel
theorem d_W_cut_37 : decode prog_5_method_9_code 37 = .ok (.iload_n 1, 1) := by decide +kernel
theorem d_W_cut_38 : decode prog_5_method_9_code 38 = .ok (.aaload, 1) := by decide +kernel
theorem d_W_cut_39 : decode prog_5_method_9_code 39 = .ok (.iload 4, 2) := by decide +kernel
theorem d_W_cut_41 : decode prog_5_method_9_code 41 = .ok (.iconst (-1), 1) := by decide +kernel
theorem d_W_cut_42 : decode prog_5_method_9_code 42 = .ok (.iastore, 1) := by decide +kernel
theorem d_W_cut_43 : decode prog_5_method_9_code 43 = .ok (.aload_n 0, 1) := by decide +kernel
theorem d_W_cut_44 : decode prog_5_method_9_code 44 = .ok (.iload_n 1, 1) := by decide +kernel
theorem d_W_cut_45 : decode prog_5_method_9_code 45 = .ok (.invokevirtual 37, 3) := by decide +kernel
theorem d_W_cut_48 : decode prog_5_method_9_code 48 = .ok (.return_, 1) := by decide +kernel
theorem d_W_shift_0 : decode prog_5_method_10_code 0 = .ok (.aload_n 0, 1) := by decide +kernel
theorem d_W_shift_1 : decode prog_5_method_10_code 1 = .ok (.iload_n 1, 1) := by decide +kernel
theorem d_W_shift_2 : decode prog_5_method_10_code 2 = .ok (.iload_n 2, 1) := by decide +kernel
theorem d_W_shift_3 : decode prog_5_method_10_code 3 = .ok (.iload_n 3, 1) := by decide +kernel
theorem d_W_shift_4 : decode prog_5_method_10_code 4 = .ok (.invokevirtual 41, 3) := by decide +kernel
theorem d_W_shift_7 : decode prog_5_method_10_code 7 = .ok (.aload_n 0, 1) := by decide +kernel
theorem d_W_shift_8 : decode prog_5_method_10_code 8 = .ok (.iload_n 1, 1) := by decide +kernel
theorem d_W_shift_9 : decode prog_5_method_10_code 9 = .ok (.invokevirtual 37, 3) := by decide +kernel
theorem d_W_shift_12 : decode prog_5_method_10_code 12 = .ok (.return_, 1) := by decide +kernel
theorem d_W_slide_0 : decode prog_5_method_11_code 0 = .ok (.aload_n 0, 1) := by decide +kernel
theorem d_W_slide_1 : decode prog_5_method_11_code 1 = .ok (.getfield 17, 3) := by decide +kernel
theorem d_W_slide_4 : decode prog_5_method_11_code 4 = .ok (.iload_n 1, 1) := by decide +kernel
theorem d_W_slide_5 : decode prog_5_method_11_code 5 = .ok (.aaload, 1) := by decide +kernel
theorem d_W_slide_6 : decode prog_5_method_11_code 6 = .ok (.iload_n 2, 1) := by decide +kernel
theorem d_W_slide_7 : decode prog_5_method_11_code 7 = .ok (.iaload, 1) := by decide +kernel
theorem d_W_slide_8 : decode prog_5_method_11_code 8 = .ok (.istore 4, 2) := by decide +kernel
theorem d_W_slide_10 : decode prog_5_method_11_code 10 = .ok (.iload_n 2, 1) := by decide +kernel
theorem d_W_slide_11 : decode prog_5_method_11_code 11 = .ok (.istore 5, 2) := by decide +kernel
theorem d_W_slide_13 : decode prog_5_method_11_code 13 = .ok (.iload 5, 2) := by decide +kernel
theorem d_W_slide_15 : decode prog_5_method_11_code 15 = .ok (.iload_n 3, 1) := by decide +kernel
theorem d_W_slide_16 : decode prog_5_method_11_code 16 = .ok (.if_icmp .ge 27, 3) := by decide +kernel
theorem d_W_slide_19 : decode prog_5_method_11_code 19 = .ok (.aload_n 0, 1) := by decide +kernel
theorem d_W_slide_20 : decode prog_5_method_11_code 20 = .ok (.iload_n 1, 1) := by decide +kernel
theorem d_W_slide_21 : decode prog_5_method_11_code 21 = .ok (.iload 5, 2) := by decide +kernel
theorem d_W_slide_23 : decode prog_5_method_11_code 23 = .ok (.aload_n 0, 1) := by decide +kernel
theorem d_W_slide_24 : decode prog_5_method_11_code 24 = .ok (.getfield 17, 3) := by decide +kernel
theorem d_W_slide_27 : decode prog_5_method_11_code 27 = .ok (.iload_n 1, 1) := by decide +kernel
theorem d_W_slide_28 : decode prog_5_method_11_code 28 = .ok (.aaload, 1) := by decide +kernel
theorem d_W_slide_29 : decode prog_5_method_11_code 29 = .ok (.iload 5, 2) := by decide +kernel
theorem d_W_slide_31 : decode prog_5_method_11_code 31 = .ok (.iconst 1, 1) := by decide +kernel
theorem d_W_slide_32 : decode prog_5_method_11_code 32 = .ok (.iadd, 1) := by decide +kernel
theorem d_W_slide_33 : decode prog_5_method_11_code 33 = .ok (.iaload, 1) := by decide +kernel
theorem d_W_slide_34 : decode prog_5_method_11_code 34 = .ok (.invokevirtual 33, 3) := by decide +kernel
theorem d_W_slide_37 : decode prog_5_method_11_code 37 = .ok (.iinc 5 1, 3) := by decide +kernel
theorem d_W_slide_40 : decode prog_5_method_11_code 40 = .ok (.goto (-27), 3) := by decide +kernel
theorem d_W_slide_43 : decode prog_5_method_11_code 43 = .ok (.iload_n 2, 1) := by decide +kernel
theorem d_W_slide_44 : decode prog_5_method_11_code 44 = .ok (.istore 5, 2) := by decide +kernel
theorem d_W_slide_46 : decode prog_5_method_11_code 46 = .ok (.iload 5, 2) := by decide +kernel
theorem d_W_slide_48 : decode prog_5_method_11_code 48 = .ok (.iload_n 3, 1) := by decide +kernel
theorem d_W_slide_49 : decode prog_5_method_11_code 49 = .ok (.if_icmp .le 27, 3) := by decide +kernel
theorem d_W_slide_52 : decode prog_5_method_11_code 52 = .ok (.aload_n 0, 1) := by decide +kernel
theorem d_W_slide_53 : decode prog_5_method_11_code 53 = .ok (.iload_n 1, 1) := by decide +kernel
theorem d_W_slide_54 : decode prog_5_method_11_code 54 = .ok (.iload 5, 2) := by decide +kernel
theorem d_W_slide_56 : decode prog_5_method_11_code 56 = .ok (.aload_n 0, 1) := by decide +kernel
theorem d_W_slide_57 : decode prog_5_method_11_code 57 = .ok (.getfield 17, 3) := by decide +kernel
theorem d_W_slide_60 : decode prog_5_method_11_code 60 = .ok (.iload_n 1, 1) := by decide +kernel
theorem d_W_slide_61 : decode prog_5_method_11_code 61 = .ok (.aaload, 1) := by decide +kernel
theorem d_W_slide_62 : decode prog_5_method_11_code 62 = .ok (.iload 5, 2) := by decide +kernel
theorem d_W_slide_64 : decode prog_5_method_11_code 64 = .ok (.iconst 1, 1) := by decide +kernel
theorem d_W_slide_65 : decode prog_5_method_11_code 65 = .ok (.isub, 1) := by decide +kernel
theorem d_W_slide_66 : decode prog_5_method_11_code 66 = .ok (.iaload, 1) := by decide +kernel
theorem d_W_slide_67 : decode prog_5_method_11_code 67 = .ok (.invokevirtual 33, 3) := by decide +kernel
theorem d_W_slide_70 : decode prog_5_method_11_code 70 = .ok (.iinc 5 (-1), 3) := by decide +kernel
theorem d_W_slide_73 : decode prog_5_method_11_code 73 = .ok (.goto (-27), 3) := by decide +kernel
theorem d_W_slide_76 : decode prog_5_method_11_code 76 = .ok (.aload_n 0, 1) := by decide +kernel
theorem d_W_slide_77 : decode prog_5_method_11_code 77 = .ok (.iload_n 1, 1) := by decide +kernel
theorem d_W_slide_78 : decode prog_5_method_11_code 78 = .ok (.iload_n 3, 1) := by decide +kernel
theorem d_W_slide_79 : decode prog_5_method_11_code 79 = .ok (.iload 4, 2) := by decide +kernel
theorem d_W_slide_81 : decode prog_5_method_11_code 81 = .ok (.invokevirtual 33, 3) := by decide +kernel
theorem d_W_slide_84 : decode prog_5_method_11_code 84 = .ok (.return_, 1) := by decide +kernel
theorem d_W_set_0 : decode prog_5_method_12_code 0 = .ok (.aload_n 0, 1) := by decide +kernel
theorem d_W_set_1 : decode prog_5_method_12_code 1 = .ok (.getfield 17, 3) := by decide +kernel
theorem d_W_set_4 : decode prog_5_method_12_code 4 = .ok (.iload_n 1, 1) := by decide +kernel
theorem d_W_set_5 : decode prog_5_method_12_code 5 = .ok (.aaload, 1) := by decide +kernel
theorem d_W_set_6 : decode prog_5_method_12_code 6 = .ok (.iload_n 2, 1) := by decide +kernel
theorem d_W_set_7 : decode prog_5_method_12_code 7 = .ok (.iload_n 3, 1) := by decide +kernel
theorem d_W_set_8 : decode prog_5_method_12_code 8 = .ok (.iastore, 1) := by decide +kernel
theorem d_W_set_9 : decode prog_5_method_12_code 9 = .ok (.aload_n 0, 1) := by decide +kernel
theorem d_W_set_10 : decode prog_5_method_12_code 10 = .ok (.getfield 20, 3) := by decide +kernel
theorem d_W_set_13 : decode prog_5_method_12_code 13 = .ok (.iload_n 1, 1) := by decide +kernel
theorem d_W_set_14 : decode prog_5_method_12_code 14 = .ok (.aaload, 1) := by decide +kernel
theorem d_W_set_15 : decode prog_5_method_12_code 15 = .ok (.iload_n 3, 1) := by decide +kernel
theorem d_W_set_16 : decode prog_5_method_12_code 16 = .ok (.iload_n 2, 1) := by decide +kernel
theorem d_W_set_17 : decode prog_5_method_12_code 17 = .ok (.iastore, 1) := by decide +kernel
theorem d_W_set_18 : decode prog_5_method_12_code 18 = .ok (.return_, 1) := by decide +kernel
theorem d_W_noteChange_0 : decode prog_5_method_13_code 0 = .ok (.iconst 0, 1) := by decide +kernel
theorem d_W_noteChange_1 : decode prog_5_method_13_code 1 = .ok (.istore_n 2, 1) := by decide +kernel
theorem d_W_noteChange_2 : decode prog_5_method_13_code 2 = .ok (.iload_n 2, 1) := by decide +kernel
theorem d_W_noteChange_3 : decode prog_5_method_13_code 3 = .ok (.bipush 8, 2) := by decide +kernel
theorem d_W_noteChange_5 : decode prog_5_method_13_code 5 = .ok (.if_icmp .ge 94, 3) := by decide +kernel
theorem d_W_noteChange_8 : decode prog_5_method_13_code 8 = .ok (.iload_n 2, 1) := by decide +kernel
theorem d_W_noteChange_9 : decode prog_5_method_13_code 9 = .ok (.iload_n 1, 1) := by decide +kernel
theorem d_W_noteChange_10 : decode prog_5_method_13_code 10 = .ok (.if_icmp .eq 83, 3) := by decide +kernel
theorem d_W_noteChange_13 : decode prog_5_method_13_code 13 = .ok (.aload_n 0, 1) := by decide +kernel
theorem d_W_noteChange_14 : decode prog_5_method_13_code 14 = .ok (.getfield 20, 3) := by decide +kernel
theorem d_W_noteChange_17 : decode prog_5_method_13_code 17 = .ok (.iload_n 1, 1) := by decide +kernel
theorem d_W_noteChange_18 : decode prog_5_method_13_code 18 = .ok (.aaload, 1) := by decide +kernel
theorem d_W_noteChange_19 : decode prog_5_method_13_code 19 = .ok (.iload_n 2, 1) := by decide +kernel
theorem d_W_noteChange_20 : decode prog_5_method_13_code 20 = .ok (.iaload, 1) := by decide +kernel
theorem d_W_noteChange_21 : decode prog_5_method_13_code 21 = .ok (.iconst (-1), 1) := by decide +kernel
theorem d_W_noteChange_22 : decode prog_5_method_13_code 22 = .ok (.if_icmp .eq 19, 3) := by decide +kernel
theorem d_W_noteChange_25 : decode prog_5_method_13_code 25 = .ok (.aload_n 0, 1) := by decide +kernel
theorem d_W_noteChange_26 : decode prog_5_method_13_code 26 = .ok (.getfield 20, 3) := by decide +kernel
theorem d_W_noteChange_29 : decode prog_5_method_13_code 29 = .ok (.iload_n 2, 1) := by decide +kernel
theorem d_W_noteChange_30 : decode prog_5_method_13_code 30 = .ok (.aaload, 1) := by decide +kernel
theorem d_W_noteChange_31 : decode prog_5_method_13_code 31 = .ok (.iload_n 1, 1) := by decide +kernel
theorem d_W_noteChange_32 : decode prog_5_method_13_code 32 = .ok (.iaload, 1) := by decide +kernel
theorem d_W_noteChange_33 : decode prog_5_method_13_code 33 = .ok (.iconst (-1), 1) := by decide +kernel
theorem d_W_noteChange_34 : decode prog_5_method_13_code 34 = .ok (.if_icmp .eq 7, 3) := by decide +kernel
theorem d_W_noteChange_37 : decode prog_5_method_13_code 37 = .ok (.iconst 1, 1) := by decide +kernel
theorem d_W_noteChange_38 : decode prog_5_method_13_code 38 = .ok (.goto 4, 3) := by decide +kernel
theorem d_W_noteChange_41 : decode prog_5_method_13_code 41 = .ok (.iconst 0, 1) := by decide +kernel
theorem d_W_noteChange_42 : decode prog_5_method_13_code 42 = .ok (.istore_n 3, 1) := by decide +kernel
theorem d_W_noteChange_43 : decode prog_5_method_13_code 43 = .ok (.aload_n 0, 1) := by decide +kernel
theorem d_W_noteChange_44 : decode prog_5_method_13_code 44 = .ok (.getfield 23, 3) := by decide +kernel
theorem d_W_noteChange_47 : decode prog_5_method_13_code 47 = .ok (.iload_n 1, 1) := by decide +kernel
theorem d_W_noteChange_48 : decode prog_5_method_13_code 48 = .ok (.aaload, 1) := by decide +kernel
theorem d_W_noteChange_49 : decode prog_5_method_13_code 49 = .ok (.iload_n 2, 1) := by decide +kernel
theorem d_W_noteChange_50 : decode prog_5_method_13_code 50 = .ok (.iload_n 3, 1) := by decide +kernel
theorem d_W_noteChange_51 : decode prog_5_method_13_code 51 = .ok (.ifCond .eq 14, 3) := by decide +kernel
theorem d_W_noteChange_54 : decode prog_5_method_13_code 54 = .ok (.aload_n 0, 1) := by decide +kernel
theorem d_W_noteChange_55 : decode prog_5_method_13_code 55 = .ok (.getfield 20, 3) := by decide +kernel
theorem d_W_noteChange_58 : decode prog_5_method_13_code 58 = .ok (.iload_n 1, 1) := by decide +kernel
theorem d_W_noteChange_59 : decode prog_5_method_13_code 59 = .ok (.aaload, 1) := by decide +kernel
theorem d_W_noteChange_60 : decode prog_5_method_13_code 60 = .ok (.iload_n 2, 1) := by decide +kernel
theorem d_W_noteChange_61 : decode prog_5_method_13_code 61 = .ok (.iaload, 1) := by decide +kernel
theorem d_W_noteChange_62 : decode prog_5_method_13_code 62 = .ok (.goto 5, 3) := by decide +kernel
theorem d_W_noteChange_65 : decode prog_5_method_13_code 65 = .ok (.bipush 9, 2) := by decide +kernel
theorem d_W_noteChange_67 : decode prog_5_method_13_code 67 = .ok (.iastore, 1) := by decide +kernel
theorem d_W_noteChange_68 : decode prog_5_method_13_code 68 = .ok (.aload_n 0, 1) := by decide +kernel
theorem d_W_noteChange_69 : decode prog_5_method_13_code 69 = .ok (.getfield 23, 3) := by decide +kernel
theorem d_W_noteChange_72 : decode prog_5_method_13_code 72 = .ok (.iload_n 2, 1) := by decide +kernel
theorem d_W_noteChange_73 : decode prog_5_method_13_code 73 = .ok (.aaload, 1) := by decide +kernel
theorem d_W_noteChange_74 : decode prog_5_method_13_code 74 = .ok (.iload_n 1, 1) := by decide +kernel
theorem d_W_noteChange_75 : decode prog_5_method_13_code 75 = .ok (.iload_n 3, 1) := by decide +kernel
theorem d_W_noteChange_76 : decode prog_5_method_13_code 76 = .ok (.ifCond .eq 14, 3) := by decide +kernel
theorem d_W_noteChange_79 : decode prog_5_method_13_code 79 = .ok (.aload_n 0, 1) := by decide +kernel
theorem d_W_noteChange_80 : decode prog_5_method_13_code 80 = .ok (.getfield 20, 3) := by decide +kernel
theorem d_W_noteChange_83 : decode prog_5_method_13_code 83 = .ok (.iload_n 2, 1) := by decide +kernel
theorem d_W_noteChange_84 : decode prog_5_method_13_code 84 = .ok (.aaload, 1) := by decide +kernel
theorem d_W_noteChange_85 : decode prog_5_method_13_code 85 = .ok (.iload_n 1, 1) := by decide +kernel
theorem d_W_noteChange_86 : decode prog_5_method_13_code 86 = .ok (.iaload, 1) := by decide +kernel
theorem d_W_noteChange_87 : decode prog_5_method_13_code 87 = .ok (.goto 5, 3) := by decide +kernel
theorem d_W_noteChange_90 : decode prog_5_method_13_code 90 = .ok (.bipush 9, 2) := by decide +kernel
theorem d_W_noteChange_92 : decode prog_5_method_13_code 92 = .ok (.iastore, 1) := by decide +kernel
theorem d_W_noteChange_93 : decode prog_5_method_13_code 93 = .ok (.iinc 2 1, 3) := by decide +kernel
theorem d_W_noteChange_96 : decode prog_5_method_13_code 96 = .ok (.goto (-94), 3) := by decide +kernel
theorem d_W_noteChange_99 : decode prog_5_method_13_code 99 = .ok (.aload_n 0, 1) := by decide +kernel
theorem d_W_noteChange_100 : decode prog_5_method_13_code 100 = .ok (.dup, 1) := by decide +kernel
theorem d_W_noteChange_101 : decode prog_5_method_13_code 101 = .ok (.getfield 30, 3) := by decide +kernel
theorem d_W_noteChange_104 : decode prog_5_method_13_code 104 = .ok (.iconst 1, 1) := by decide +kernel
theorem d_W_noteChange_105 : decode prog_5_method_13_code 105 = .ok (.iadd, 1) := by decide +kernel
theorem d_W_noteChange_106 : decode prog_5_method_13_code 106 = .ok (.putfield 30, 3) := by decide +kernel
theorem d_W_noteChange_109 : decode prog_5_method_13_code 109 = .ok (.return_, 1) := by decide +kernel
theorem d_W_arePossible_0 : decode prog_5_method_14_code 0 = .ok (.aload_n 0, 1) := by decide +kernel
theorem d_W_arePossible_1 : decode prog_5_method_14_code 1 = .ok (.getfield 23, 3) := by decide +kernel
theorem d_W_arePossible_4 : decode prog_5_method_14_code 4 = .ok (.iload_n 1, 1) := by decide +kernel
theorem d_W_arePossible_5 : decode prog_5_method_14_code 5 = .ok (.aaload, 1) := by decide +kernel
theorem d_W_arePossible_6 : decode prog_5_method_14_code 6 = .ok (.iload_n 2, 1) := by decide +kernel
theorem d_W_arePossible_7 : decode prog_5_method_14_code 7 = .ok (.iaload, 1) := by decide +kernel
theorem d_W_arePossible_8 : decode prog_5_method_14_code 8 = .ok (.bipush 8, 2) := by decide +kernel
theorem d_W_arePossible_10 : decode prog_5_method_14_code 10 = .ok (.if_icmp .ge 7, 3) := by decide +kernel
theorem d_W_arePossible_13 : decode prog_5_method_14_code 13 = .ok (.iconst 1, 1) := by decide +kernel
theorem d_W_arePossible_14 : decode prog_5_method_14_code 14 = .ok (.goto 4, 3) := by decide +kernel
theorem d_W_arePossible_17 : decode prog_5_method_14_code 17 = .ok (.iconst 0, 1) := by decide +kernel
theorem d_W_arePossible_18 : decode prog_5_method_14_code 18 = .ok (.ireturn, 1) := by decide +kernel
theorem d_W_prefers_0 : decode prog_5_method_15_code 0 = .ok (.aload_n 0, 1) := by decide +kernel
theorem d_W_prefers_1 : decode prog_5_method_15_code 1 = .ok (.getfield 23, 3) := by decide +kernel
theorem d_W_prefers_4 : decode prog_5_method_15_code 4 = .ok (.iload_n 1, 1) := by decide +kernel
theorem d_W_prefers_5 : decode prog_5_method_15_code 5 = .ok (.aaload, 1) := by decide +kernel
theorem d_W_prefers_6 : decode prog_5_method_15_code 6 = .ok (.iload_n 2, 1) := by decide +kernel
theorem d_W_prefers_7 : decode prog_5_method_15_code 7 = .ok (.iaload, 1) := by decide +kernel
theorem d_W_prefers_8 : decode prog_5_method_15_code 8 = .ok (.aload_n 0, 1) := by decide +kernel
theorem d_W_prefers_9 : decode prog_5_method_15_code 9 = .ok (.getfield 23, 3) := by decide +kernel
theorem d_W_prefers_12 : decode prog_5_method_15_code 12 = .ok (.iload_n 1, 1) := by decide +kernel
theorem d_W_prefers_13 : decode prog_5_method_15_code 13 = .ok (.aaload, 1) := by decide +kernel
theorem d_W_prefers_14 : decode prog_5_method_15_code 14 = .ok (.iload_n 3, 1) := by decide +kernel
theorem d_W_prefers_15 : decode prog_5_method_15_code 15 = .ok (.iaload, 1) := by decide +kernel
theorem d_W_prefers_16 : decode prog_5_method_15_code 16 = .ok (.if_icmp .ge 7, 3) := by decide +kernel
theorem d_W_prefers_19 : decode prog_5_method_15_code 19 = .ok (.iconst 1, 1) := by decide +kernel
theorem d_W_prefers_20 : decode prog_5_method_15_code 20 = .ok (.goto 4, 3) := by decide +kernel
theorem d_W_prefers_23 : decode prog_5_method_15_code 23 = .ok (.iconst 0, 1) := by decide +kernel
theorem d_W_prefers_24 : decode prog_5_method_15_code 24 = .ok (.ireturn, 1) := by decide +kernel
theorem d_W_wouldBlock_0 : decode prog_5_method_16_code 0 = .ok (.aload_n 0, 1) := by decide +kernel
theorem d_W_wouldBlock_1 : decode prog_5_method_16_code 1 = .ok (.getfield 23, 3) := by decide +kernel
theorem d_W_wouldBlock_4 : decode prog_5_method_16_code 4 = .ok (.iload_n 1, 1) := by decide +kernel
theorem d_W_wouldBlock_5 : decode prog_5_method_16_code 5 = .ok (.aaload, 1) := by decide +kernel
theorem d_W_wouldBlock_6 : decode prog_5_method_16_code 6 = .ok (.iload_n 2, 1) := by decide +kernel
theorem d_W_wouldBlock_7 : decode prog_5_method_16_code 7 = .ok (.iaload, 1) := by decide +kernel
theorem d_W_wouldBlock_8 : decode prog_5_method_16_code 8 = .ok (.aload_n 0, 1) := by decide +kernel
theorem d_W_wouldBlock_9 : decode prog_5_method_16_code 9 = .ok (.getfield 23, 3) := by decide +kernel
theorem d_W_wouldBlock_12 : decode prog_5_method_16_code 12 = .ok (.iload_n 1, 1) := by decide +kernel
theorem d_W_wouldBlock_13 : decode prog_5_method_16_code 13 = .ok (.aaload, 1) := by decide +kernel
theorem d_W_wouldBlock_14 : decode prog_5_method_16_code 14 = .ok (.aload_n 3, 1) := by decide +kernel
theorem d_W_wouldBlock_15 : decode prog_5_method_16_code 15 = .ok (.iload_n 1, 1) := by decide +kernel
theorem d_W_wouldBlock_16 : decode prog_5_method_16_code 16 = .ok (.iaload, 1) := by decide +kernel
theorem d_W_wouldBlock_17 : decode prog_5_method_16_code 17 = .ok (.iaload, 1) := by decide +kernel
theorem d_W_wouldBlock_18 : decode prog_5_method_16_code 18 = .ok (.if_icmp .ge 28, 3) := by decide +kernel
theorem d_W_wouldBlock_21 : decode prog_5_method_16_code 21 = .ok (.aload_n 0, 1) := by decide +kernel
theorem d_W_wouldBlock_22 : decode prog_5_method_16_code 22 = .ok (.getfield 23, 3) := by decide +kernel
theorem d_W_wouldBlock_25 : decode prog_5_method_16_code 25 = .ok (.iload_n 2, 1) := by decide +kernel
theorem d_W_wouldBlock_26 : decode prog_5_method_16_code 26 = .ok (.aaload, 1) := by decide +kernel
theorem d_W_wouldBlock_27 : decode prog_5_method_16_code 27 = .ok (.iload_n 1, 1) := by decide +kernel
theorem d_W_wouldBlock_28 : decode prog_5_method_16_code 28 = .ok (.iaload, 1) := by decide +kernel
theorem d_W_wouldBlock_29 : decode prog_5_method_16_code 29 = .ok (.aload_n 0, 1) := by decide +kernel
theorem d_W_wouldBlock_30 : decode prog_5_method_16_code 30 = .ok (.getfield 23, 3) := by decide +kernel
theorem d_W_wouldBlock_33 : decode prog_5_method_16_code 33 = .ok (.iload_n 2, 1) := by decide +kernel
theorem d_W_wouldBlock_34 : decode prog_5_method_16_code 34 = .ok (.aaload, 1) := by decide +kernel
theorem d_W_wouldBlock_35 : decode prog_5_method_16_code 35 = .ok (.aload_n 3, 1) := by decide +kernel
theorem d_W_wouldBlock_36 : decode prog_5_method_16_code 36 = .ok (.iload_n 2, 1) := by decide +kernel
theorem d_W_wouldBlock_37 : decode prog_5_method_16_code 37 = .ok (.iaload, 1) := by decide +kernel
theorem d_W_wouldBlock_38 : decode prog_5_method_16_code 38 = .ok (.iaload, 1) := by decide +kernel
theorem d_W_wouldBlock_39 : decode prog_5_method_16_code 39 = .ok (.if_icmp .ge 7, 3) := by decide +kernel
theorem d_W_wouldBlock_42 : decode prog_5_method_16_code 42 = .ok (.iconst 1, 1) := by decide +kernel
theorem d_W_wouldBlock_43 : decode prog_5_method_16_code 43 = .ok (.goto 4, 3) := by decide +kernel
theorem d_W_wouldBlock_46 : decode prog_5_method_16_code 46 = .ok (.iconst 0, 1) := by decide +kernel
theorem d_W_wouldBlock_47 : decode prog_5_method_16_code 47 = .ok (.ireturn, 1) := by decide +kernel
theorem d_W_wouldBlockWithAny_0 : decode prog_5_method_17_code 0 = .ok (.iconst 0, 1) := by decide +kernel
theorem d_W_wouldBlockWithAny_1 : decode prog_5_method_17_code 1 = .ok (.istore_n 3, 1) := by decide +kernel
theorem d_W_wouldBlockWithAny_2 : decode prog_5_method_17_code 2 = .ok (.iload_n 3, 1) := by decide +kernel
theorem d_W_wouldBlockWithAny_3 : decode prog_5_method_17_code 3 = .ok (.aload_n 0, 1) := by decide +kernel
theorem d_W_wouldBlockWithAny_4 : decode prog_5_method_17_code 4 = .ok (.getfield 26, 3) := by decide +kernel
theorem d_W_wouldBlockWithAny_7 : decode prog_5_method_17_code 7 = .ok (.if_icmp .ge 28, 3) := by decide +kernel
theorem d_W_wouldBlockWithAny_10 : decode prog_5_method_17_code 10 = .ok (.aload_n 2, 1) := by decide +kernel
theorem d_W_wouldBlockWithAny_11 : decode prog_5_method_17_code 11 = .ok (.iload_n 3, 1) := by decide +kernel
theorem d_W_wouldBlockWithAny_12 : decode prog_5_method_17_code 12 = .ok (.iaload, 1) := by decide +kernel
theorem d_W_wouldBlockWithAny_13 : decode prog_5_method_17_code 13 = .ok (.iconst (-1), 1) := by decide +kernel
theorem d_W_wouldBlockWithAny_14 : decode prog_5_method_17_code 14 = .ok (.if_icmp .eq 15, 3) := by decide +kernel
theorem d_W_wouldBlockWithAny_17 : decode prog_5_method_17_code 17 = .ok (.aload_n 0, 1) := by decide +kernel
theorem d_W_wouldBlockWithAny_18 : decode prog_5_method_17_code 18 = .ok (.iload_n 1, 1) := by decide +kernel
theorem d_W_wouldBlockWithAny_19 : decode prog_5_method_17_code 19 = .ok (.iload_n 3, 1) := by decide +kernel
theorem d_W_wouldBlockWithAny_20 : decode prog_5_method_17_code 20 = .ok (.aload_n 2, 1) := by decide +kernel
theorem d_W_wouldBlockWithAny_21 : decode prog_5_method_17_code 21 = .ok (.invokevirtual 44, 3) := by decide +kernel
theorem d_W_wouldBlockWithAny_24 : decode prog_5_method_17_code 24 = .ok (.ifCond .eq 5, 3) := by decide +kernel
theorem d_W_wouldBlockWithAny_27 : decode prog_5_method_17_code 27 = .ok (.iconst 1, 1) := by decide +kernel
theorem d_W_wouldBlockWithAny_28 : decode prog_5_method_17_code 28 = .ok (.ireturn, 1) := by decide +kernel
theorem d_W_wouldBlockWithAny_29 : decode prog_5_method_17_code 29 = .ok (.iinc 3 1, 3) := by decide +kernel
theorem d_W_wouldBlockWithAny_32 : decode prog_5_method_17_code 32 = .ok (.goto (-30), 3) := by decide +kernel
theorem d_W_wouldBlockWithAny_35 : decode prog_5_method_17_code 35 = .ok (.iconst 0, 1) := by decide +kernel
theorem d_W_wouldBlockWithAny_36 : decode prog_5_method_17_code 36 = .ok (.ireturn, 1) := by decide +kernel
