/-! what stands where: M -/
theorem d_M_partner_24 : decode prog_7_method_21_code 24 = .ok (.iconst 0, 1) := by decide +kernel
theorem d_M_partner_25 : decode prog_7_method_21_code 25 = .ok (.goto 9, 3) := by decide +kernel
theorem d_M_partner_28 : decode prog_7_method_21_code 28 = .ok (.aload_n 0, 1) := by decide +kernel
theorem d_M_partner_29 : decode prog_7_method_21_code 29 = .ok (.getfield 16, 3) := by decide +kernel
theorem d_M_partner_32 : decode prog_7_method_21_code 32 = .ok (.iload_n 1, 1) := by decide +kernel
theorem d_M_partner_33 : decode prog_7_method_21_code 33 = .ok (.iaload, 1) := by decide +kernel
theorem d_M_partner_34 : decode prog_7_method_21_code 34 = .ok (.ireturn, 1) := by decide +kernel
theorem d_M_blocking_0 : decode prog_7_method_22_code 0 = .ok (.aload_n 0, 1) := by decide +kernel
theorem d_M_blocking_1 : decode prog_7_method_22_code 1 = .ok (.iconst 0, 1) := by decide +kernel
theorem d_M_blocking_2 : decode prog_7_method_22_code 2 = .ok (.putfield 43, 3) := by decide +kernel
theorem d_M_blocking_5 : decode prog_7_method_22_code 5 = .ok (.aload_n 0, 1) := by decide +kernel
theorem d_M_blocking_6 : decode prog_7_method_22_code 6 = .ok (.aload_n 0, 1) := by decide +kernel
theorem d_M_blocking_7 : decode prog_7_method_22_code 7 = .ok (.getfield 16, 3) := by decide +kernel
theorem d_M_blocking_10 : decode prog_7_method_22_code 10 = .ok (.invokevirtual 87, 3) := by decide +kernel
theorem d_M_blocking_13 : decode prog_7_method_22_code 13 = .ok (.ireturn, 1) := by decide +kernel
theorem d_M_satisfy_0 : decode prog_7_method_23_code 0 = .ok (.aload_n 0, 1) := by decide +kernel
theorem d_M_satisfy_1 : decode prog_7_method_23_code 1 = .ok (.iconst 0, 1) := by decide +kernel
theorem d_M_satisfy_2 : decode prog_7_method_23_code 2 = .ok (.putfield 43, 3) := by decide +kernel
theorem d_M_satisfy_5 : decode prog_7_method_23_code 5 = .ok (.iconst 0, 1) := by decide +kernel
theorem d_M_satisfy_6 : decode prog_7_method_23_code 6 = .ok (.istore_n 1, 1) := by decide +kernel
theorem d_M_satisfy_7 : decode prog_7_method_23_code 7 = .ok (.iload_n 1, 1) := by decide +kernel
theorem d_M_satisfy_8 : decode prog_7_method_23_code 8 = .ok (.aload_n 0, 1) := by decide +kernel
theorem d_M_satisfy_9 : decode prog_7_method_23_code 9 = .ok (.getfield 47, 3) := by decide +kernel
theorem d_M_satisfy_12 : decode prog_7_method_23_code 12 = .ok (.if_icmp .ge 53, 3) := by decide +kernel
theorem d_M_satisfy_15 : decode prog_7_method_23_code 15 = .ok (.iload_n 1, 1) := by decide +kernel
theorem d_M_satisfy_16 : decode prog_7_method_23_code 16 = .ok (.iconst 1, 1) := by decide +kernel
theorem d_M_satisfy_17 : decode prog_7_method_23_code 17 = .ok (.iadd, 1) := by decide +kernel
theorem d_M_satisfy_18 : decode prog_7_method_23_code 18 = .ok (.istore_n 2, 1) := by decide +kernel
theorem d_M_satisfy_19 : decode prog_7_method_23_code 19 = .ok (.iload_n 2, 1) := by decide +kernel
theorem d_M_satisfy_20 : decode prog_7_method_23_code 20 = .ok (.aload_n 0, 1) := by decide +kernel
theorem d_M_satisfy_21 : decode prog_7_method_23_code 21 = .ok (.getfield 47, 3) := by decide +kernel
theorem d_M_satisfy_24 : decode prog_7_method_23_code 24 = .ok (.if_icmp .ge 35, 3) := by decide +kernel
theorem d_M_satisfy_27 : decode prog_7_method_23_code 27 = .ok (.aload_n 0, 1) := by decide +kernel
theorem d_M_satisfy_28 : decode prog_7_method_23_code 28 = .ok (.iload_n 1, 1) := by decide +kernel
theorem d_M_satisfy_29 : decode prog_7_method_23_code 29 = .ok (.iload_n 2, 1) := by decide +kernel
theorem d_M_satisfy_30 : decode prog_7_method_23_code 30 = .ok (.aload_n 0, 1) := by decide +kernel
theorem d_M_satisfy_31 : decode prog_7_method_23_code 31 = .ok (.getfield 16, 3) := by decide +kernel
theorem d_M_satisfy_34 : decode prog_7_method_23_code 34 = .ok (.invokevirtual 80, 3) := by decide +kernel
theorem d_M_satisfy_37 : decode prog_7_method_23_code 37 = .ok (.ifCond .eq 16, 3) := by decide +kernel
theorem d_M_satisfy_40 : decode prog_7_method_23_code 40 = .ok (.aload_n 0, 1) := by decide +kernel
theorem d_M_satisfy_41 : decode prog_7_method_23_code 41 = .ok (.iload_n 1, 1) := by decide +kernel
theorem d_M_satisfy_42 : decode prog_7_method_23_code 42 = .ok (.iload_n 2, 1) := by decide +kernel
theorem d_M_satisfy_43 : decode prog_7_method_23_code 43 = .ok (.invokevirtual 83, 3) := by decide +kernel
theorem d_M_satisfy_46 : decode prog_7_method_23_code 46 = .ok (.bipush 8, 2) := by decide +kernel
theorem d_M_satisfy_48 : decode prog_7_method_23_code 48 = .ok (.iload_n 1, 1) := by decide +kernel
theorem d_M_satisfy_49 : decode prog_7_method_23_code 49 = .ok (.imul, 1) := by decide +kernel
theorem d_M_satisfy_50 : decode prog_7_method_23_code 50 = .ok (.iload_n 2, 1) := by decide +kernel
theorem d_M_satisfy_51 : decode prog_7_method_23_code 51 = .ok (.iadd, 1) := by decide +kernel
theorem d_M_satisfy_52 : decode prog_7_method_23_code 52 = .ok (.ireturn, 1) := by decide +kernel
theorem d_M_satisfy_53 : decode prog_7_method_23_code 53 = .ok (.iinc 2 1, 3) := by decide +kernel
theorem d_M_satisfy_56 : decode prog_7_method_23_code 56 = .ok (.goto (-37), 3) := by decide +kernel
theorem d_M_satisfy_59 : decode prog_7_method_23_code 59 = .ok (.iinc 1 1, 3) := by decide +kernel
theorem d_M_satisfy_62 : decode prog_7_method_23_code 62 = .ok (.goto (-55), 3) := by decide +kernel
theorem d_M_satisfy_65 : decode prog_7_method_23_code 65 = .ok (.iconst (-1), 1) := by decide +kernel
theorem d_M_satisfy_66 : decode prog_7_method_23_code 66 = .ok (.ireturn, 1) := by decide +kernel
theorem d_M_chosen_0 : decode prog_7_method_24_code 0 = .ok (.iload_n 2, 1) := by decide +kernel
theorem d_M_chosen_1 : decode prog_7_method_24_code 1 = .ok (.aload_n 0, 1) := by decide +kernel
theorem d_M_chosen_2 : decode prog_7_method_24_code 2 = .ok (.getfield 7, 3) := by decide +kernel
theorem d_M_chosen_5 : decode prog_7_method_24_code 5 = .ok (.iload_n 1, 1) := by decide +kernel
theorem d_M_chosen_6 : decode prog_7_method_24_code 6 = .ok (.iaload, 1) := by decide +kernel
theorem d_M_chosen_7 : decode prog_7_method_24_code 7 = .ok (.if_icmp .ge 17, 3) := by decide +kernel
theorem d_M_chosen_10 : decode prog_7_method_24_code 10 = .ok (.aload_n 0, 1) := by decide +kernel
theorem d_M_chosen_11 : decode prog_7_method_24_code 11 = .ok (.getfield 13, 3) := by decide +kernel
theorem d_M_chosen_14 : decode prog_7_method_24_code 14 = .ok (.bipush 8, 2) := by decide +kernel
theorem d_M_chosen_16 : decode prog_7_method_24_code 16 = .ok (.iload_n 1, 1) := by decide +kernel
theorem d_M_chosen_17 : decode prog_7_method_24_code 17 = .ok (.imul, 1) := by decide +kernel
theorem d_M_chosen_18 : decode prog_7_method_24_code 18 = .ok (.iload_n 2, 1) := by decide +kernel
theorem d_M_chosen_19 : decode prog_7_method_24_code 19 = .ok (.iadd, 1) := by decide +kernel
theorem d_M_chosen_20 : decode prog_7_method_24_code 20 = .ok (.iaload, 1) := by decide +kernel
theorem d_M_chosen_21 : decode prog_7_method_24_code 21 = .ok (.goto 4, 3) := by decide +kernel
theorem d_M_chosen_24 : decode prog_7_method_24_code 24 = .ok (.iload_n 1, 1) := by decide +kernel
theorem d_M_chosen_25 : decode prog_7_method_24_code 25 = .ok (.ireturn, 1) := by decide +kernel
theorem d_M_nextChoice_0 : decode prog_7_method_25_code 0 = .ok (.iload_n 2, 1) := by decide +kernel
theorem d_M_nextChoice_1 : decode prog_7_method_25_code 1 = .ok (.istore 4, 2) := by decide +kernel
theorem d_M_nextChoice_3 : decode prog_7_method_25_code 3 = .ok (.iload 4, 2) := by decide +kernel
theorem d_M_nextChoice_5 : decode prog_7_method_25_code 5 = .ok (.aload_n 0, 1) := by decide +kernel
theorem d_M_nextChoice_6 : decode prog_7_method_25_code 6 = .ok (.getfield 7, 3) := by decide +kernel
theorem d_M_nextChoice_9 : decode prog_7_method_25_code 9 = .ok (.iload_n 1, 1) := by decide +kernel
theorem d_M_nextChoice_10 : decode prog_7_method_25_code 10 = .ok (.iaload, 1) := by decide +kernel
theorem d_M_nextChoice_11 : decode prog_7_method_25_code 11 = .ok (.if_icmp .gt 25, 3) := by decide +kernel
theorem d_M_nextChoice_14 : decode prog_7_method_25_code 14 = .ok (.aload_n 0, 1) := by decide +kernel
theorem d_M_nextChoice_15 : decode prog_7_method_25_code 15 = .ok (.iload_n 1, 1) := by decide +kernel
theorem d_M_nextChoice_16 : decode prog_7_method_25_code 16 = .ok (.aload_n 0, 1) := by decide +kernel
theorem d_M_nextChoice_17 : decode prog_7_method_25_code 17 = .ok (.iload_n 1, 1) := by decide +kernel
theorem d_M_nextChoice_18 : decode prog_7_method_25_code 18 = .ok (.iload 4, 2) := by decide +kernel
theorem d_M_nextChoice_20 : decode prog_7_method_25_code 20 = .ok (.invokevirtual 91, 3) := by decide +kernel
theorem d_M_nextChoice_23 : decode prog_7_method_25_code 23 = .ok (.iload_n 3, 1) := by decide +kernel
theorem d_M_nextChoice_24 : decode prog_7_method_25_code 24 = .ok (.invokevirtual 94, 3) := by decide +kernel
theorem d_M_nextChoice_27 : decode prog_7_method_25_code 27 = .ok (.ifCond .ne 9, 3) := by decide +kernel
theorem d_M_nextChoice_30 : decode prog_7_method_25_code 30 = .ok (.iinc 4 1, 3) := by decide +kernel
theorem d_M_nextChoice_33 : decode prog_7_method_25_code 33 = .ok (.goto (-30), 3) := by decide +kernel
theorem d_M_nextChoice_36 : decode prog_7_method_25_code 36 = .ok (.iload 4, 2) := by decide +kernel
theorem d_M_nextChoice_38 : decode prog_7_method_25_code 38 = .ok (.ireturn, 1) := by decide +kernel
theorem d_M_goes_0 : decode prog_7_method_26_code 0 = .ok (.aload_n 0, 1) := by decide +kernel
theorem d_M_goes_1 : decode prog_7_method_26_code 1 = .ok (.getfield 40, 3) := by decide +kernel
theorem d_M_goes_4 : decode prog_7_method_26_code 4 = .ok (.bipush 8, 2) := by decide +kernel
theorem d_M_goes_6 : decode prog_7_method_26_code 6 = .ok (.iload_n 1, 1) := by decide +kernel
theorem d_M_goes_7 : decode prog_7_method_26_code 7 = .ok (.imul, 1) := by decide +kernel
theorem d_M_goes_8 : decode prog_7_method_26_code 8 = .ok (.iload_n 2, 1) := by decide +kernel
theorem d_M_goes_9 : decode prog_7_method_26_code 9 = .ok (.iadd, 1) := by decide +kernel
theorem d_M_goes_10 : decode prog_7_method_26_code 10 = .ok (.iaload, 1) := by decide +kernel
theorem d_M_goes_11 : decode prog_7_method_26_code 11 = .ok (.bipush 50, 2) := by decide +kernel
theorem d_M_goes_13 : decode prog_7_method_26_code 13 = .ok (.if_icmp .le 5, 3) := by decide +kernel
theorem d_M_goes_16 : decode prog_7_method_26_code 16 = .ok (.iconst 0, 1) := by decide +kernel
theorem d_M_goes_17 : decode prog_7_method_26_code 17 = .ok (.ireturn, 1) := by decide +kernel
theorem d_M_goes_18 : decode prog_7_method_26_code 18 = .ok (.iconst 1, 1) := by decide +kernel
theorem d_M_goes_19 : decode prog_7_method_26_code 19 = .ok (.istore 4, 2) := by decide +kernel
theorem d_M_goes_21 : decode prog_7_method_26_code 21 = .ok (.iconst 0, 1) := by decide +kernel
theorem d_M_goes_22 : decode prog_7_method_26_code 22 = .ok (.istore 5, 2) := by decide +kernel
theorem d_M_goes_24 : decode prog_7_method_26_code 24 = .ok (.iload 5, 2) := by decide +kernel
theorem d_M_goes_26 : decode prog_7_method_26_code 26 = .ok (.iload_n 1, 1) := by decide +kernel
theorem d_M_goes_27 : decode prog_7_method_26_code 27 = .ok (.if_icmp .ge 139, 3) := by decide +kernel
theorem d_M_goes_30 : decode prog_7_method_26_code 30 = .ok (.iload 4, 2) := by decide +kernel
theorem d_M_goes_32 : decode prog_7_method_26_code 32 = .ok (.ifCond .eq 72, 3) := by decide +kernel
theorem d_M_goes_35 : decode prog_7_method_26_code 35 = .ok (.iload_n 3, 1) := by decide +kernel
theorem d_M_goes_36 : decode prog_7_method_26_code 36 = .ok (.ifCond .eq 53, 3) := by decide +kernel
theorem d_M_goes_39 : decode prog_7_method_26_code 39 = .ok (.aload_n 0, 1) := by decide +kernel
theorem d_M_goes_40 : decode prog_7_method_26_code 40 = .ok (.getfield 31, 3) := by decide +kernel
theorem d_M_goes_43 : decode prog_7_method_26_code 43 = .ok (.iload 5, 2) := by decide +kernel
theorem d_M_goes_45 : decode prog_7_method_26_code 45 = .ok (.iaload, 1) := by decide +kernel
theorem d_M_goes_46 : decode prog_7_method_26_code 46 = .ok (.iload_n 1, 1) := by decide +kernel
theorem d_M_goes_47 : decode prog_7_method_26_code 47 = .ok (.if_icmp .ne 7, 3) := by decide +kernel
theorem d_M_goes_50 : decode prog_7_method_26_code 50 = .ok (.iconst 1, 1) := by decide +kernel
theorem d_M_goes_51 : decode prog_7_method_26_code 51 = .ok (.goto 4, 3) := by decide +kernel
theorem d_M_goes_54 : decode prog_7_method_26_code 54 = .ok (.iconst 0, 1) := by decide +kernel
theorem d_M_goes_55 : decode prog_7_method_26_code 55 = .ok (.iload_n 2, 1) := by decide +kernel
theorem d_M_goes_56 : decode prog_7_method_26_code 56 = .ok (.iload 5, 2) := by decide +kernel
theorem d_M_goes_58 : decode prog_7_method_26_code 58 = .ok (.if_icmp .ne 7, 3) := by decide +kernel
theorem d_M_goes_61 : decode prog_7_method_26_code 61 = .ok (.iconst 1, 1) := by decide +kernel
theorem d_M_goes_62 : decode prog_7_method_26_code 62 = .ok (.goto 4, 3) := by decide +kernel
theorem d_M_goes_65 : decode prog_7_method_26_code 65 = .ok (.iconst 0, 1) := by decide +kernel
theorem d_M_goes_66 : decode prog_7_method_26_code 66 = .ok (.if_icmp .ne 38, 3) := by decide +kernel
theorem d_M_goes_69 : decode prog_7_method_26_code 69 = .ok (.aload_n 0, 1) := by decide +kernel
theorem d_M_goes_70 : decode prog_7_method_26_code 70 = .ok (.getfield 31, 3) := by decide +kernel
theorem d_M_goes_73 : decode prog_7_method_26_code 73 = .ok (.iload 5, 2) := by decide +kernel
theorem d_M_goes_75 : decode prog_7_method_26_code 75 = .ok (.iaload, 1) := by decide +kernel
theorem d_M_goes_76 : decode prog_7_method_26_code 76 = .ok (.iload_n 2, 1) := by decide +kernel
theorem d_M_goes_77 : decode prog_7_method_26_code 77 = .ok (.if_icmp .ne 23, 3) := by decide +kernel
theorem d_M_goes_80 : decode prog_7_method_26_code 80 = .ok (.iload 5, 2) := by decide +kernel
theorem d_M_goes_82 : decode prog_7_method_26_code 82 = .ok (.iload_n 2, 1) := by decide +kernel
theorem d_M_goes_83 : decode prog_7_method_26_code 83 = .ok (.if_icmp .ne 21, 3) := by decide +kernel
theorem d_M_goes_86 : decode prog_7_method_26_code 86 = .ok (.goto 14, 3) := by decide +kernel
theorem d_M_goes_89 : decode prog_7_method_26_code 89 = .ok (.aload_n 0, 1) := by decide +kernel
theorem d_M_goes_90 : decode prog_7_method_26_code 90 = .ok (.getfield 31, 3) := by decide +kernel
theorem d_M_goes_93 : decode prog_7_method_26_code 93 = .ok (.iload 5, 2) := by decide +kernel
theorem d_M_goes_95 : decode prog_7_method_26_code 95 = .ok (.iaload, 1) := by decide +kernel
theorem d_M_goes_96 : decode prog_7_method_26_code 96 = .ok (.iload_n 2, 1) := by decide +kernel
theorem d_M_goes_97 : decode prog_7_method_26_code 97 = .ok (.if_icmp .eq 7, 3) := by decide +kernel
theorem d_M_goes_100 : decode prog_7_method_26_code 100 = .ok (.iconst 1, 1) := by decide +kernel
theorem d_M_goes_101 : decode prog_7_method_26_code 101 = .ok (.goto 4, 3) := by decide +kernel
theorem d_M_goes_104 : decode prog_7_method_26_code 104 = .ok (.iconst 0, 1) := by decide +kernel
theorem d_M_goes_105 : decode prog_7_method_26_code 105 = .ok (.istore 4, 2) := by decide +kernel
theorem d_M_goes_107 : decode prog_7_method_26_code 107 = .ok (.iload 4, 2) := by decide +kernel
theorem d_M_goes_109 : decode prog_7_method_26_code 109 = .ok (.ifCond .eq 48, 3) := by decide +kernel
theorem d_M_goes_112 : decode prog_7_method_26_code 112 = .ok (.iload_n 3, 1) := by decide +kernel
theorem d_M_goes_113 : decode prog_7_method_26_code 113 = .ok (.ifCond .ne 40, 3) := by decide +kernel
theorem d_M_goes_116 : decode prog_7_method_26_code 116 = .ok (.aload_n 0, 1) := by decide +kernel
theorem d_M_goes_117 : decode prog_7_method_26_code 117 = .ok (.getfield 31, 3) := by decide +kernel
theorem d_M_goes_120 : decode prog_7_method_26_code 120 = .ok (.iload 5, 2) := by decide +kernel
theorem d_M_goes_122 : decode prog_7_method_26_code 122 = .ok (.iaload, 1) := by decide +kernel
theorem d_M_goes_123 : decode prog_7_method_26_code 123 = .ok (.iload_n 1, 1) := by decide +kernel
theorem d_M_goes_124 : decode prog_7_method_26_code 124 = .ok (.if_icmp .ne 29, 3) := by decide +kernel
theorem d_M_goes_127 : decode prog_7_method_26_code 127 = .ok (.aload_n 0, 1) := by decide +kernel
theorem d_M_goes_128 : decode prog_7_method_26_code 128 = .ok (.getfield 40, 3) := by decide +kernel
theorem d_M_goes_131 : decode prog_7_method_26_code 131 = .ok (.bipush 8, 2) := by decide +kernel
theorem d_M_goes_133 : decode prog_7_method_26_code 133 = .ok (.iload_n 1, 1) := by decide +kernel
theorem d_M_goes_134 : decode prog_7_method_26_code 134 = .ok (.imul, 1) := by decide +kernel
theorem d_M_goes_135 : decode prog_7_method_26_code 135 = .ok (.iload 5, 2) := by decide +kernel
theorem d_M_goes_137 : decode prog_7_method_26_code 137 = .ok (.iadd, 1) := by decide +kernel
theorem d_M_goes_138 : decode prog_7_method_26_code 138 = .ok (.iaload, 1) := by decide +kernel
theorem d_M_goes_139 : decode prog_7_method_26_code 139 = .ok (.aload_n 0, 1) := by decide +kernel
theorem d_M_goes_140 : decode prog_7_method_26_code 140 = .ok (.getfield 40, 3) := by decide +kernel
theorem d_M_goes_143 : decode prog_7_method_26_code 143 = .ok (.bipush 8, 2) := by decide +kernel
theorem d_M_goes_145 : decode prog_7_method_26_code 145 = .ok (.iload_n 1, 1) := by decide +kernel
theorem d_M_goes_146 : decode prog_7_method_26_code 146 = .ok (.imul, 1) := by decide +kernel
theorem d_M_goes_147 : decode prog_7_method_26_code 147 = .ok (.iload_n 2, 1) := by decide +kernel
theorem d_M_goes_148 : decode prog_7_method_26_code 148 = .ok (.iadd, 1) := by decide +kernel
theorem d_M_goes_149 : decode prog_7_method_26_code 149 = .ok (.iaload, 1) := by decide +kernel
theorem d_M_goes_150 : decode prog_7_method_26_code 150 = .ok (.if_icmp .lt 7, 3) := by decide +kernel
theorem d_M_goes_153 : decode prog_7_method_26_code 153 = .ok (.iconst 1, 1) := by decide +kernel
theorem d_M_goes_154 : decode prog_7_method_26_code 154 = .ok (.goto 4, 3) := by decide +kernel
theorem d_M_goes_157 : decode prog_7_method_26_code 157 = .ok (.iconst 0, 1) := by decide +kernel
theorem d_M_goes_158 : decode prog_7_method_26_code 158 = .ok (.istore 4, 2) := by decide +kernel
theorem d_M_goes_160 : decode prog_7_method_26_code 160 = .ok (.iinc 5 1, 3) := by decide +kernel
theorem d_M_goes_163 : decode prog_7_method_26_code 163 = .ok (.goto (-139), 3) := by decide +kernel
theorem d_M_goes_166 : decode prog_7_method_26_code 166 = .ok (.iload 4, 2) := by decide +kernel
theorem d_M_goes_168 : decode prog_7_method_26_code 168 = .ok (.ifCond .eq 46, 3) := by decide +kernel
theorem d_M_goes_171 : decode prog_7_method_26_code 171 = .ok (.iload_n 3, 1) := by decide +kernel
theorem d_M_goes_172 : decode prog_7_method_26_code 172 = .ok (.ifCond .ne 38, 3) := by decide +kernel
theorem d_M_goes_175 : decode prog_7_method_26_code 175 = .ok (.iload_n 2, 1) := by decide +kernel
theorem d_M_goes_176 : decode prog_7_method_26_code 176 = .ok (.iload_n 1, 1) := by decide +kernel
theorem d_M_goes_177 : decode prog_7_method_26_code 177 = .ok (.if_icmp .ge 33, 3) := by decide +kernel
theorem d_M_goes_180 : decode prog_7_method_26_code 180 = .ok (.aload_n 0, 1) := by decide +kernel
theorem d_M_goes_181 : decode prog_7_method_26_code 181 = .ok (.getfield 40, 3) := by decide +kernel
theorem d_M_goes_184 : decode prog_7_method_26_code 184 = .ok (.bipush 8, 2) := by decide +kernel
theorem d_M_goes_186 : decode prog_7_method_26_code 186 = .ok (.iload_n 2, 1) := by decide +kernel
theorem d_M_goes_187 : decode prog_7_method_26_code 187 = .ok (.imul, 1) := by decide +kernel
theorem d_M_goes_188 : decode prog_7_method_26_code 188 = .ok (.iload_n 1, 1) := by decide +kernel
theorem d_M_goes_189 : decode prog_7_method_26_code 189 = .ok (.iadd, 1) := by decide +kernel
theorem d_M_goes_190 : decode prog_7_method_26_code 190 = .ok (.iaload, 1) := by decide +kernel
theorem d_M_goes_191 : decode prog_7_method_26_code 191 = .ok (.aload_n 0, 1) := by decide +kernel
theorem d_M_goes_192 : decode prog_7_method_26_code 192 = .ok (.getfield 40, 3) := by decide +kernel
theorem d_M_goes_195 : decode prog_7_method_26_code 195 = .ok (.bipush 8, 2) := by decide +kernel
theorem d_M_goes_197 : decode prog_7_method_26_code 197 = .ok (.iload_n 2, 1) := by decide +kernel
theorem d_M_goes_198 : decode prog_7_method_26_code 198 = .ok (.imul, 1) := by decide +kernel
theorem d_M_goes_199 : decode prog_7_method_26_code 199 = .ok (.aload_n 0, 1) := by decide +kernel
theorem d_M_goes_200 : decode prog_7_method_26_code 200 = .ok (.getfield 31, 3) := by decide +kernel
theorem d_M_goes_203 : decode prog_7_method_26_code 203 = .ok (.iload_n 2, 1) := by decide +kernel
theorem d_M_goes_204 : decode prog_7_method_26_code 204 = .ok (.iaload, 1) := by decide +kernel
theorem d_M_goes_205 : decode prog_7_method_26_code 205 = .ok (.iadd, 1) := by decide +kernel
theorem d_M_goes_206 : decode prog_7_method_26_code 206 = .ok (.iaload, 1) := by decide +kernel
theorem d_M_goes_207 : decode prog_7_method_26_code 207 = .ok (.if_icmp .lt 7, 3) := by decide +kernel
theorem d_M_goes_210 : decode prog_7_method_26_code 210 = .ok (.iconst 1, 1) := by decide +kernel
theorem d_M_goes_211 : decode prog_7_method_26_code 211 = .ok (.goto 4, 3) := by decide +kernel
theorem d_M_goes_214 : decode prog_7_method_26_code 214 = .ok (.iconst 0, 1) := by decide +kernel
theorem d_M_goes_215 : decode prog_7_method_26_code 215 = .ok (.istore 4, 2) := by decide +kernel
theorem d_M_goes_217 : decode prog_7_method_26_code 217 = .ok (.iload 4, 2) := by decide +kernel
theorem d_M_goes_219 : decode prog_7_method_26_code 219 = .ok (.ifCond .eq 29, 3) := by decide +kernel
theorem d_M_goes_222 : decode prog_7_method_26_code 222 = .ok (.aload_n 0, 1) := by decide +kernel
theorem d_M_goes_223 : decode prog_7_method_26_code 223 = .ok (.iload_n 2, 1) := by decide +kernel
theorem d_M_goes_224 : decode prog_7_method_26_code 224 = .ok (.iload_n 1, 1) := by decide +kernel
theorem d_M_goes_225 : decode prog_7_method_26_code 225 = .ok (.invokevirtual 98, 3) := by decide +kernel
theorem d_M_goes_228 : decode prog_7_method_26_code 228 = .ok (.ifCond .eq 20, 3) := by decide +kernel
theorem d_M_goes_231 : decode prog_7_method_26_code 231 = .ok (.iload_n 3, 1) := by decide +kernel
theorem d_M_goes_232 : decode prog_7_method_26_code 232 = .ok (.ifCond .eq 12, 3) := by decide +kernel
theorem d_M_goes_235 : decode prog_7_method_26_code 235 = .ok (.aload_n 0, 1) := by decide +kernel
theorem d_M_goes_236 : decode prog_7_method_26_code 236 = .ok (.iload_n 1, 1) := by decide +kernel
theorem d_M_goes_237 : decode prog_7_method_26_code 237 = .ok (.iload_n 2, 1) := by decide +kernel
theorem d_M_goes_238 : decode prog_7_method_26_code 238 = .ok (.invokevirtual 98, 3) := by decide +kernel
theorem d_M_goes_241 : decode prog_7_method_26_code 241 = .ok (.ifCond .eq 7, 3) := by decide +kernel
theorem d_M_goes_244 : decode prog_7_method_26_code 244 = .ok (.iconst 1, 1) := by decide +kernel
theorem d_M_goes_245 : decode prog_7_method_26_code 245 = .ok (.goto 4, 3) := by decide +kernel
theorem d_M_goes_248 : decode prog_7_method_26_code 248 = .ok (.iconst 0, 1) := by decide +kernel
theorem d_M_goes_249 : decode prog_7_method_26_code 249 = .ok (.ireturn, 1) := by decide +kernel
theorem d_M_mayStay_0 : decode prog_7_method_27_code 0 = .ok (.iconst 1, 1) := by decide +kernel
theorem d_M_mayStay_1 : decode prog_7_method_27_code 1 = .ok (.istore_n 3, 1) := by decide +kernel
theorem d_M_mayStay_2 : decode prog_7_method_27_code 2 = .ok (.iconst 0, 1) := by decide +kernel
theorem d_M_mayStay_3 : decode prog_7_method_27_code 3 = .ok (.istore 4, 2) := by decide +kernel
theorem d_M_mayStay_5 : decode prog_7_method_27_code 5 = .ok (.iload 4, 2) := by decide +kernel
theorem d_M_mayStay_7 : decode prog_7_method_27_code 7 = .ok (.aload_n 0, 1) := by decide +kernel
theorem d_M_mayStay_8 : decode prog_7_method_27_code 8 = .ok (.getfield 47, 3) := by decide +kernel
theorem d_M_mayStay_11 : decode prog_7_method_27_code 11 = .ok (.if_icmp .ge 117, 3) := by decide +kernel
theorem d_M_mayStay_14 : decode prog_7_method_27_code 14 = .ok (.aload_n 0, 1) := by decide +kernel
theorem d_M_mayStay_15 : decode prog_7_method_27_code 15 = .ok (.getfield 40, 3) := by decide +kernel
theorem d_M_mayStay_18 : decode prog_7_method_27_code 18 = .ok (.bipush 8, 2) := by decide +kernel
theorem d_M_mayStay_20 : decode prog_7_method_27_code 20 = .ok (.iload_n 1, 1) := by decide +kernel
theorem d_M_mayStay_21 : decode prog_7_method_27_code 21 = .ok (.imul, 1) := by decide +kernel
theorem d_M_mayStay_22 : decode prog_7_method_27_code 22 = .ok (.iload 4, 2) := by decide +kernel
theorem d_M_mayStay_24 : decode prog_7_method_27_code 24 = .ok (.iadd, 1) := by decide +kernel
theorem d_M_mayStay_25 : decode prog_7_method_27_code 25 = .ok (.iaload, 1) := by decide +kernel
theorem d_M_mayStay_26 : decode prog_7_method_27_code 26 = .ok (.istore 5, 2) := by decide +kernel
theorem d_M_mayStay_28 : decode prog_7_method_27_code 28 = .ok (.aload_n 0, 1) := by decide +kernel
theorem d_M_mayStay_29 : decode prog_7_method_27_code 29 = .ok (.getfield 34, 3) := by decide +kernel
theorem d_M_mayStay_32 : decode prog_7_method_27_code 32 = .ok (.iload 4, 2) := by decide +kernel
theorem d_M_mayStay_34 : decode prog_7_method_27_code 34 = .ok (.iaload, 1) := by decide +kernel
theorem d_M_mayStay_35 : decode prog_7_method_27_code 35 = .ok (.ifCond .lt 69, 3) := by decide +kernel
theorem d_M_mayStay_38 : decode prog_7_method_27_code 38 = .ok (.iload 4, 2) := by decide +kernel
theorem d_M_mayStay_40 : decode prog_7_method_27_code 40 = .ok (.iload_n 1, 1) := by decide +kernel
theorem d_M_mayStay_41 : decode prog_7_method_27_code 41 = .ok (.if_icmp .eq 63, 3) := by decide +kernel
theorem d_M_mayStay_44 : decode prog_7_method_27_code 44 = .ok (.iload 5, 2) := by decide +kernel
theorem d_M_mayStay_46 : decode prog_7_method_27_code 46 = .ok (.bipush 50, 2) := by decide +kernel
theorem d_M_mayStay_48 : decode prog_7_method_27_code 48 = .ok (.if_icmp .ge 56, 3) := by decide +kernel
theorem d_M_mayStay_51 : decode prog_7_method_27_code 51 = .ok (.iload 5, 2) := by decide +kernel
theorem d_M_mayStay_53 : decode prog_7_method_27_code 53 = .ok (.aload_n 0, 1) := by decide +kernel
theorem d_M_mayStay_54 : decode prog_7_method_27_code 54 = .ok (.getfield 40, 3) := by decide +kernel
theorem d_M_mayStay_57 : decode prog_7_method_27_code 57 = .ok (.bipush 8, 2) := by decide +kernel
theorem d_M_mayStay_59 : decode prog_7_method_27_code 59 = .ok (.iload_n 1, 1) := by decide +kernel
theorem d_M_mayStay_60 : decode prog_7_method_27_code 60 = .ok (.imul, 1) := by decide +kernel
theorem d_M_mayStay_61 : decode prog_7_method_27_code 61 = .ok (.iload_n 2, 1) := by decide +kernel
theorem d_M_mayStay_62 : decode prog_7_method_27_code 62 = .ok (.iadd, 1) := by decide +kernel
theorem d_M_mayStay_63 : decode prog_7_method_27_code 63 = .ok (.iaload, 1) := by decide +kernel
theorem d_M_mayStay_64 : decode prog_7_method_27_code 64 = .ok (.if_icmp .ge 40, 3) := by decide +kernel
theorem d_M_mayStay_67 : decode prog_7_method_27_code 67 = .ok (.aload_n 0, 1) := by decide +kernel
theorem d_M_mayStay_68 : decode prog_7_method_27_code 68 = .ok (.getfield 40, 3) := by decide +kernel
theorem d_M_mayStay_71 : decode prog_7_method_27_code 71 = .ok (.bipush 8, 2) := by decide +kernel
theorem d_M_mayStay_73 : decode prog_7_method_27_code 73 = .ok (.iload 4, 2) := by decide +kernel
theorem d_M_mayStay_75 : decode prog_7_method_27_code 75 = .ok (.imul, 1) := by decide +kernel
theorem d_M_mayStay_76 : decode prog_7_method_27_code 76 = .ok (.iload_n 1, 1) := by decide +kernel
theorem d_M_mayStay_77 : decode prog_7_method_27_code 77 = .ok (.iadd, 1) := by decide +kernel
theorem d_M_mayStay_78 : decode prog_7_method_27_code 78 = .ok (.iaload, 1) := by decide +kernel
theorem d_M_mayStay_79 : decode prog_7_method_27_code 79 = .ok (.aload_n 0, 1) := by decide +kernel
theorem d_M_mayStay_80 : decode prog_7_method_27_code 80 = .ok (.getfield 40, 3) := by decide +kernel
theorem d_M_mayStay_83 : decode prog_7_method_27_code 83 = .ok (.bipush 8, 2) := by decide +kernel
theorem d_M_mayStay_85 : decode prog_7_method_27_code 85 = .ok (.iload 4, 2) := by decide +kernel
theorem d_M_mayStay_87 : decode prog_7_method_27_code 87 = .ok (.imul, 1) := by decide +kernel
theorem d_M_mayStay_88 : decode prog_7_method_27_code 88 = .ok (.aload_n 0, 1) := by decide +kernel
theorem d_M_mayStay_89 : decode prog_7_method_27_code 89 = .ok (.getfield 34, 3) := by decide +kernel
theorem d_M_mayStay_92 : decode prog_7_method_27_code 92 = .ok (.iload 4, 2) := by decide +kernel
theorem d_M_mayStay_94 : decode prog_7_method_27_code 94 = .ok (.iaload, 1) := by decide +kernel
theorem d_M_mayStay_95 : decode prog_7_method_27_code 95 = .ok (.iadd, 1) := by decide +kernel
theorem d_M_mayStay_96 : decode prog_7_method_27_code 96 = .ok (.iaload, 1) := by decide +kernel
theorem d_M_mayStay_97 : decode prog_7_method_27_code 97 = .ok (.if_icmp .ge 7, 3) := by decide +kernel
theorem d_M_mayStay_100 : decode prog_7_method_27_code 100 = .ok (.iconst 1, 1) := by decide +kernel
theorem d_M_mayStay_101 : decode prog_7_method_27_code 101 = .ok (.goto 4, 3) := by decide +kernel
theorem d_M_mayStay_104 : decode prog_7_method_27_code 104 = .ok (.iconst 0, 1) := by decide +kernel
theorem d_M_mayStay_105 : decode prog_7_method_27_code 105 = .ok (.istore 6, 2) := by decide +kernel
theorem d_M_mayStay_107 : decode prog_7_method_27_code 107 = .ok (.iload_n 3, 1) := by decide +kernel
theorem d_M_mayStay_108 : decode prog_7_method_27_code 108 = .ok (.ifCond .eq 12, 3) := by decide +kernel
theorem d_M_mayStay_111 : decode prog_7_method_27_code 111 = .ok (.iload 6, 2) := by decide +kernel
theorem d_M_mayStay_113 : decode prog_7_method_27_code 113 = .ok (.ifCond .ne 7, 3) := by decide +kernel
theorem d_M_mayStay_116 : decode prog_7_method_27_code 116 = .ok (.iconst 1, 1) := by decide +kernel
theorem d_M_mayStay_117 : decode prog_7_method_27_code 117 = .ok (.goto 4, 3) := by decide +kernel
theorem d_M_mayStay_120 : decode prog_7_method_27_code 120 = .ok (.iconst 0, 1) := by decide +kernel
theorem d_M_mayStay_121 : decode prog_7_method_27_code 121 = .ok (.istore_n 3, 1) := by decide +kernel
theorem d_M_mayStay_122 : decode prog_7_method_27_code 122 = .ok (.iinc 4 1, 3) := by decide +kernel
theorem d_M_mayStay_125 : decode prog_7_method_27_code 125 = .ok (.goto (-120), 3) := by decide +kernel
theorem d_M_mayStay_128 : decode prog_7_method_27_code 128 = .ok (.iload_n 3, 1) := by decide +kernel
theorem d_M_mayStay_129 : decode prog_7_method_27_code 129 = .ok (.ireturn, 1) := by decide +kernel
theorem d_M_forget_0 : decode prog_7_method_28_code 0 = .ok (.aload_n 0, 1) := by decide +kernel
theorem d_M_forget_1 : decode prog_7_method_28_code 1 = .ok (.getfield 37, 3) := by decide +kernel
theorem d_M_forget_4 : decode prog_7_method_28_code 4 = .ok (.iload_n 1, 1) := by decide +kernel
theorem d_M_forget_5 : decode prog_7_method_28_code 5 = .ok (.iaload, 1) := by decide +kernel
theorem d_M_forget_6 : decode prog_7_method_28_code 6 = .ok (.ifCond .lt 49, 3) := by decide +kernel
theorem d_M_forget_9 : decode prog_7_method_28_code 9 = .ok (.iload_n 2, 1) := by decide +kernel
theorem d_M_forget_10 : decode prog_7_method_28_code 10 = .ok (.ifCond .eq 13, 3) := by decide +kernel
theorem d_M_forget_13 : decode prog_7_method_28_code 13 = .ok (.aload_n 0, 1) := by decide +kernel
theorem d_M_forget_14 : decode prog_7_method_28_code 14 = .ok (.getfield 31, 3) := by decide +kernel
theorem d_M_forget_17 : decode prog_7_method_28_code 17 = .ok (.iload_n 1, 1) := by decide +kernel
theorem d_M_forget_18 : decode prog_7_method_28_code 18 = .ok (.iaload, 1) := by decide +kernel
theorem d_M_forget_19 : decode prog_7_method_28_code 19 = .ok (.iload_n 1, 1) := by decide +kernel
theorem d_M_forget_20 : decode prog_7_method_28_code 20 = .ok (.if_icmp .lt 35, 3) := by decide +kernel
theorem d_M_forget_23 : decode prog_7_method_28_code 23 = .ok (.aload_n 0, 1) := by decide +kernel
theorem d_M_forget_24 : decode prog_7_method_28_code 24 = .ok (.getfield 34, 3) := by decide +kernel
theorem d_M_forget_27 : decode prog_7_method_28_code 27 = .ok (.aload_n 0, 1) := by decide +kernel
theorem d_M_forget_28 : decode prog_7_method_28_code 28 = .ok (.getfield 31, 3) := by decide +kernel
theorem d_M_forget_31 : decode prog_7_method_28_code 31 = .ok (.iload_n 1, 1) := by decide +kernel
theorem d_M_forget_32 : decode prog_7_method_28_code 32 = .ok (.iaload, 1) := by decide +kernel
theorem d_M_forget_33 : decode prog_7_method_28_code 33 = .ok (.iconst (-1), 1) := by decide +kernel
theorem d_M_forget_34 : decode prog_7_method_28_code 34 = .ok (.iastore, 1) := by decide +kernel
theorem d_M_forget_35 : decode prog_7_method_28_code 35 = .ok (.aload_n 0, 1) := by decide +kernel
theorem d_M_forget_36 : decode prog_7_method_28_code 36 = .ok (.getfield 34, 3) := by decide +kernel
theorem d_M_forget_39 : decode prog_7_method_28_code 39 = .ok (.iload_n 1, 1) := by decide +kernel
theorem d_M_forget_40 : decode prog_7_method_28_code 40 = .ok (.iload_n 2, 1) := by decide +kernel
theorem d_M_forget_41 : decode prog_7_method_28_code 41 = .ok (.ifCond .eq 7, 3) := by decide +kernel
theorem d_M_forget_44 : decode prog_7_method_28_code 44 = .ok (.iconst (-1), 1) := by decide +kernel
theorem d_M_forget_45 : decode prog_7_method_28_code 45 = .ok (.goto 9, 3) := by decide +kernel
theorem d_M_forget_48 : decode prog_7_method_28_code 48 = .ok (.aload_n 0, 1) := by decide +kernel
theorem d_M_forget_49 : decode prog_7_method_28_code 49 = .ok (.getfield 34, 3) := by decide +kernel
theorem d_M_forget_52 : decode prog_7_method_28_code 52 = .ok (.iload_n 1, 1) := by decide +kernel
theorem d_M_forget_53 : decode prog_7_method_28_code 53 = .ok (.iaload, 1) := by decide +kernel
theorem d_M_forget_54 : decode prog_7_method_28_code 54 = .ok (.iastore, 1) := by decide +kernel
theorem d_M_forget_55 : decode prog_7_method_28_code 55 = .ok (.return_, 1) := by decide +kernel
theorem d_M_goThrough_0 : decode prog_7_method_29_code 0 = .ok (.iconst 0, 1) := by decide +kernel
theorem d_M_goThrough_1 : decode prog_7_method_29_code 1 = .ok (.istore_n 2, 1) := by decide +kernel
theorem d_M_goThrough_2 : decode prog_7_method_29_code 2 = .ok (.iconst 0, 1) := by decide +kernel
theorem d_M_goThrough_3 : decode prog_7_method_29_code 3 = .ok (.istore_n 3, 1) := by decide +kernel
theorem d_M_goThrough_4 : decode prog_7_method_29_code 4 = .ok (.iconst 0, 1) := by decide +kernel
theorem d_M_goThrough_5 : decode prog_7_method_29_code 5 = .ok (.istore 4, 2) := by decide +kernel
theorem d_M_goThrough_7 : decode prog_7_method_29_code 7 = .ok (.iload 4, 2) := by decide +kernel
theorem d_M_goThrough_9 : decode prog_7_method_29_code 9 = .ok (.aload_n 0, 1) := by decide +kernel
theorem d_M_goThrough_10 : decode prog_7_method_29_code 10 = .ok (.getfield 47, 3) := by decide +kernel
theorem d_M_goThrough_13 : decode prog_7_method_29_code 13 = .ok (.if_icmp .ge 25, 3) := by decide +kernel
theorem d_M_goThrough_16 : decode prog_7_method_29_code 16 = .ok (.aload_n 0, 1) := by decide +kernel
theorem d_M_goThrough_17 : decode prog_7_method_29_code 17 = .ok (.getfield 37, 3) := by decide +kernel
theorem d_M_goThrough_20 : decode prog_7_method_29_code 20 = .ok (.iload 4, 2) := by decide +kernel
theorem d_M_goThrough_22 : decode prog_7_method_29_code 22 = .ok (.iconst (-1), 1) := by decide +kernel
theorem d_M_goThrough_23 : decode prog_7_method_29_code 23 = .ok (.iastore, 1) := by decide +kernel
theorem d_M_goThrough_24 : decode prog_7_method_29_code 24 = .ok (.aload_n 0, 1) := by decide +kernel
theorem d_M_goThrough_25 : decode prog_7_method_29_code 25 = .ok (.getfield 34, 3) := by decide +kernel
theorem d_M_goThrough_28 : decode prog_7_method_29_code 28 = .ok (.iload 4, 2) := by decide +kernel
theorem d_M_goThrough_30 : decode prog_7_method_29_code 30 = .ok (.iconst (-1), 1) := by decide +kernel
theorem d_M_goThrough_31 : decode prog_7_method_29_code 31 = .ok (.iastore, 1) := by decide +kernel
theorem d_M_goThrough_32 : decode prog_7_method_29_code 32 = .ok (.iinc 4 1, 3) := by decide +kernel
theorem d_M_goThrough_35 : decode prog_7_method_29_code 35 = .ok (.goto (-28), 3) := by decide +kernel
theorem d_M_goThrough_38 : decode prog_7_method_29_code 38 = .ok (.iload_n 3, 1) := by decide +kernel
theorem d_M_goThrough_39 : decode prog_7_method_29_code 39 = .ok (.ifCond .ne 151, 3) := by decide +kernel
theorem d_M_goThrough_42 : decode prog_7_method_29_code 42 = .ok (.iload_n 2, 1) := by decide +kernel
theorem d_M_goThrough_43 : decode prog_7_method_29_code 43 = .ok (.aload_n 0, 1) := by decide +kernel
theorem d_M_goThrough_44 : decode prog_7_method_29_code 44 = .ok (.getfield 47, 3) := by decide +kernel
theorem d_M_goThrough_47 : decode prog_7_method_29_code 47 = .ok (.if_icmp .ne 15, 3) := by decide +kernel
theorem d_M_goThrough_50 : decode prog_7_method_29_code 50 = .ok (.aload_n 0, 1) := by decide +kernel
theorem d_M_goThrough_51 : decode prog_7_method_29_code 51 = .ok (.iload_n 1, 1) := by decide +kernel
theorem d_M_goThrough_52 : decode prog_7_method_29_code 52 = .ok (.invokevirtual 101, 3) := by decide +kernel
theorem d_M_goThrough_55 : decode prog_7_method_29_code 55 = .ok (.istore_n 3, 1) := by decide +kernel
theorem d_M_goThrough_56 : decode prog_7_method_29_code 56 = .ok (.iinc 2 (-1), 3) := by decide +kernel
theorem d_M_goThrough_59 : decode prog_7_method_29_code 59 = .ok (.goto 114, 3) := by decide +kernel
theorem d_M_goThrough_62 : decode prog_7_method_29_code 62 = .ok (.aload_n 0, 1) := by decide +kernel
theorem d_M_goThrough_63 : decode prog_7_method_29_code 63 = .ok (.iload_n 2, 1) := by decide +kernel
theorem d_M_goThrough_64 : decode prog_7_method_29_code 64 = .ok (.iload_n 1, 1) := by decide +kernel
theorem d_M_goThrough_65 : decode prog_7_method_29_code 65 = .ok (.invokevirtual 105, 3) := by decide +kernel
theorem d_M_goThrough_68 : decode prog_7_method_29_code 68 = .ok (.aload_n 0, 1) := by decide +kernel
theorem d_M_goThrough_69 : decode prog_7_method_29_code 69 = .ok (.getfield 37, 3) := by decide +kernel
theorem d_M_goThrough_72 : decode prog_7_method_29_code 72 = .ok (.iload_n 2, 1) := by decide +kernel
theorem d_M_goThrough_73 : decode prog_7_method_29_code 73 = .ok (.aload_n 0, 1) := by decide +kernel
theorem d_M_goThrough_74 : decode prog_7_method_29_code 74 = .ok (.iload_n 2, 1) := by decide +kernel
theorem d_M_goThrough_75 : decode prog_7_method_29_code 75 = .ok (.aload_n 0, 1) := by decide +kernel
theorem d_M_goThrough_76 : decode prog_7_method_29_code 76 = .ok (.getfield 37, 3) := by decide +kernel
theorem d_M_goThrough_79 : decode prog_7_method_29_code 79 = .ok (.iload_n 2, 1) := by decide +kernel
theorem d_M_goThrough_80 : decode prog_7_method_29_code 80 = .ok (.iaload, 1) := by decide +kernel
theorem d_M_goThrough_81 : decode prog_7_method_29_code 81 = .ok (.iconst 1, 1) := by decide +kernel
theorem d_M_goThrough_82 : decode prog_7_method_29_code 82 = .ok (.iadd, 1) := by decide +kernel
theorem d_M_goThrough_83 : decode prog_7_method_29_code 83 = .ok (.iload_n 1, 1) := by decide +kernel
theorem d_M_goThrough_84 : decode prog_7_method_29_code 84 = .ok (.invokevirtual 109, 3) := by decide +kernel
theorem d_M_goThrough_87 : decode prog_7_method_29_code 87 = .ok (.iastore, 1) := by decide +kernel
theorem d_M_goThrough_88 : decode prog_7_method_29_code 88 = .ok (.aload_n 0, 1) := by decide +kernel
theorem d_M_goThrough_89 : decode prog_7_method_29_code 89 = .ok (.getfield 37, 3) := by decide +kernel
theorem d_M_goThrough_92 : decode prog_7_method_29_code 92 = .ok (.iload_n 2, 1) := by decide +kernel
theorem d_M_goThrough_93 : decode prog_7_method_29_code 93 = .ok (.iaload, 1) := by decide +kernel
theorem d_M_goThrough_94 : decode prog_7_method_29_code 94 = .ok (.aload_n 0, 1) := by decide +kernel
theorem d_M_goThrough_95 : decode prog_7_method_29_code 95 = .ok (.getfield 7, 3) := by decide +kernel
theorem d_M_goThrough_98 : decode prog_7_method_29_code 98 = .ok (.iload_n 2, 1) := by decide +kernel
theorem d_M_goThrough_99 : decode prog_7_method_29_code 99 = .ok (.iaload, 1) := by decide +kernel
theorem d_M_goThrough_100 : decode prog_7_method_29_code 100 = .ok (.if_icmp .gt 63, 3) := by decide +kernel
theorem d_M_goThrough_103 : decode prog_7_method_29_code 103 = .ok (.aload_n 0, 1) := by decide +kernel
theorem d_M_goThrough_104 : decode prog_7_method_29_code 104 = .ok (.getfield 31, 3) := by decide +kernel
theorem d_M_goThrough_107 : decode prog_7_method_29_code 107 = .ok (.iload_n 2, 1) := by decide +kernel
theorem d_M_goThrough_108 : decode prog_7_method_29_code 108 = .ok (.aload_n 0, 1) := by decide +kernel
theorem d_M_goThrough_109 : decode prog_7_method_29_code 109 = .ok (.iload_n 2, 1) := by decide +kernel
theorem d_M_goThrough_110 : decode prog_7_method_29_code 110 = .ok (.aload_n 0, 1) := by decide +kernel
theorem d_M_goThrough_111 : decode prog_7_method_29_code 111 = .ok (.getfield 37, 3) := by decide +kernel
theorem d_M_goThrough_114 : decode prog_7_method_29_code 114 = .ok (.iload_n 2, 1) := by decide +kernel
theorem d_M_goThrough_115 : decode prog_7_method_29_code 115 = .ok (.iaload, 1) := by decide +kernel
theorem d_M_goThrough_116 : decode prog_7_method_29_code 116 = .ok (.invokevirtual 91, 3) := by decide +kernel
theorem d_M_goThrough_119 : decode prog_7_method_29_code 119 = .ok (.iastore, 1) := by decide +kernel
theorem d_M_goThrough_120 : decode prog_7_method_29_code 120 = .ok (.aload_n 0, 1) := by decide +kernel
theorem d_M_goThrough_121 : decode prog_7_method_29_code 121 = .ok (.getfield 34, 3) := by decide +kernel
theorem d_M_goThrough_124 : decode prog_7_method_29_code 124 = .ok (.aload_n 0, 1) := by decide +kernel
theorem d_M_goThrough_125 : decode prog_7_method_29_code 125 = .ok (.getfield 31, 3) := by decide +kernel
theorem d_M_goThrough_128 : decode prog_7_method_29_code 128 = .ok (.iload_n 2, 1) := by decide +kernel
theorem d_M_goThrough_129 : decode prog_7_method_29_code 129 = .ok (.iaload, 1) := by decide +kernel
theorem d_M_goThrough_130 : decode prog_7_method_29_code 130 = .ok (.iload_n 2, 1) := by decide +kernel
theorem d_M_goThrough_131 : decode prog_7_method_29_code 131 = .ok (.iastore, 1) := by decide +kernel
theorem d_M_goThrough_132 : decode prog_7_method_29_code 132 = .ok (.aload_n 0, 1) := by decide +kernel
theorem d_M_goThrough_133 : decode prog_7_method_29_code 133 = .ok (.getfield 34, 3) := by decide +kernel
theorem d_M_goThrough_136 : decode prog_7_method_29_code 136 = .ok (.iload_n 2, 1) := by decide +kernel
theorem d_M_goThrough_137 : decode prog_7_method_29_code 137 = .ok (.iload_n 1, 1) := by decide +kernel
theorem d_M_goThrough_138 : decode prog_7_method_29_code 138 = .ok (.ifCond .eq 12, 3) := by decide +kernel
theorem d_M_goThrough_141 : decode prog_7_method_29_code 141 = .ok (.aload_n 0, 1) := by decide +kernel
theorem d_M_goThrough_142 : decode prog_7_method_29_code 142 = .ok (.getfield 31, 3) := by decide +kernel
theorem d_M_goThrough_145 : decode prog_7_method_29_code 145 = .ok (.iload_n 2, 1) := by decide +kernel
theorem d_M_goThrough_146 : decode prog_7_method_29_code 146 = .ok (.iaload, 1) := by decide +kernel
theorem d_M_goThrough_147 : decode prog_7_method_29_code 147 = .ok (.goto 9, 3) := by decide +kernel
theorem d_M_goThrough_150 : decode prog_7_method_29_code 150 = .ok (.aload_n 0, 1) := by decide +kernel
theorem d_M_goThrough_151 : decode prog_7_method_29_code 151 = .ok (.getfield 34, 3) := by decide +kernel
theorem d_M_goThrough_154 : decode prog_7_method_29_code 154 = .ok (.iload_n 2, 1) := by decide +kernel
theorem d_M_goThrough_155 : decode prog_7_method_29_code 155 = .ok (.iaload, 1) := by decide +kernel
theorem d_M_goThrough_156 : decode prog_7_method_29_code 156 = .ok (.iastore, 1) := by decide +kernel
theorem d_M_goThrough_157 : decode prog_7_method_29_code 157 = .ok (.iinc 2 1, 3) := by decide +kernel
theorem d_M_goThrough_160 : decode prog_7_method_29_code 160 = .ok (.goto 13, 3) := by decide +kernel
theorem d_M_goThrough_163 : decode prog_7_method_29_code 163 = .ok (.aload_n 0, 1) := by decide +kernel
theorem d_M_goThrough_164 : decode prog_7_method_29_code 164 = .ok (.getfield 37, 3) := by decide +kernel
theorem d_M_goThrough_167 : decode prog_7_method_29_code 167 = .ok (.iload_n 2, 1) := by decide +kernel
theorem d_M_goThrough_168 : decode prog_7_method_29_code 168 = .ok (.iconst (-1), 1) := by decide +kernel
theorem d_M_goThrough_169 : decode prog_7_method_29_code 169 = .ok (.iastore, 1) := by decide +kernel
theorem d_M_goThrough_170 : decode prog_7_method_29_code 170 = .ok (.iinc 2 (-1), 3) := by decide +kernel
theorem d_M_goThrough_173 : decode prog_7_method_29_code 173 = .ok (.iload_n 3, 1) := by decide +kernel
theorem d_M_goThrough_174 : decode prog_7_method_29_code 174 = .ok (.ifCond .ne 7, 3) := by decide +kernel
theorem d_M_goThrough_177 : decode prog_7_method_29_code 177 = .ok (.iload_n 2, 1) := by decide +kernel
theorem d_M_goThrough_178 : decode prog_7_method_29_code 178 = .ok (.ifCond .ge 7, 3) := by decide +kernel
theorem d_M_goThrough_181 : decode prog_7_method_29_code 181 = .ok (.iconst 1, 1) := by decide +kernel
theorem d_M_goThrough_182 : decode prog_7_method_29_code 182 = .ok (.goto 4, 3) := by decide +kernel
theorem d_M_goThrough_185 : decode prog_7_method_29_code 185 = .ok (.iconst 0, 1) := by decide +kernel
theorem d_M_goThrough_186 : decode prog_7_method_29_code 186 = .ok (.istore_n 3, 1) := by decide +kernel
theorem d_M_goThrough_187 : decode prog_7_method_29_code 187 = .ok (.goto (-149), 3) := by decide +kernel
theorem d_M_goThrough_190 : decode prog_7_method_29_code 190 = .ok (.return_, 1) := by decide +kernel
theorem d_M_look_0 : decode prog_7_method_30_code 0 = .ok (.iload_n 1, 1) := by decide +kernel
theorem d_M_look_1 : decode prog_7_method_30_code 1 = .ok (.ifCond .ne 23, 3) := by decide +kernel
theorem d_M_look_4 : decode prog_7_method_30_code 4 = .ok (.aload_n 0, 1) := by decide +kernel
theorem d_M_look_5 : decode prog_7_method_30_code 5 = .ok (.invokevirtual 113, 3) := by decide +kernel
theorem d_M_look_8 : decode prog_7_method_30_code 8 = .ok (.ifCond .eq 14, 3) := by decide +kernel
theorem d_M_look_11 : decode prog_7_method_30_code 11 = .ok (.aload_n 0, 1) := by decide +kernel
theorem d_M_look_12 : decode prog_7_method_30_code 12 = .ok (.invokevirtual 117, 3) := by decide +kernel
theorem d_M_look_15 : decode prog_7_method_30_code 15 = .ok (.ifCond .eq 7, 3) := by decide +kernel
theorem d_M_look_18 : decode prog_7_method_30_code 18 = .ok (.iconst 1, 1) := by decide +kernel
theorem d_M_look_19 : decode prog_7_method_30_code 19 = .ok (.goto 4, 3) := by decide +kernel
theorem d_M_look_22 : decode prog_7_method_30_code 22 = .ok (.iconst 0, 1) := by decide +kernel
theorem d_M_look_23 : decode prog_7_method_30_code 23 = .ok (.ireturn, 1) := by decide +kernel
theorem d_M_look_24 : decode prog_7_method_30_code 24 = .ok (.aload_n 0, 1) := by decide +kernel
theorem d_M_look_25 : decode prog_7_method_30_code 25 = .ok (.aload_n 0, 1) := by decide +kernel
theorem d_M_look_26 : decode prog_7_method_30_code 26 = .ok (.getfield 31, 3) := by decide +kernel
theorem d_M_look_29 : decode prog_7_method_30_code 29 = .ok (.invokevirtual 120, 3) := by decide +kernel
theorem d_M_look_32 : decode prog_7_method_30_code 32 = .ok (.ifCond .ne 5, 3) := by decide +kernel
theorem d_M_look_35 : decode prog_7_method_30_code 35 = .ok (.iconst 0, 1) := by decide +kernel
theorem d_M_look_36 : decode prog_7_method_30_code 36 = .ok (.ireturn, 1) := by decide +kernel
theorem d_M_look_37 : decode prog_7_method_30_code 37 = .ok (.iconst 0, 1) := by decide +kernel
theorem d_M_look_38 : decode prog_7_method_30_code 38 = .ok (.istore_n 2, 1) := by decide +kernel
theorem d_M_look_39 : decode prog_7_method_30_code 39 = .ok (.iload_n 2, 1) := by decide +kernel
theorem d_M_look_40 : decode prog_7_method_30_code 40 = .ok (.aload_n 0, 1) := by decide +kernel
theorem d_M_look_41 : decode prog_7_method_30_code 41 = .ok (.getfield 47, 3) := by decide +kernel
theorem d_M_look_44 : decode prog_7_method_30_code 44 = .ok (.if_icmp .ge 57, 3) := by decide +kernel
theorem d_M_look_47 : decode prog_7_method_30_code 47 = .ok (.aload_n 0, 1) := by decide +kernel
theorem d_M_look_48 : decode prog_7_method_30_code 48 = .ok (.getfield 19, 3) := by decide +kernel
theorem d_M_look_51 : decode prog_7_method_30_code 51 = .ok (.bipush 8, 2) := by decide +kernel
theorem d_M_look_53 : decode prog_7_method_30_code 53 = .ok (.iload_n 2, 1) := by decide +kernel
theorem d_M_look_54 : decode prog_7_method_30_code 54 = .ok (.imul, 1) := by decide +kernel
theorem d_M_look_55 : decode prog_7_method_30_code 55 = .ok (.aload_n 0, 1) := by decide +kernel
theorem d_M_look_56 : decode prog_7_method_30_code 56 = .ok (.getfield 31, 3) := by decide +kernel
theorem d_M_look_59 : decode prog_7_method_30_code 59 = .ok (.iload_n 2, 1) := by decide +kernel
theorem d_M_look_60 : decode prog_7_method_30_code 60 = .ok (.iaload, 1) := by decide +kernel
theorem d_M_look_61 : decode prog_7_method_30_code 61 = .ok (.iadd, 1) := by decide +kernel
theorem d_M_look_62 : decode prog_7_method_30_code 62 = .ok (.dup2, 1) := by decide +kernel
theorem d_M_look_63 : decode prog_7_method_30_code 63 = .ok (.iaload, 1) := by decide +kernel
theorem d_M_look_64 : decode prog_7_method_30_code 64 = .ok (.iconst 1, 1) := by decide +kernel
theorem d_M_look_65 : decode prog_7_method_30_code 65 = .ok (.iadd, 1) := by decide +kernel
theorem d_M_look_66 : decode prog_7_method_30_code 66 = .ok (.iastore, 1) := by decide +kernel
theorem d_M_look_67 : decode prog_7_method_30_code 67 = .ok (.aload_n 0, 1) := by decide +kernel
theorem d_M_look_68 : decode prog_7_method_30_code 68 = .ok (.getfield 22, 3) := by decide +kernel
theorem d_M_look_71 : decode prog_7_method_30_code 71 = .ok (.iload_n 2, 1) := by decide +kernel
theorem d_M_look_72 : decode prog_7_method_30_code 72 = .ok (.aload_n 0, 1) := by decide +kernel
theorem d_M_look_73 : decode prog_7_method_30_code 73 = .ok (.getfield 124, 3) := by decide +kernel
theorem d_M_look_76 : decode prog_7_method_30_code 76 = .ok (.ifCond .ne 12, 3) := by decide +kernel
theorem d_M_look_79 : decode prog_7_method_30_code 79 = .ok (.aload_n 0, 1) := by decide +kernel
theorem d_M_look_80 : decode prog_7_method_30_code 80 = .ok (.getfield 31, 3) := by decide +kernel
theorem d_M_look_83 : decode prog_7_method_30_code 83 = .ok (.iload_n 2, 1) := by decide +kernel
theorem d_M_look_84 : decode prog_7_method_30_code 84 = .ok (.iaload, 1) := by decide +kernel
theorem d_M_look_85 : decode prog_7_method_30_code 85 = .ok (.goto 9, 3) := by decide +kernel
theorem d_M_look_88 : decode prog_7_method_30_code 88 = .ok (.aload_n 0, 1) := by decide +kernel
theorem d_M_look_89 : decode prog_7_method_30_code 89 = .ok (.getfield 22, 3) := by decide +kernel
theorem d_M_look_92 : decode prog_7_method_30_code 92 = .ok (.iload_n 2, 1) := by decide +kernel
theorem d_M_look_93 : decode prog_7_method_30_code 93 = .ok (.iaload, 1) := by decide +kernel
theorem d_M_look_94 : decode prog_7_method_30_code 94 = .ok (.iastore, 1) := by decide +kernel
theorem d_M_look_95 : decode prog_7_method_30_code 95 = .ok (.iinc 2 1, 3) := by decide +kernel
theorem d_M_look_98 : decode prog_7_method_30_code 98 = .ok (.goto (-59), 3) := by decide +kernel
theorem d_M_look_101 : decode prog_7_method_30_code 101 = .ok (.aload_n 0, 1) := by decide +kernel
theorem d_M_look_102 : decode prog_7_method_30_code 102 = .ok (.dup, 1) := by decide +kernel
theorem d_M_look_103 : decode prog_7_method_30_code 103 = .ok (.getfield 124, 3) := by decide +kernel
theorem d_M_look_106 : decode prog_7_method_30_code 106 = .ok (.iconst 1, 1) := by decide +kernel
theorem d_M_look_107 : decode prog_7_method_30_code 107 = .ok (.iadd, 1) := by decide +kernel
theorem d_M_look_108 : decode prog_7_method_30_code 108 = .ok (.putfield 124, 3) := by decide +kernel
theorem d_M_look_111 : decode prog_7_method_30_code 111 = .ok (.iconst 0, 1) := by decide +kernel
theorem d_M_look_112 : decode prog_7_method_30_code 112 = .ok (.ireturn, 1) := by decide +kernel
theorem d_M_isPartition_0 : decode prog_7_method_31_code 0 = .ok (.iconst 0, 1) := by decide +kernel
theorem d_M_isPartition_1 : decode prog_7_method_31_code 1 = .ok (.istore_n 1, 1) := by decide +kernel
theorem d_M_isPartition_2 : decode prog_7_method_31_code 2 = .ok (.iload_n 1, 1) := by decide +kernel
theorem d_M_isPartition_3 : decode prog_7_method_31_code 3 = .ok (.aload_n 0, 1) := by decide +kernel
theorem d_M_isPartition_4 : decode prog_7_method_31_code 4 = .ok (.getfield 47, 3) := by decide +kernel
theorem d_M_isPartition_7 : decode prog_7_method_31_code 7 = .ok (.if_icmp .ge 21, 3) := by decide +kernel
theorem d_M_isPartition_10 : decode prog_7_method_31_code 10 = .ok (.aload_n 0, 1) := by decide +kernel
theorem d_M_isPartition_11 : decode prog_7_method_31_code 11 = .ok (.getfield 34, 3) := by decide +kernel
theorem d_M_isPartition_14 : decode prog_7_method_31_code 14 = .ok (.aload_n 0, 1) := by decide +kernel
theorem d_M_isPartition_15 : decode prog_7_method_31_code 15 = .ok (.getfield 31, 3) := by decide +kernel
theorem d_M_isPartition_18 : decode prog_7_method_31_code 18 = .ok (.iload_n 1, 1) := by decide +kernel
theorem d_M_isPartition_19 : decode prog_7_method_31_code 19 = .ok (.iaload, 1) := by decide +kernel
theorem d_M_isPartition_20 : decode prog_7_method_31_code 20 = .ok (.iload_n 1, 1) := by decide +kernel
theorem d_M_isPartition_21 : decode prog_7_method_31_code 21 = .ok (.iastore, 1) := by decide +kernel
theorem d_M_isPartition_22 : decode prog_7_method_31_code 22 = .ok (.iinc 1 1, 3) := by decide +kernel
theorem d_M_isPartition_25 : decode prog_7_method_31_code 25 = .ok (.goto (-23), 3) := by decide +kernel
theorem d_M_isPartition_28 : decode prog_7_method_31_code 28 = .ok (.aload_n 0, 1) := by decide +kernel
theorem d_M_isPartition_29 : decode prog_7_method_31_code 29 = .ok (.aload_n 0, 1) := by decide +kernel
theorem d_M_isPartition_30 : decode prog_7_method_31_code 30 = .ok (.getfield 34, 3) := by decide +kernel
theorem d_M_isPartition_33 : decode prog_7_method_31_code 33 = .ok (.invokevirtual 120, 3) := by decide +kernel
theorem d_M_isPartition_36 : decode prog_7_method_31_code 36 = .ok (.ireturn, 1) := by decide +kernel
theorem d_M_takesParties_0 : decode prog_7_method_32_code 0 = .ok (.iconst 0, 1) := by decide +kernel
theorem d_M_takesParties_1 : decode prog_7_method_32_code 1 = .ok (.istore_n 1, 1) := by decide +kernel
theorem d_M_takesParties_2 : decode prog_7_method_32_code 2 = .ok (.iload_n 1, 1) := by decide +kernel
theorem d_M_takesParties_3 : decode prog_7_method_32_code 3 = .ok (.aload_n 0, 1) := by decide +kernel
theorem d_M_takesParties_4 : decode prog_7_method_32_code 4 = .ok (.getfield 47, 3) := by decide +kernel
theorem d_M_takesParties_7 : decode prog_7_method_32_code 7 = .ok (.if_icmp .ge 77, 3) := by decide +kernel
theorem d_M_takesParties_10 : decode prog_7_method_32_code 10 = .ok (.iconst 1, 1) := by decide +kernel
theorem d_M_takesParties_11 : decode prog_7_method_32_code 11 = .ok (.istore_n 2, 1) := by decide +kernel
theorem d_M_takesParties_12 : decode prog_7_method_32_code 12 = .ok (.aload_n 0, 1) := by decide +kernel
theorem d_M_takesParties_13 : decode prog_7_method_32_code 13 = .ok (.getfield 31, 3) := by decide +kernel
theorem d_M_takesParties_16 : decode prog_7_method_32_code 16 = .ok (.iload_n 1, 1) := by decide +kernel
theorem d_M_takesParties_17 : decode prog_7_method_32_code 17 = .ok (.iaload, 1) := by decide +kernel
theorem d_M_takesParties_18 : decode prog_7_method_32_code 18 = .ok (.istore_n 3, 1) := by decide +kernel
theorem d_M_takesParties_19 : decode prog_7_method_32_code 19 = .ok (.iload_n 3, 1) := by decide +kernel
theorem d_M_takesParties_20 : decode prog_7_method_32_code 20 = .ok (.iload_n 1, 1) := by decide +kernel
theorem d_M_takesParties_21 : decode prog_7_method_32_code 21 = .ok (.if_icmp .eq 16, 3) := by decide +kernel
theorem d_M_takesParties_24 : decode prog_7_method_32_code 24 = .ok (.iinc 2 1, 3) := by decide +kernel
theorem d_M_takesParties_27 : decode prog_7_method_32_code 27 = .ok (.aload_n 0, 1) := by decide +kernel
theorem d_M_takesParties_28 : decode prog_7_method_32_code 28 = .ok (.getfield 31, 3) := by decide +kernel
theorem d_M_takesParties_31 : decode prog_7_method_32_code 31 = .ok (.iload_n 3, 1) := by decide +kernel
theorem d_M_takesParties_32 : decode prog_7_method_32_code 32 = .ok (.iaload, 1) := by decide +kernel
theorem d_M_takesParties_33 : decode prog_7_method_32_code 33 = .ok (.istore_n 3, 1) := by decide +kernel
theorem d_M_takesParties_34 : decode prog_7_method_32_code 34 = .ok (.goto (-15), 3) := by decide +kernel
theorem d_M_takesParties_37 : decode prog_7_method_32_code 37 = .ok (.aload_n 0, 1) := by decide +kernel
theorem d_M_takesParties_38 : decode prog_7_method_32_code 38 = .ok (.getfield 28, 3) := by decide +kernel
theorem d_M_takesParties_41 : decode prog_7_method_32_code 41 = .ok (.iload_n 1, 1) := by decide +kernel
theorem d_M_takesParties_42 : decode prog_7_method_32_code 42 = .ok (.iload_n 2, 1) := by decide +kernel
theorem d_M_takesParties_43 : decode prog_7_method_32_code 43 = .ok (.iconst 2, 1) := by decide +kernel
theorem d_M_takesParties_44 : decode prog_7_method_32_code 44 = .ok (.irem, 1) := by decide +kernel
theorem d_M_takesParties_45 : decode prog_7_method_32_code 45 = .ok (.iconst 1, 1) := by decide +kernel
theorem d_M_takesParties_46 : decode prog_7_method_32_code 46 = .ok (.if_icmp .ne 7, 3) := by decide +kernel
theorem d_M_takesParties_49 : decode prog_7_method_32_code 49 = .ok (.iload_n 2, 1) := by decide +kernel
theorem d_M_takesParties_50 : decode prog_7_method_32_code 50 = .ok (.goto 4, 3) := by decide +kernel
theorem d_M_takesParties_53 : decode prog_7_method_32_code 53 = .ok (.iconst 0, 1) := by decide +kernel
theorem d_M_takesParties_54 : decode prog_7_method_32_code 54 = .ok (.iastore, 1) := by decide +kernel
theorem d_M_takesParties_55 : decode prog_7_method_32_code 55 = .ok (.aload_n 0, 1) := by decide +kernel
theorem d_M_takesParties_56 : decode prog_7_method_32_code 56 = .ok (.getfield 25, 3) := by decide +kernel
theorem d_M_takesParties_59 : decode prog_7_method_32_code 59 = .ok (.iload_n 1, 1) := by decide +kernel
theorem d_M_takesParties_60 : decode prog_7_method_32_code 60 = .ok (.iload_n 2, 1) := by decide +kernel
theorem d_M_takesParties_61 : decode prog_7_method_32_code 61 = .ok (.iconst 2, 1) := by decide +kernel
theorem d_M_takesParties_62 : decode prog_7_method_32_code 62 = .ok (.irem, 1) := by decide +kernel
theorem d_M_takesParties_63 : decode prog_7_method_32_code 63 = .ok (.iconst 1, 1) := by decide +kernel
theorem d_M_takesParties_64 : decode prog_7_method_32_code 64 = .ok (.if_icmp .ne 12, 3) := by decide +kernel
theorem d_M_takesParties_67 : decode prog_7_method_32_code 67 = .ok (.aload_n 0, 1) := by decide +kernel
theorem d_M_takesParties_68 : decode prog_7_method_32_code 68 = .ok (.getfield 31, 3) := by decide +kernel
theorem d_M_takesParties_71 : decode prog_7_method_32_code 71 = .ok (.iload_n 1, 1) := by decide +kernel
theorem d_M_takesParties_72 : decode prog_7_method_32_code 72 = .ok (.iaload, 1) := by decide +kernel
theorem d_M_takesParties_73 : decode prog_7_method_32_code 73 = .ok (.goto 4, 3) := by decide +kernel
theorem d_M_takesParties_76 : decode prog_7_method_32_code 76 = .ok (.iconst (-1), 1) := by decide +kernel
theorem d_M_takesParties_77 : decode prog_7_method_32_code 77 = .ok (.iastore, 1) := by decide +kernel
theorem d_M_takesParties_78 : decode prog_7_method_32_code 78 = .ok (.iinc 1 1, 3) := by decide +kernel
theorem d_M_takesParties_81 : decode prog_7_method_32_code 81 = .ok (.goto (-79), 3) := by decide +kernel
theorem d_M_takesParties_84 : decode prog_7_method_32_code 84 = .ok (.iconst 1, 1) := by decide +kernel
theorem d_M_takesParties_85 : decode prog_7_method_32_code 85 = .ok (.ireturn, 1) := by decide +kernel
theorem d_M_learn_0 : decode prog_7_method_33_code 0 = .ok (.aload_n 0, 1) := by decide +kernel
theorem d_M_learn_1 : decode prog_7_method_33_code 1 = .ok (.getfield 58, 3) := by decide +kernel
theorem d_M_learn_4 : decode prog_7_method_33_code 4 = .ok (.ifCond .eq 4, 3) := by decide +kernel
theorem d_M_learn_7 : decode prog_7_method_33_code 7 = .ok (.return_, 1) := by decide +kernel
theorem d_M_learn_8 : decode prog_7_method_33_code 8 = .ok (.aload_n 0, 1) := by decide +kernel
theorem d_M_learn_9 : decode prog_7_method_33_code 9 = .ok (.iconst 1, 1) := by decide +kernel
theorem d_M_learn_10 : decode prog_7_method_33_code 10 = .ok (.putfield 58, 3) := by decide +kernel
theorem d_M_learn_13 : decode prog_7_method_33_code 13 = .ok (.iconst 0, 1) := by decide +kernel
theorem d_M_learn_14 : decode prog_7_method_33_code 14 = .ok (.istore_n 1, 1) := by decide +kernel
theorem d_M_learn_15 : decode prog_7_method_33_code 15 = .ok (.iload_n 1, 1) := by decide +kernel
theorem d_M_learn_16 : decode prog_7_method_33_code 16 = .ok (.aload_n 0, 1) := by decide +kernel
theorem d_M_learn_17 : decode prog_7_method_33_code 17 = .ok (.getfield 47, 3) := by decide +kernel
theorem d_M_learn_20 : decode prog_7_method_33_code 20 = .ok (.if_icmp .ge 66, 3) := by decide +kernel
theorem d_M_learn_23 : decode prog_7_method_33_code 23 = .ok (.iconst 0, 1) := by decide +kernel
theorem d_M_learn_24 : decode prog_7_method_33_code 24 = .ok (.istore_n 2, 1) := by decide +kernel
theorem d_M_learn_25 : decode prog_7_method_33_code 25 = .ok (.iload_n 2, 1) := by decide +kernel
theorem d_M_learn_26 : decode prog_7_method_33_code 26 = .ok (.aload_n 0, 1) := by decide +kernel
theorem d_M_learn_27 : decode prog_7_method_33_code 27 = .ok (.getfield 47, 3) := by decide +kernel
theorem d_M_learn_30 : decode prog_7_method_33_code 30 = .ok (.if_icmp .ge 50, 3) := by decide +kernel
theorem d_M_learn_33 : decode prog_7_method_33_code 33 = .ok (.aload_n 0, 1) := by decide +kernel
theorem d_M_learn_34 : decode prog_7_method_33_code 34 = .ok (.getfield 40, 3) := by decide +kernel
theorem d_M_learn_37 : decode prog_7_method_33_code 37 = .ok (.bipush 8, 2) := by decide +kernel
theorem d_M_learn_39 : decode prog_7_method_33_code 39 = .ok (.iload_n 1, 1) := by decide +kernel
theorem d_M_learn_40 : decode prog_7_method_33_code 40 = .ok (.imul, 1) := by decide +kernel
theorem d_M_learn_41 : decode prog_7_method_33_code 41 = .ok (.iload_n 2, 1) := by decide +kernel
theorem d_M_learn_42 : decode prog_7_method_33_code 42 = .ok (.iadd, 1) := by decide +kernel
theorem d_M_learn_43 : decode prog_7_method_33_code 43 = .ok (.iload_n 1, 1) := by decide +kernel
theorem d_M_learn_44 : decode prog_7_method_33_code 44 = .ok (.iload_n 2, 1) := by decide +kernel
theorem d_M_learn_45 : decode prog_7_method_33_code 45 = .ok (.if_icmp .ne 8, 3) := by decide +kernel
theorem d_M_learn_48 : decode prog_7_method_33_code 48 = .ok (.bipush 50, 2) := by decide +kernel
theorem d_M_learn_50 : decode prog_7_method_33_code 50 = .ok (.goto 23, 3) := by decide +kernel
theorem d_M_learn_53 : decode prog_7_method_33_code 53 = .ok (.aload_n 0, 1) := by decide +kernel
theorem d_M_learn_54 : decode prog_7_method_33_code 54 = .ok (.iload_n 1, 1) := by decide +kernel
theorem d_M_learn_55 : decode prog_7_method_33_code 55 = .ok (.iload_n 2, 1) := by decide +kernel
theorem d_M_learn_56 : decode prog_7_method_33_code 56 = .ok (.invokevirtual 54, 3) := by decide +kernel
theorem d_M_learn_59 : decode prog_7_method_33_code 59 = .ok (.ifCond .eq 12, 3) := by decide +kernel
theorem d_M_learn_62 : decode prog_7_method_33_code 62 = .ok (.aload_n 0, 1) := by decide +kernel
theorem d_M_learn_63 : decode prog_7_method_33_code 63 = .ok (.iload_n 1, 1) := by decide +kernel
theorem d_M_learn_64 : decode prog_7_method_33_code 64 = .ok (.iload_n 2, 1) := by decide +kernel
theorem d_M_learn_65 : decode prog_7_method_33_code 65 = .ok (.invokevirtual 50, 3) := by decide +kernel
theorem d_M_learn_68 : decode prog_7_method_33_code 68 = .ok (.goto 5, 3) := by decide +kernel
theorem d_M_learn_71 : decode prog_7_method_33_code 71 = .ok (.bipush 99, 2) := by decide +kernel
theorem d_M_learn_73 : decode prog_7_method_33_code 73 = .ok (.iastore, 1) := by decide +kernel
theorem d_M_learn_74 : decode prog_7_method_33_code 74 = .ok (.iinc 2 1, 3) := by decide +kernel
theorem d_M_learn_77 : decode prog_7_method_33_code 77 = .ok (.goto (-52), 3) := by decide +kernel
theorem d_M_learn_80 : decode prog_7_method_33_code 80 = .ok (.iinc 1 1, 3) := by decide +kernel
theorem d_M_learn_83 : decode prog_7_method_33_code 83 = .ok (.goto (-68), 3) := by decide +kernel
theorem d_M_learn_86 : decode prog_7_method_33_code 86 = .ok (.aload_n 0, 1) := by decide +kernel
theorem d_M_learn_87 : decode prog_7_method_33_code 87 = .ok (.iconst 0, 1) := by decide +kernel
theorem d_M_learn_88 : decode prog_7_method_33_code 88 = .ok (.putfield 124, 3) := by decide +kernel
theorem d_M_learn_91 : decode prog_7_method_33_code 91 = .ok (.iconst 0, 1) := by decide +kernel
theorem d_M_learn_92 : decode prog_7_method_33_code 92 = .ok (.istore_n 1, 1) := by decide +kernel
theorem d_M_learn_93 : decode prog_7_method_33_code 93 = .ok (.iload_n 1, 1) := by decide +kernel
theorem d_M_learn_94 : decode prog_7_method_33_code 94 = .ok (.bipush 64, 2) := by decide +kernel
theorem d_M_learn_96 : decode prog_7_method_33_code 96 = .ok (.if_icmp .ge 16, 3) := by decide +kernel
theorem d_M_learn_99 : decode prog_7_method_33_code 99 = .ok (.aload_n 0, 1) := by decide +kernel
theorem d_M_learn_100 : decode prog_7_method_33_code 100 = .ok (.getfield 19, 3) := by decide +kernel
theorem d_M_learn_103 : decode prog_7_method_33_code 103 = .ok (.iload_n 1, 1) := by decide +kernel
theorem d_M_learn_104 : decode prog_7_method_33_code 104 = .ok (.iconst 0, 1) := by decide +kernel
theorem d_M_learn_105 : decode prog_7_method_33_code 105 = .ok (.iastore, 1) := by decide +kernel
theorem d_M_learn_106 : decode prog_7_method_33_code 106 = .ok (.iinc 1 1, 3) := by decide +kernel
theorem d_M_learn_109 : decode prog_7_method_33_code 109 = .ok (.goto (-16), 3) := by decide +kernel
theorem d_M_learn_112 : decode prog_7_method_33_code 112 = .ok (.aload_n 0, 1) := by decide +kernel
theorem d_M_learn_113 : decode prog_7_method_33_code 113 = .ok (.iconst 1, 1) := by decide +kernel
theorem d_M_learn_114 : decode prog_7_method_33_code 114 = .ok (.invokevirtual 127, 3) := by decide +kernel
theorem d_M_learn_117 : decode prog_7_method_33_code 117 = .ok (.aload_n 0, 1) := by decide +kernel
theorem d_M_learn_118 : decode prog_7_method_33_code 118 = .ok (.iconst 0, 1) := by decide +kernel
theorem d_M_learn_119 : decode prog_7_method_33_code 119 = .ok (.invokevirtual 127, 3) := by decide +kernel
theorem d_M_learn_122 : decode prog_7_method_33_code 122 = .ok (.aload_n 0, 1) := by decide +kernel
theorem d_M_learn_123 : decode prog_7_method_33_code 123 = .ok (.iconst 0, 1) := by decide +kernel
theorem d_M_learn_124 : decode prog_7_method_33_code 124 = .ok (.putfield 131, 3) := by decide +kernel
theorem d_M_learn_127 : decode prog_7_method_33_code 127 = .ok (.aload_n 0, 1) := by decide +kernel
theorem d_M_learn_128 : decode prog_7_method_33_code 128 = .ok (.iconst 0, 1) := by decide +kernel
theorem d_M_learn_129 : decode prog_7_method_33_code 129 = .ok (.putfield 134, 3) := by decide +kernel
theorem d_M_learn_132 : decode prog_7_method_33_code 132 = .ok (.iconst 0, 1) := by decide +kernel
theorem d_M_learn_133 : decode prog_7_method_33_code 133 = .ok (.istore_n 1, 1) := by decide +kernel
theorem d_M_learn_134 : decode prog_7_method_33_code 134 = .ok (.iload_n 1, 1) := by decide +kernel
theorem d_M_learn_135 : decode prog_7_method_33_code 135 = .ok (.aload_n 0, 1) := by decide +kernel
theorem d_M_learn_136 : decode prog_7_method_33_code 136 = .ok (.getfield 47, 3) := by decide +kernel
theorem d_M_learn_139 : decode prog_7_method_33_code 139 = .ok (.if_icmp .ge 107, 3) := by decide +kernel
theorem d_M_learn_142 : decode prog_7_method_33_code 142 = .ok (.aload_n 0, 1) := by decide +kernel
theorem d_M_learn_143 : decode prog_7_method_33_code 143 = .ok (.getfield 28, 3) := by decide +kernel
theorem d_M_learn_146 : decode prog_7_method_33_code 146 = .ok (.iload_n 1, 1) := by decide +kernel
theorem d_M_learn_147 : decode prog_7_method_33_code 147 = .ok (.iaload, 1) := by decide +kernel
theorem d_M_learn_148 : decode prog_7_method_33_code 148 = .ok (.ifCond .le 7, 3) := by decide +kernel
theorem d_M_learn_151 : decode prog_7_method_33_code 151 = .ok (.iconst 1, 1) := by decide +kernel
theorem d_M_learn_152 : decode prog_7_method_33_code 152 = .ok (.goto 4, 3) := by decide +kernel
theorem d_M_learn_155 : decode prog_7_method_33_code 155 = .ok (.iconst 0, 1) := by decide +kernel
theorem d_M_learn_156 : decode prog_7_method_33_code 156 = .ok (.istore_n 2, 1) := by decide +kernel
theorem d_M_learn_157 : decode prog_7_method_33_code 157 = .ok (.aload_n 0, 1) := by decide +kernel
theorem d_M_learn_158 : decode prog_7_method_33_code 158 = .ok (.getfield 31, 3) := by decide +kernel
theorem d_M_learn_161 : decode prog_7_method_33_code 161 = .ok (.iload_n 1, 1) := by decide +kernel
theorem d_M_learn_162 : decode prog_7_method_33_code 162 = .ok (.iaload, 1) := by decide +kernel
theorem d_M_learn_163 : decode prog_7_method_33_code 163 = .ok (.istore_n 3, 1) := by decide +kernel
theorem d_M_learn_164 : decode prog_7_method_33_code 164 = .ok (.iload_n 3, 1) := by decide +kernel
theorem d_M_learn_165 : decode prog_7_method_33_code 165 = .ok (.iload_n 1, 1) := by decide +kernel
theorem d_M_learn_166 : decode prog_7_method_33_code 166 = .ok (.if_icmp .eq 28, 3) := by decide +kernel
theorem d_M_learn_169 : decode prog_7_method_33_code 169 = .ok (.iload_n 2, 1) := by decide +kernel
theorem d_M_learn_170 : decode prog_7_method_33_code 170 = .ok (.ifCond .eq 12, 3) := by decide +kernel
theorem d_M_learn_173 : decode prog_7_method_33_code 173 = .ok (.iload_n 3, 1) := by decide +kernel
theorem d_M_learn_174 : decode prog_7_method_33_code 174 = .ok (.iload_n 1, 1) := by decide +kernel
theorem d_M_learn_175 : decode prog_7_method_33_code 175 = .ok (.if_icmp .le 7, 3) := by decide +kernel
theorem d_M_learn_178 : decode prog_7_method_33_code 178 = .ok (.iconst 1, 1) := by decide +kernel
theorem d_M_learn_179 : decode prog_7_method_33_code 179 = .ok (.goto 4, 3) := by decide +kernel
