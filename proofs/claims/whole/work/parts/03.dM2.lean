/-! what stands where: M -/
theorem d_M_learn_182 : decode prog_7_method_33_code 182 = .ok (.iconst 0, 1) := by decide +kernel
theorem d_M_learn_183 : decode prog_7_method_33_code 183 = .ok (.istore_n 2, 1) := by decide +kernel
theorem d_M_learn_184 : decode prog_7_method_33_code 184 = .ok (.aload_n 0, 1) := by decide +kernel
theorem d_M_learn_185 : decode prog_7_method_33_code 185 = .ok (.getfield 31, 3) := by decide +kernel
theorem d_M_learn_188 : decode prog_7_method_33_code 188 = .ok (.iload_n 3, 1) := by decide +kernel
theorem d_M_learn_189 : decode prog_7_method_33_code 189 = .ok (.iaload, 1) := by decide +kernel
theorem d_M_learn_190 : decode prog_7_method_33_code 190 = .ok (.istore_n 3, 1) := by decide +kernel
theorem d_M_learn_191 : decode prog_7_method_33_code 191 = .ok (.goto (-27), 3) := by decide +kernel
theorem d_M_learn_194 : decode prog_7_method_33_code 194 = .ok (.aload_n 0, 1) := by decide +kernel
theorem d_M_learn_195 : decode prog_7_method_33_code 195 = .ok (.dup, 1) := by decide +kernel
theorem d_M_learn_196 : decode prog_7_method_33_code 196 = .ok (.getfield 131, 3) := by decide +kernel
theorem d_M_learn_199 : decode prog_7_method_33_code 199 = .ok (.iload_n 2, 1) := by decide +kernel
theorem d_M_learn_200 : decode prog_7_method_33_code 200 = .ok (.ifCond .eq 7, 3) := by decide +kernel
theorem d_M_learn_203 : decode prog_7_method_33_code 203 = .ok (.iconst 1, 1) := by decide +kernel
theorem d_M_learn_204 : decode prog_7_method_33_code 204 = .ok (.goto 4, 3) := by decide +kernel
theorem d_M_learn_207 : decode prog_7_method_33_code 207 = .ok (.iconst 0, 1) := by decide +kernel
theorem d_M_learn_208 : decode prog_7_method_33_code 208 = .ok (.iadd, 1) := by decide +kernel
theorem d_M_learn_209 : decode prog_7_method_33_code 209 = .ok (.putfield 131, 3) := by decide +kernel
theorem d_M_learn_212 : decode prog_7_method_33_code 212 = .ok (.aload_n 0, 1) := by decide +kernel
theorem d_M_learn_213 : decode prog_7_method_33_code 213 = .ok (.dup, 1) := by decide +kernel
theorem d_M_learn_214 : decode prog_7_method_33_code 214 = .ok (.getfield 134, 3) := by decide +kernel
theorem d_M_learn_217 : decode prog_7_method_33_code 217 = .ok (.iload_n 2, 1) := by decide +kernel
theorem d_M_learn_218 : decode prog_7_method_33_code 218 = .ok (.ifCond .eq 17, 3) := by decide +kernel
theorem d_M_learn_221 : decode prog_7_method_33_code 221 = .ok (.aload_n 0, 1) := by decide +kernel
theorem d_M_learn_222 : decode prog_7_method_33_code 222 = .ok (.getfield 28, 3) := by decide +kernel
theorem d_M_learn_225 : decode prog_7_method_33_code 225 = .ok (.iload_n 1, 1) := by decide +kernel
theorem d_M_learn_226 : decode prog_7_method_33_code 226 = .ok (.iaload, 1) := by decide +kernel
theorem d_M_learn_227 : decode prog_7_method_33_code 227 = .ok (.iconst 1, 1) := by decide +kernel
theorem d_M_learn_228 : decode prog_7_method_33_code 228 = .ok (.if_icmp .le 7, 3) := by decide +kernel
theorem d_M_learn_231 : decode prog_7_method_33_code 231 = .ok (.iconst 1, 1) := by decide +kernel
theorem d_M_learn_232 : decode prog_7_method_33_code 232 = .ok (.goto 4, 3) := by decide +kernel
theorem d_M_learn_235 : decode prog_7_method_33_code 235 = .ok (.iconst 0, 1) := by decide +kernel
theorem d_M_learn_236 : decode prog_7_method_33_code 236 = .ok (.iadd, 1) := by decide +kernel
theorem d_M_learn_237 : decode prog_7_method_33_code 237 = .ok (.putfield 134, 3) := by decide +kernel
theorem d_M_learn_240 : decode prog_7_method_33_code 240 = .ok (.iinc 1 1, 3) := by decide +kernel
theorem d_M_learn_243 : decode prog_7_method_33_code 243 = .ok (.goto (-109), 3) := by decide +kernel
theorem d_M_learn_246 : decode prog_7_method_33_code 246 = .ok (.return_, 1) := by decide +kernel
theorem d_M_matchings_0 : decode prog_7_method_34_code 0 = .ok (.aload_n 0, 1) := by decide +kernel
theorem d_M_matchings_1 : decode prog_7_method_34_code 1 = .ok (.iconst 0, 1) := by decide +kernel
theorem d_M_matchings_2 : decode prog_7_method_34_code 2 = .ok (.putfield 43, 3) := by decide +kernel
theorem d_M_matchings_5 : decode prog_7_method_34_code 5 = .ok (.aload_n 0, 1) := by decide +kernel
theorem d_M_matchings_6 : decode prog_7_method_34_code 6 = .ok (.invokevirtual 137, 3) := by decide +kernel
theorem d_M_matchings_9 : decode prog_7_method_34_code 9 = .ok (.aload_n 0, 1) := by decide +kernel
theorem d_M_matchings_10 : decode prog_7_method_34_code 10 = .ok (.getfield 124, 3) := by decide +kernel
theorem d_M_matchings_13 : decode prog_7_method_34_code 13 = .ok (.ireturn, 1) := by decide +kernel
theorem d_M_matched_0 : decode prog_7_method_35_code 0 = .ok (.aload_n 0, 1) := by decide +kernel
theorem d_M_matched_1 : decode prog_7_method_35_code 1 = .ok (.aload_n 0, 1) := by decide +kernel
theorem d_M_matched_2 : decode prog_7_method_35_code 2 = .ok (.iload_n 1, 1) := by decide +kernel
theorem d_M_matched_3 : decode prog_7_method_35_code 3 = .ok (.invokevirtual 62, 3) := by decide +kernel
theorem d_M_matched_6 : decode prog_7_method_35_code 6 = .ok (.ifCond .eq 7, 3) := by decide +kernel
theorem d_M_matched_9 : decode prog_7_method_35_code 9 = .ok (.iconst 0, 1) := by decide +kernel
theorem d_M_matched_10 : decode prog_7_method_35_code 10 = .ok (.goto 4, 3) := by decide +kernel
theorem d_M_matched_13 : decode prog_7_method_35_code 13 = .ok (.iconst 1, 1) := by decide +kernel
theorem d_M_matched_14 : decode prog_7_method_35_code 14 = .ok (.putfield 43, 3) := by decide +kernel
theorem d_M_matched_17 : decode prog_7_method_35_code 17 = .ok (.aload_n 0, 1) := by decide +kernel
theorem d_M_matched_18 : decode prog_7_method_35_code 18 = .ok (.getfield 43, 3) := by decide +kernel
theorem d_M_matched_21 : decode prog_7_method_35_code 21 = .ok (.ifCond .le 5, 3) := by decide +kernel
theorem d_M_matched_24 : decode prog_7_method_35_code 24 = .ok (.iconst 0, 1) := by decide +kernel
theorem d_M_matched_25 : decode prog_7_method_35_code 25 = .ok (.ireturn, 1) := by decide +kernel
theorem d_M_matched_26 : decode prog_7_method_35_code 26 = .ok (.aload_n 0, 1) := by decide +kernel
theorem d_M_matched_27 : decode prog_7_method_35_code 27 = .ok (.invokevirtual 137, 3) := by decide +kernel
theorem d_M_matched_30 : decode prog_7_method_35_code 30 = .ok (.aload_n 0, 1) := by decide +kernel
theorem d_M_matched_31 : decode prog_7_method_35_code 31 = .ok (.getfield 124, 3) := by decide +kernel
theorem d_M_matched_34 : decode prog_7_method_35_code 34 = .ok (.ifCond .ne 7, 3) := by decide +kernel
theorem d_M_matched_37 : decode prog_7_method_35_code 37 = .ok (.iconst (-1), 1) := by decide +kernel
theorem d_M_matched_38 : decode prog_7_method_35_code 38 = .ok (.goto 9, 3) := by decide +kernel
theorem d_M_matched_41 : decode prog_7_method_35_code 41 = .ok (.aload_n 0, 1) := by decide +kernel
theorem d_M_matched_42 : decode prog_7_method_35_code 42 = .ok (.getfield 22, 3) := by decide +kernel
theorem d_M_matched_45 : decode prog_7_method_35_code 45 = .ok (.iload_n 1, 1) := by decide +kernel
theorem d_M_matched_46 : decode prog_7_method_35_code 46 = .ok (.iaload, 1) := by decide +kernel
theorem d_M_matched_47 : decode prog_7_method_35_code 47 = .ok (.ireturn, 1) := by decide +kernel
theorem d_M_extreme_0 : decode prog_7_method_36_code 0 = .ok (.aload_n 0, 1) := by decide +kernel
theorem d_M_extreme_1 : decode prog_7_method_36_code 1 = .ok (.aload_n 0, 1) := by decide +kernel
theorem d_M_extreme_2 : decode prog_7_method_36_code 2 = .ok (.iload_n 1, 1) := by decide +kernel
theorem d_M_extreme_3 : decode prog_7_method_36_code 3 = .ok (.invokevirtual 62, 3) := by decide +kernel
theorem d_M_extreme_6 : decode prog_7_method_36_code 6 = .ok (.ifCond .eq 7, 3) := by decide +kernel
theorem d_M_extreme_9 : decode prog_7_method_36_code 9 = .ok (.iconst 0, 1) := by decide +kernel
theorem d_M_extreme_10 : decode prog_7_method_36_code 10 = .ok (.goto 4, 3) := by decide +kernel
theorem d_M_extreme_13 : decode prog_7_method_36_code 13 = .ok (.iconst 1, 1) := by decide +kernel
theorem d_M_extreme_14 : decode prog_7_method_36_code 14 = .ok (.putfield 43, 3) := by decide +kernel
theorem d_M_extreme_17 : decode prog_7_method_36_code 17 = .ok (.aload_n 0, 1) := by decide +kernel
theorem d_M_extreme_18 : decode prog_7_method_36_code 18 = .ok (.getfield 43, 3) := by decide +kernel
theorem d_M_extreme_21 : decode prog_7_method_36_code 21 = .ok (.ifCond .le 5, 3) := by decide +kernel
theorem d_M_extreme_24 : decode prog_7_method_36_code 24 = .ok (.iconst 0, 1) := by decide +kernel
theorem d_M_extreme_25 : decode prog_7_method_36_code 25 = .ok (.ireturn, 1) := by decide +kernel
theorem d_M_extreme_26 : decode prog_7_method_36_code 26 = .ok (.aload_n 0, 1) := by decide +kernel
theorem d_M_extreme_27 : decode prog_7_method_36_code 27 = .ok (.invokevirtual 137, 3) := by decide +kernel
theorem d_M_extreme_30 : decode prog_7_method_36_code 30 = .ok (.iconst (-1), 1) := by decide +kernel
theorem d_M_extreme_31 : decode prog_7_method_36_code 31 = .ok (.istore_n 3, 1) := by decide +kernel
theorem d_M_extreme_32 : decode prog_7_method_36_code 32 = .ok (.iconst 0, 1) := by decide +kernel
theorem d_M_extreme_33 : decode prog_7_method_36_code 33 = .ok (.istore 4, 2) := by decide +kernel
theorem d_M_extreme_35 : decode prog_7_method_36_code 35 = .ok (.iload 4, 2) := by decide +kernel
theorem d_M_extreme_37 : decode prog_7_method_36_code 37 = .ok (.aload_n 0, 1) := by decide +kernel
theorem d_M_extreme_38 : decode prog_7_method_36_code 38 = .ok (.getfield 7, 3) := by decide +kernel
theorem d_M_extreme_41 : decode prog_7_method_36_code 41 = .ok (.iload_n 1, 1) := by decide +kernel
theorem d_M_extreme_42 : decode prog_7_method_36_code 42 = .ok (.iaload, 1) := by decide +kernel
theorem d_M_extreme_43 : decode prog_7_method_36_code 43 = .ok (.if_icmp .gt 61, 3) := by decide +kernel
theorem d_M_extreme_46 : decode prog_7_method_36_code 46 = .ok (.aload_n 0, 1) := by decide +kernel
theorem d_M_extreme_47 : decode prog_7_method_36_code 47 = .ok (.iload_n 1, 1) := by decide +kernel
theorem d_M_extreme_48 : decode prog_7_method_36_code 48 = .ok (.iload 4, 2) := by decide +kernel
theorem d_M_extreme_50 : decode prog_7_method_36_code 50 = .ok (.invokevirtual 91, 3) := by decide +kernel
theorem d_M_extreme_53 : decode prog_7_method_36_code 53 = .ok (.istore 5, 2) := by decide +kernel
theorem d_M_extreme_55 : decode prog_7_method_36_code 55 = .ok (.aload_n 0, 1) := by decide +kernel
theorem d_M_extreme_56 : decode prog_7_method_36_code 56 = .ok (.getfield 19, 3) := by decide +kernel
theorem d_M_extreme_59 : decode prog_7_method_36_code 59 = .ok (.bipush 8, 2) := by decide +kernel
theorem d_M_extreme_61 : decode prog_7_method_36_code 61 = .ok (.iload_n 1, 1) := by decide +kernel
theorem d_M_extreme_62 : decode prog_7_method_36_code 62 = .ok (.imul, 1) := by decide +kernel
theorem d_M_extreme_63 : decode prog_7_method_36_code 63 = .ok (.iload 5, 2) := by decide +kernel
theorem d_M_extreme_65 : decode prog_7_method_36_code 65 = .ok (.iadd, 1) := by decide +kernel
theorem d_M_extreme_66 : decode prog_7_method_36_code 66 = .ok (.iaload, 1) := by decide +kernel
theorem d_M_extreme_67 : decode prog_7_method_36_code 67 = .ok (.ifCond .le 7, 3) := by decide +kernel
theorem d_M_extreme_70 : decode prog_7_method_36_code 70 = .ok (.iconst 1, 1) := by decide +kernel
theorem d_M_extreme_71 : decode prog_7_method_36_code 71 = .ok (.goto 4, 3) := by decide +kernel
theorem d_M_extreme_74 : decode prog_7_method_36_code 74 = .ok (.iconst 0, 1) := by decide +kernel
theorem d_M_extreme_75 : decode prog_7_method_36_code 75 = .ok (.istore 6, 2) := by decide +kernel
theorem d_M_extreme_77 : decode prog_7_method_36_code 77 = .ok (.iload 6, 2) := by decide +kernel
theorem d_M_extreme_79 : decode prog_7_method_36_code 79 = .ok (.ifCond .eq 17, 3) := by decide +kernel
theorem d_M_extreme_82 : decode prog_7_method_36_code 82 = .ok (.iload_n 2, 1) := by decide +kernel
theorem d_M_extreme_83 : decode prog_7_method_36_code 83 = .ok (.ifCond .ne 8, 3) := by decide +kernel
theorem d_M_extreme_86 : decode prog_7_method_36_code 86 = .ok (.iload_n 3, 1) := by decide +kernel
theorem d_M_extreme_87 : decode prog_7_method_36_code 87 = .ok (.iconst (-1), 1) := by decide +kernel
theorem d_M_extreme_88 : decode prog_7_method_36_code 88 = .ok (.if_icmp .ne 8, 3) := by decide +kernel
theorem d_M_extreme_91 : decode prog_7_method_36_code 91 = .ok (.iload 5, 2) := by decide +kernel
theorem d_M_extreme_93 : decode prog_7_method_36_code 93 = .ok (.goto 4, 3) := by decide +kernel
theorem d_M_extreme_96 : decode prog_7_method_36_code 96 = .ok (.iload_n 3, 1) := by decide +kernel
theorem d_M_extreme_97 : decode prog_7_method_36_code 97 = .ok (.istore_n 3, 1) := by decide +kernel
theorem d_M_extreme_98 : decode prog_7_method_36_code 98 = .ok (.iinc 4 1, 3) := by decide +kernel
theorem d_M_extreme_101 : decode prog_7_method_36_code 101 = .ok (.goto (-66), 3) := by decide +kernel
theorem d_M_extreme_104 : decode prog_7_method_36_code 104 = .ok (.iload_n 3, 1) := by decide +kernel
theorem d_M_extreme_105 : decode prog_7_method_36_code 105 = .ok (.ireturn, 1) := by decide +kernel
theorem d_M_together_0 : decode prog_7_method_37_code 0 = .ok (.aload_n 0, 1) := by decide +kernel
theorem d_M_together_1 : decode prog_7_method_37_code 1 = .ok (.aload_n 0, 1) := by decide +kernel
theorem d_M_together_2 : decode prog_7_method_37_code 2 = .ok (.iload_n 1, 1) := by decide +kernel
theorem d_M_together_3 : decode prog_7_method_37_code 3 = .ok (.invokevirtual 62, 3) := by decide +kernel
theorem d_M_together_6 : decode prog_7_method_37_code 6 = .ok (.ifCond .eq 15, 3) := by decide +kernel
theorem d_M_together_9 : decode prog_7_method_37_code 9 = .ok (.aload_n 0, 1) := by decide +kernel
theorem d_M_together_10 : decode prog_7_method_37_code 10 = .ok (.iload_n 2, 1) := by decide +kernel
theorem d_M_together_11 : decode prog_7_method_37_code 11 = .ok (.invokevirtual 62, 3) := by decide +kernel
theorem d_M_together_14 : decode prog_7_method_37_code 14 = .ok (.ifCond .eq 7, 3) := by decide +kernel
theorem d_M_together_17 : decode prog_7_method_37_code 17 = .ok (.iconst 0, 1) := by decide +kernel
theorem d_M_together_18 : decode prog_7_method_37_code 18 = .ok (.goto 4, 3) := by decide +kernel
theorem d_M_together_21 : decode prog_7_method_37_code 21 = .ok (.iconst 1, 1) := by decide +kernel
theorem d_M_together_22 : decode prog_7_method_37_code 22 = .ok (.putfield 43, 3) := by decide +kernel
theorem d_M_together_25 : decode prog_7_method_37_code 25 = .ok (.aload_n 0, 1) := by decide +kernel
theorem d_M_together_26 : decode prog_7_method_37_code 26 = .ok (.getfield 43, 3) := by decide +kernel
theorem d_M_together_29 : decode prog_7_method_37_code 29 = .ok (.ifCond .le 5, 3) := by decide +kernel
theorem d_M_together_32 : decode prog_7_method_37_code 32 = .ok (.iconst 0, 1) := by decide +kernel
theorem d_M_together_33 : decode prog_7_method_37_code 33 = .ok (.ireturn, 1) := by decide +kernel
theorem d_M_together_34 : decode prog_7_method_37_code 34 = .ok (.aload_n 0, 1) := by decide +kernel
theorem d_M_together_35 : decode prog_7_method_37_code 35 = .ok (.invokevirtual 137, 3) := by decide +kernel
theorem d_M_together_38 : decode prog_7_method_37_code 38 = .ok (.aload_n 0, 1) := by decide +kernel
theorem d_M_together_39 : decode prog_7_method_37_code 39 = .ok (.getfield 19, 3) := by decide +kernel
theorem d_M_together_42 : decode prog_7_method_37_code 42 = .ok (.bipush 8, 2) := by decide +kernel
theorem d_M_together_44 : decode prog_7_method_37_code 44 = .ok (.iload_n 1, 1) := by decide +kernel
theorem d_M_together_45 : decode prog_7_method_37_code 45 = .ok (.imul, 1) := by decide +kernel
theorem d_M_together_46 : decode prog_7_method_37_code 46 = .ok (.iload_n 2, 1) := by decide +kernel
theorem d_M_together_47 : decode prog_7_method_37_code 47 = .ok (.iadd, 1) := by decide +kernel
theorem d_M_together_48 : decode prog_7_method_37_code 48 = .ok (.iaload, 1) := by decide +kernel
theorem d_M_together_49 : decode prog_7_method_37_code 49 = .ok (.ireturn, 1) := by decide +kernel
theorem d_M_party_0 : decode prog_7_method_38_code 0 = .ok (.aload_n 0, 1) := by decide +kernel
theorem d_M_party_1 : decode prog_7_method_38_code 1 = .ok (.aload_n 0, 1) := by decide +kernel
theorem d_M_party_2 : decode prog_7_method_38_code 2 = .ok (.iload_n 1, 1) := by decide +kernel
theorem d_M_party_3 : decode prog_7_method_38_code 3 = .ok (.invokevirtual 62, 3) := by decide +kernel
theorem d_M_party_6 : decode prog_7_method_38_code 6 = .ok (.ifCond .eq 7, 3) := by decide +kernel
theorem d_M_party_9 : decode prog_7_method_38_code 9 = .ok (.iconst 0, 1) := by decide +kernel
theorem d_M_party_10 : decode prog_7_method_38_code 10 = .ok (.goto 4, 3) := by decide +kernel
theorem d_M_party_13 : decode prog_7_method_38_code 13 = .ok (.iconst 1, 1) := by decide +kernel
theorem d_M_party_14 : decode prog_7_method_38_code 14 = .ok (.putfield 43, 3) := by decide +kernel
theorem d_M_party_17 : decode prog_7_method_38_code 17 = .ok (.aload_n 0, 1) := by decide +kernel
theorem d_M_party_18 : decode prog_7_method_38_code 18 = .ok (.getfield 43, 3) := by decide +kernel
theorem d_M_party_21 : decode prog_7_method_38_code 21 = .ok (.ifCond .le 5, 3) := by decide +kernel
theorem d_M_party_24 : decode prog_7_method_38_code 24 = .ok (.iconst 0, 1) := by decide +kernel
theorem d_M_party_25 : decode prog_7_method_38_code 25 = .ok (.ireturn, 1) := by decide +kernel
theorem d_M_party_26 : decode prog_7_method_38_code 26 = .ok (.aload_n 0, 1) := by decide +kernel
theorem d_M_party_27 : decode prog_7_method_38_code 27 = .ok (.invokevirtual 137, 3) := by decide +kernel
theorem d_M_party_30 : decode prog_7_method_38_code 30 = .ok (.aload_n 0, 1) := by decide +kernel
theorem d_M_party_31 : decode prog_7_method_38_code 31 = .ok (.getfield 28, 3) := by decide +kernel
theorem d_M_party_34 : decode prog_7_method_38_code 34 = .ok (.iload_n 1, 1) := by decide +kernel
theorem d_M_party_35 : decode prog_7_method_38_code 35 = .ok (.iaload, 1) := by decide +kernel
theorem d_M_party_36 : decode prog_7_method_38_code 36 = .ok (.ireturn, 1) := by decide +kernel
theorem d_M_next_0 : decode prog_7_method_39_code 0 = .ok (.aload_n 0, 1) := by decide +kernel
theorem d_M_next_1 : decode prog_7_method_39_code 1 = .ok (.aload_n 0, 1) := by decide +kernel
theorem d_M_next_2 : decode prog_7_method_39_code 2 = .ok (.iload_n 1, 1) := by decide +kernel
theorem d_M_next_3 : decode prog_7_method_39_code 3 = .ok (.invokevirtual 62, 3) := by decide +kernel
theorem d_M_next_6 : decode prog_7_method_39_code 6 = .ok (.ifCond .eq 7, 3) := by decide +kernel
theorem d_M_next_9 : decode prog_7_method_39_code 9 = .ok (.iconst 0, 1) := by decide +kernel
theorem d_M_next_10 : decode prog_7_method_39_code 10 = .ok (.goto 4, 3) := by decide +kernel
theorem d_M_next_13 : decode prog_7_method_39_code 13 = .ok (.iconst 1, 1) := by decide +kernel
theorem d_M_next_14 : decode prog_7_method_39_code 14 = .ok (.putfield 43, 3) := by decide +kernel
theorem d_M_next_17 : decode prog_7_method_39_code 17 = .ok (.aload_n 0, 1) := by decide +kernel
theorem d_M_next_18 : decode prog_7_method_39_code 18 = .ok (.getfield 43, 3) := by decide +kernel
theorem d_M_next_21 : decode prog_7_method_39_code 21 = .ok (.ifCond .le 5, 3) := by decide +kernel
theorem d_M_next_24 : decode prog_7_method_39_code 24 = .ok (.iconst 0, 1) := by decide +kernel
theorem d_M_next_25 : decode prog_7_method_39_code 25 = .ok (.ireturn, 1) := by decide +kernel
theorem d_M_next_26 : decode prog_7_method_39_code 26 = .ok (.aload_n 0, 1) := by decide +kernel
theorem d_M_next_27 : decode prog_7_method_39_code 27 = .ok (.invokevirtual 137, 3) := by decide +kernel
theorem d_M_next_30 : decode prog_7_method_39_code 30 = .ok (.aload_n 0, 1) := by decide +kernel
theorem d_M_next_31 : decode prog_7_method_39_code 31 = .ok (.getfield 25, 3) := by decide +kernel
theorem d_M_next_34 : decode prog_7_method_39_code 34 = .ok (.iload_n 1, 1) := by decide +kernel
theorem d_M_next_35 : decode prog_7_method_39_code 35 = .ok (.iaload, 1) := by decide +kernel
theorem d_M_next_36 : decode prog_7_method_39_code 36 = .ok (.ireturn, 1) := by decide +kernel
theorem d_M_parties_0 : decode prog_7_method_40_code 0 = .ok (.aload_n 0, 1) := by decide +kernel
theorem d_M_parties_1 : decode prog_7_method_40_code 1 = .ok (.iconst 0, 1) := by decide +kernel
theorem d_M_parties_2 : decode prog_7_method_40_code 2 = .ok (.putfield 43, 3) := by decide +kernel
theorem d_M_parties_5 : decode prog_7_method_40_code 5 = .ok (.aload_n 0, 1) := by decide +kernel
theorem d_M_parties_6 : decode prog_7_method_40_code 6 = .ok (.invokevirtual 137, 3) := by decide +kernel
theorem d_M_parties_9 : decode prog_7_method_40_code 9 = .ok (.iload_n 1, 1) := by decide +kernel
theorem d_M_parties_10 : decode prog_7_method_40_code 10 = .ok (.ifCond .eq 10, 3) := by decide +kernel
theorem d_M_parties_13 : decode prog_7_method_40_code 13 = .ok (.aload_n 0, 1) := by decide +kernel
theorem d_M_parties_14 : decode prog_7_method_40_code 14 = .ok (.getfield 134, 3) := by decide +kernel
theorem d_M_parties_17 : decode prog_7_method_40_code 17 = .ok (.goto 7, 3) := by decide +kernel
theorem d_M_parties_20 : decode prog_7_method_40_code 20 = .ok (.aload_n 0, 1) := by decide +kernel
theorem d_M_parties_21 : decode prog_7_method_40_code 21 = .ok (.getfield 131, 3) := by decide +kernel
theorem d_M_parties_24 : decode prog_7_method_40_code 24 = .ok (.ireturn, 1) := by decide +kernel
theorem d_M_size_0 : decode prog_7_method_41_code 0 = .ok (.aload_n 0, 1) := by decide +kernel
theorem d_M_size_1 : decode prog_7_method_41_code 1 = .ok (.iconst 0, 1) := by decide +kernel
theorem d_M_size_2 : decode prog_7_method_41_code 2 = .ok (.putfield 43, 3) := by decide +kernel
theorem d_M_size_5 : decode prog_7_method_41_code 5 = .ok (.aload_n 0, 1) := by decide +kernel
theorem d_M_size_6 : decode prog_7_method_41_code 6 = .ok (.getfield 47, 3) := by decide +kernel
theorem d_M_size_9 : decode prog_7_method_41_code 9 = .ok (.ireturn, 1) := by decide +kernel
theorem d_M_astray_0 : decode prog_7_method_42_code 0 = .ok (.aload_n 0, 1) := by decide +kernel
theorem d_M_astray_1 : decode prog_7_method_42_code 1 = .ok (.iconst 0, 1) := by decide +kernel
theorem d_M_astray_2 : decode prog_7_method_42_code 2 = .ok (.putfield 43, 3) := by decide +kernel
theorem d_M_astray_5 : decode prog_7_method_42_code 5 = .ok (.iconst 0, 1) := by decide +kernel
theorem d_M_astray_6 : decode prog_7_method_42_code 6 = .ok (.ireturn, 1) := by decide +kernel
