/-! the law: its loop -/
theorem and_31 (x : Int32) : ∃ c, c < 32 ∧ x &&& nI 31 = nI c := by
  refine ⟨(x.toBitVec &&& 31#32).toNat, ?_, ?_⟩
  · rw [BitVec.toNat_and]
    exact Nat.lt_of_le_of_lt Nat.and_le_right (by decide)
  · apply Int32.toBitVec_inj.mp
    show x.toBitVec &&& (nI 31).toBitVec = BitVec.ofNat 32 _
    rw [BitVec.ofNat_toNat, BitVec.setWidth_eq]
    rfl
theorem sub_4 {l : Nat} (hl : l ≤ 2048) : (nI l - nI 4).toInt = (l : Int) - 4 := by
  by_cases h : 4 ≤ l
  · have e : nI l - nI 4 = nI (l - 4) := by
      rw [show nI l = nI (l - 4) + nI 4 by rw [nI_add]; congr 1; omega, Int32.add_sub_cancel]
    rw [e, nI_toInt (by omega)]
    omega
  · have h4 : l = 0 ∨ l = 1 ∨ l = 2 ∨ l = 3 := by omega
    rcases h4 with rfl | rfl | rfl | rfl <;> decide
theorem gt_t {l i : Nat} (hl : l ≤ 2048) (hi : i ≤ 4096) (h : ¬ i + 4 ≤ l) : nI l - nI 4 < nI i := by
  rw [Int32.lt_iff_toInt_lt, sub_4 hl, nI_toInt (by omega)]
  omega
theorem gt_f {l i : Nat} (hl : l ≤ 2048) (hi : i ≤ 4096) (h : i + 4 ≤ l) : ¬ nI l - nI 4 < nI i := by
  rw [Int32.lt_iff_toInt_lt, sub_4 hl, nI_toInt (by omega)]
  omega
section LL
variable {b : pB} {g : pG} {d mc ms : Nat}
theorem l_law_23 (hg : pm_gok 61 g) (hB : pm_base b) (hX : pm_baseX b) (hA : pm_asg b) (hl : xl_ b ≤ 2048) : ∀ (s i n ch : Nat) (L : Nat → List Nat) (dm : Nat → Nat) (σ : pI) (τ : pJ) (cu su : Nat) (l5 l6 : Option pV), xl_ b < i + 4 * s + 4 → i ≤ xl_ b → CI_ n ch L dm σ → RI_ n L dm σ → ch + s < 2 ^ 31 → cu + s ≤ mc → su + 6 * s ≤ ms → pm_Y b (d + 31 + 1) km_L_law 23 true [some (pm_S), some (pm_R 0), some (pm_R 48), some (pm_R 60), some (pm_I (nI i)), l5, l6] [] g σ τ cu su mc ms lE_
  | 0, i, n, ch, L, dm, σ, τ, cu, su, l5, l6, hs, hi, hC, hR, hch, hcu, hsu => by
      have e : ¬ i + 4 ≤ xl_ b := by omega
      refine pm_iload d_L_law_23 rfl ?_
      refine pm_aload_s d_L_law_25 rfl ?_
      refine pm_slen hB d_L_law_26 ?_
      refine pm_iconst' (nI 4) d_L_law_27 (by decide) ?_
      refine pm_isub d_L_law_28 ?_
      refine pm_icmp_gt_t 1092 d_L_law_29 rfl (gt_t hl (by omega) e) ?_
      refine pm_iconst' (nI 1) d_L_law_1092 (by decide) ?_
      exact pm_zreturn d_L_law_1093 rfl (Or.inr rfl) (fun _ => rfl) (by omega) (by omega) rfl
  | s + 1, i, n, ch, L, dm, σ, τ, cu, su, l5, l6, hs, hi, hC, hR, hch, hcu, hsu => by
    by_cases e : i + 4 ≤ xl_ b
    rotate_left
    · skip
      refine pm_iload d_L_law_23 rfl ?_
      refine pm_aload_s d_L_law_25 rfl ?_
      refine pm_slen hB d_L_law_26 ?_
      refine pm_iconst' (nI 4) d_L_law_27 (by decide) ?_
      refine pm_isub d_L_law_28 ?_
      refine pm_icmp_gt_t 1092 d_L_law_29 rfl (gt_t hl (by omega) e) ?_
      refine pm_iconst' (nI 1) d_L_law_1092 (by decide) ?_
      exact pm_zreturn d_L_law_1093 rfl (Or.inr rfl) (fun _ => rfl) (by omega) (by omega) rfl
    · skip
      have K : ∀ (n' ch' : Nat) (L' : Nat → List Nat) (dm' : Nat → Nat) (σ' : pI) (τ' : pJ) (cu' su' : Nat) (k5 k6 : Option pV), CI_ n' ch' L' dm' σ' → RI_ n' L' dm' σ' → ch' ≤ ch + 1 → cu' ≤ cu + 1 → su' ≤ su + 6 → pm_Y b (d + 31 + 1) km_L_law 1086 true [some (pm_S), some (pm_R 0), some (pm_R 48), some (pm_R 60), some (pm_I (nI i)), k5, k6] [] g σ' τ' cu' su' mc ms lE_ := by
        intro n' ch' L' dm' σ' τ' cu' su' k5 k6 hC' hR' hch hcu' hsu'
        refine pm_iinc' (nI (i + 4)) d_L_law_1086 (by decide) rfl (nI_4 _) ?_
        refine pm_goto 23 d_L_law_1089 rfl ?_
        -- at 23: lo=[some (pm_S), some (pm_R 0), some (pm_R 48), some (pm_R 60), some (pm_I (nI (i + 4))), k5, k6] st=[]
        exact l_law_23 hg hB hX hA hl s (i + 4) n' ch' L' dm' σ' τ' cu' su' k5 k6 (by omega) (by omega) hC' hR' (by omega) (by omega) (by omega)
      refine pm_iload d_L_law_23 rfl ?_
      refine pm_aload_s d_L_law_25 rfl ?_
      refine pm_slen hB d_L_law_26 ?_
      refine pm_iconst' (nI 4) d_L_law_27 (by decide) ?_
      refine pm_isub d_L_law_28 ?_
      refine pm_icmp_gt_f 1092 d_L_law_29 rfl (gt_f hl (by omega) e) ?_
      refine pm_aload_s d_L_law_32 rfl ?_
      refine pm_iload d_L_law_33 rfl ?_
      refine pm_sld i hB d_L_law_35 rfl (by omega) (by omega) ?_
      refine pm_bipush' (nI 31) d_L_law_36 (by decide) ?_
      -- at 38: lo=[some (pm_S), some (pm_R 0), some (pm_R 48), some (pm_R 60), some (pm_I (nI i)), l5, l6] st=[pm_I (nI 31), pm_I (xs_ b i)]
      refine pm_iand d_L_law_38 ?_
      obtain ⟨c, hc, hx⟩ := and_31 (xs_ b i)
      rw [hx]
      have h19 : c = 0 ∨ c = 1 ∨ c = 2 ∨ c = 3 ∨ c = 4 ∨ c = 5 ∨ c = 6 ∨ c = 7 ∨ c = 8 ∨ c = 9 ∨ c = 10 ∨ c = 11 ∨ c = 12 ∨ c = 13 ∨ c = 14 ∨ c = 15 ∨ c = 16 ∨ c = 17 ∨ c = 18 ∨ 18 < c := by omega
      rcases h19 with rfl | rfl | rfl | rfl | rfl | rfl | rfl | rfl | rfl | rfl | rfl | rfl | rfl | rfl | rfl | rfl | rfl | rfl | rfl | h19
      · exact pm_table (off := 89) 128 d_L_law_39 (by decide) (by decide) (by decide) rfl (w_people hg hB hX hA hC hR (by omega) e hl (by omega) (by omega) K)
      · exact pm_table (off := 145) 184 d_L_law_39 (by decide) (by decide) (by decide) rfl (w_put hg hB hX hA hC hR (by omega) e hl (by omega) (by omega) K)
      · exact pm_table (off := 213) 252 d_L_law_39 (by decide) (by decide) (by decide) rfl (w_remove hg hB hX hA hC hR (by omega) e hl (by omega) (by omega) K)
      · exact pm_table (off := 281) 320 d_L_law_39 (by decide) (by decide) (by decide) rfl (w_move hg hB hX hA hC hR (by omega) e hl (by omega) (by omega) K)
      · exact pm_table (off := 361) 400 d_L_law_39 (by decide) (by decide) (by decide) rfl (w_at hg hB hX hA hC hR (by omega) e hl (by omega) (by omega) K)
      · exact pm_table (off := 429) 468 d_L_law_39 (by decide) (by decide) (by decide) rfl (w_place hg hB hX hA hC hR (by omega) e hl (by omega) (by omega) K)
      · exact pm_table (off := 497) 536 d_L_law_39 (by decide) (by decide) (by decide) rfl (w_pair hg hB hX hA hC hR (by omega) e hl (by omega) (by omega) K)
      · exact pm_table (off := 565) 604 d_L_law_39 (by decide) (by decide) (by decide) rfl (w_partner hg hB hX hA hC hR (by omega) e hl (by omega) (by omega) K)
      · exact pm_table (off := 621) 660 d_L_law_39 (by decide) (by decide) (by decide) rfl (w_blocking hg hB hX hA hC hR (by omega) e hl (by omega) (by omega) K)
      · exact pm_table (off := 634) 673 d_L_law_39 (by decide) (by decide) (by decide) rfl (w_satisfy hg hB hX hA hC hR (by omega) e hl (by omega) (by omega) K)
      · exact pm_table (off := 647) 686 d_L_law_39 (by decide) (by decide) (by decide) rfl (w_matchings hg hB hX hA hC hR (by omega) e hl (by omega) (by omega) K)
      · exact pm_table (off := 660) 699 d_L_law_39 (by decide) (by decide) (by decide) rfl (w_matched hg hB hX hA hC hR (by omega) e hl (by omega) (by omega) K)
      · exact pm_table (off := 716) 755 d_L_law_39 (by decide) (by decide) (by decide) rfl (w_extreme hg hB hX hA hC hR (by omega) e hl (by omega) (by omega) K)
      · exact pm_table (off := 800) 839 d_L_law_39 (by decide) (by decide) (by decide) rfl (w_together hg hB hX hA hC hR (by omega) e hl (by omega) (by omega) K)
      · exact pm_table (off := 868) 907 d_L_law_39 (by decide) (by decide) (by decide) rfl (w_party hg hB hX hA hC hR (by omega) e hl (by omega) (by omega) K)
      · exact pm_table (off := 924) 963 d_L_law_39 (by decide) (by decide) (by decide) rfl (w_next hg hB hX hA hC hR (by omega) e hl (by omega) (by omega) K)
      · exact pm_table (off := 980) 1019 d_L_law_39 (by decide) (by decide) (by decide) rfl (w_parties hg hB hX hA hC hR (by omega) e hl (by omega) (by omega) K)
      · exact pm_table (off := 1021) 1060 d_L_law_39 (by decide) (by decide) (by decide) rfl (w_size hg hB hX hA hC hR (by omega) e hl (by omega) (by omega) K)
      · exact pm_table (off := 1034) 1073 d_L_law_39 (by decide) (by decide) (by decide) rfl (w_astray hg hB hX hA hC hR (by omega) e hl (by omega) (by omega) K)
      · exact pm_tableOut 1086 d_L_law_39 (Or.inr (by rw [nI_toInt (by omega)]; omega)) rfl (K n ch L dm σ τ cu su l5 l6 hC hR (Nat.le_succ ch) (Nat.le_succ cu) (by omega))
end LL
