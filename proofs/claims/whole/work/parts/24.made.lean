/-! what is made, what is thrown -/
theorem hn_H_7 : pm_N "RoommateHouse" 7 1 := ⟨_, pm_T1, pm_ty1, rfl, pm_mem 63 (by decide +kernel) (by decide +kernel), pm_mem 64 (by decide +kernel) (by decide +kernel), pm_mem 44 (by decide +kernel) (by decide +kernel), pm_uw1, pm_tyo1, by decide +kernel⟩
theorem hn_H_16 : pm_N "RoommateHouse" 16 2 := ⟨_, pm_T2, pm_ty2, rfl, pm_mem 91 (by decide +kernel) (by decide +kernel), pm_mem 92 (by decide +kernel) (by decide +kernel), pm_mem 45 (by decide +kernel) (by decide +kernel), pm_uw2, pm_tyo2, by decide +kernel⟩
theorem hn_H_25 : pm_N "RoommateHouse" 25 3 := ⟨_, pm_T3, pm_ty3, rfl, pm_mem 104 (by decide +kernel) (by decide +kernel), pm_mem 105 (by decide +kernel) (by decide +kernel), pm_mem 46 (by decide +kernel) (by decide +kernel), pm_uw3, pm_tyo3, by decide +kernel⟩
theorem hn_H_32 : pm_N "RoommateHouse" 32 4 := ⟨_, pm_T4, pm_ty4, rfl, pm_mem 130 (by decide +kernel) (by decide +kernel), pm_mem 131 (by decide +kernel) (by decide +kernel), pm_mem 47 (by decide +kernel) (by decide +kernel), pm_uw4, pm_tyo4, by decide +kernel⟩
theorem hn_L_8 : pm_N "RoommateHouseLaw" 8 0 := ⟨_, pm_T0, pm_ty0, rfl, pm_mem 55 (by decide +kernel) (by decide +kernel), pm_mem 56 (by decide +kernel) (by decide +kernel), pm_mem 43 (by decide +kernel) (by decide +kernel), pm_uw0, pm_tyo0, by decide +kernel⟩
theorem hn_L_59 : pm_N "RoommateHouseLaw" 59 5 := ⟨_, pm_T5, pm_ty5, rfl, pm_mem 592 (by decide +kernel) (by decide +kernel), pm_mem 593 (by decide +kernel) (by decide +kernel), pm_mem 48 (by decide +kernel) (by decide +kernel), pm_uw5, pm_tyo5, by decide +kernel⟩
def pm_inw (a : Cond) : Bool := (decide (a ∈ lw_tbl) && pm_gw a) || decide (a ∈ pm_hw)
theorem pm_inw_all {l : List Cond} (h : l.all pm_inw = true) : ∀ a ∈ l, a ∈ pm_words ∨ a ∈ pm_hw := by
  intro a ha
  have h1 := List.all_eq_true.mp h a ha
  unfold pm_inw at h1
  rw [Bool.or_eq_true, Bool.and_eq_true, decide_eq_true_eq, decide_eq_true_eq] at h1
  rcases h1 with ⟨h2, h3⟩ | h2
  · exact Or.inl (List.mem_filter.mpr ⟨h2, h3⟩)
  · exact Or.inr h2
theorem hx_H_43 : pm_XW "RoommateHouse" 43 45 "java/lang/IllegalArgumentException" := ⟨pm_mem 337 (by decide +kernel) (by decide +kernel), pm_mem 338 (by decide +kernel) (by decide +kernel), pm_mem 52 (by decide +kernel) (by decide +kernel), by decide +kernel, pm_inw_all (by decide +kernel)⟩
theorem hx_H_58 : pm_XW "RoommateHouse" 58 60 "java/lang/IllegalStateException" := ⟨pm_mem 436 (by decide +kernel) (by decide +kernel), pm_mem 437 (by decide +kernel) (by decide +kernel), pm_mem 54 (by decide +kernel) (by decide +kernel), by decide +kernel, pm_inw_all (by decide +kernel)⟩
theorem hx_H_87 : pm_XW "RoommateHouse" 87 89 "java/lang/IndexOutOfBoundsException" := ⟨pm_mem 417 (by decide +kernel) (by decide +kernel), pm_mem 418 (by decide +kernel) (by decide +kernel), pm_mem 53 (by decide +kernel) (by decide +kernel), by decide +kernel, pm_inw_all (by decide +kernel)⟩
