/-! the draft: the first pair that would block; who is astray -/
/-- the first pair below n for which f holds, if there is one -/
def fp_ (f : Nat → Nat → Bool) (n : Nat) (r : Option (Nat × Nat)) : Prop := match r with
  | none => ∀ l h, l < h → h < n → f l h = false
  | some (l, h) => l < h ∧ h < n ∧ f l h = true ∧ ∀ l' h', l' < h' → h' < n → (l' < l ∨ (l' = l ∧ h' < h)) → f l' h' = false
theorem fp_one {f : Nat → Nat → Bool} {n : Nat} {r r' : Option (Nat × Nat)} (h : fp_ f n r) (h' : fp_ f n r') : r = r' := by
  cases r with
  | none =>
    cases r' with
    | none => rfl
    | some x =>
      obtain ⟨l, k⟩ := x
      have := h l k h'.1 h'.2.1
      rw [h'.2.2.1] at this
      cases this
  | some x =>
    obtain ⟨l, k⟩ := x
    cases r' with
    | none =>
      have := h' l k h.1 h.2.1
      rw [h.2.2.1] at this
      cases this
    | some y =>
      obtain ⟨l', k'⟩ := y
      have n1 : ¬ (l' < l ∨ (l' = l ∧ k' < k)) := fun z => by
        have := h.2.2.2 l' k' h'.1 h'.2.1 z
        rw [h'.2.2.1] at this
        cases this
      have n2 : ¬ (l < l' ∨ (l = l' ∧ k < k')) := fun z => by
        have := h'.2.2.2 l k h.1 h.2.1 z
        rw [h.2.2.1] at this
        cases this
      have e1 : l = l' := by omega
      have e2 : k = k' := by omega
      rw [e1, e2]
/-- what satisfying it answers, and the draft behind it -/
def sf_v (r : Option (Nat × Nat)) : Int32 := match r with
  | none => -1
  | some (l, h) => nI (l * 8 + h)
def sf_d (dm : Nat → Nat) (r : Option (Nat × Nat)) : Nat → Nat := match r with
  | none => dm
  | some (l, h) => jn_ dm l h
section D2
variable {b : pB} {g : pG} {σ : pI} {τ : pJ} {d p q n ch : Nat} {L : Nat → List Nat} {dm : Nat → Nat}
theorem l_D_jfb_17 (hg : pm_gok 48 g) (hB : pm_base b) (hw : rh_wf n L) (h4 : σ 1 4 = nI n) (hS : ci_S L σ) (hD : ci_D dm σ) (hm : ∀ p, p < 8 → dm p < 8) {l : Nat} (hl : l < n) (hI0 : ∀ l' h', l' < l → l' < h' → h' < n → wb_ L l' h' (dm l') (dm h') = false) (K : (∀ h', l < h' → h' < n → wb_ L l h' (dm l) (dm h') = false) → pm_Y b (d + 2) km_D_joinFirstBlocking 63 false [some (pm_R 30), some (pm_I (nI l)), some (pm_I (nI n))] [] g σ τ 0 0 0 0 (pm_Wp (fun v σ' => ∃ r, fp_ (fun l h => wb_ L l h (dm l) (dm h)) n r ∧ v = some (sf_v r) ∧ ci_D (sf_d dm r) σ' ∧ dr_fr σ σ') τ)) : pm_Y b (d + 2) km_D_joinFirstBlocking 17 false [some (pm_R 30), some (pm_I (nI l)), some (pm_I (nI (l + 1)))] [] g σ τ 0 0 0 0 (pm_Wp (fun v σ' => ∃ r, fp_ (fun l h => wb_ L l h (dm l) (dm h)) n r ∧ v = some (sf_v r) ∧ ci_D (sf_d dm r) σ' ∧ dr_fr σ σ') τ) := by
  have h8 := hw.1
  refine pm_for (n - (l + 1)) (fun k (_ : Unit) => pm_Y b (d + 2) km_D_joinFirstBlocking 17 false [some (pm_R 30), some (pm_I (nI l)), some (pm_I (nI (l + 1 + k)))] [] g σ τ 0 0 0 0 (pm_Wp (fun v σ' => ∃ r, fp_ (fun l h => wb_ L l h (dm l) (dm h)) n r ∧ v = some (sf_v r) ∧ ci_D (sf_d dm r) σ' ∧ dr_fr σ σ') τ)) (fun k _ => ∀ j, j < k → ∀ h', h' = l + 1 + j → wb_ L l h' (dm l) (dm h') = false) (fun k _ hk hI ih => ?_) (fun _ hI => ?_) (n - (l + 1)) 0 () (by omega) (fun j hj => absurd hj (Nat.not_lt_zero j))
  · skip
    refine pm_iload_n d_D_joinFirstBlocking_17 rfl ?_
    refine pm_aload_n d_D_joinFirstBlocking_18 rfl ?_
    refine pm_getr d_D_joinFirstBlocking_19 hf_D_15 (hg.s rfl) (hg.i (by decide)) rfl (hg.r (by decide) rfl) ?_
    refine pm_callR (i := 1) (ci := 1) (rest := [pm_I (nI (l + 1 + k))]) [] hB d_D_joinFirstBlocking_22 hc_D_29 (k_W_count hg h4) (hg.s rfl) (hg.i (by decide)) rfl rfl rfl rfl (Nat.le_of_ble_eq_true rfl) (Nat.le_of_ble_eq_true rfl) (by omega) (by omega) ?_
    refine pm_icmp_ge_f 63 d_D_joinFirstBlocking_25 rfl (by rw [nI_leI (by omega) (by omega)]; omega) ?_
    refine pm_aload_n d_D_joinFirstBlocking_28 rfl ?_
    refine pm_getr d_D_joinFirstBlocking_29 hf_D_15 (hg.s rfl) (hg.i (by decide)) rfl (hg.r (by decide) rfl) ?_
    refine pm_iload_n d_D_joinFirstBlocking_32 rfl ?_
    refine pm_iload_n d_D_joinFirstBlocking_33 rfl ?_
    refine pm_aload_n d_D_joinFirstBlocking_34 rfl ?_
    refine pm_getr d_D_joinFirstBlocking_35 hf_D_9 (hg.s rfl) (hg.i (by decide)) rfl (hg.r (by decide) rfl) ?_
    refine pm_callR (i := 1) (ci := 1) (rest := []) [pm_I (nI l), pm_I (nI (l + 1 + k)), pm_R 31] hB d_D_joinFirstBlocking_38 hc_D_33 (k_W_wouldBlock hg hw hS (by omega) (by omega) rfl (hg.i (by decide)) (hD l (by omega)) (hD (l + 1 + k) (by omega)) (hm l (by omega)) (hm (l + 1 + k) (by omega))) (hg.s rfl) (hg.i (by decide)) rfl rfl rfl rfl (Nat.le_of_ble_eq_true rfl) (Nat.le_of_ble_eq_true rfl) (by omega) (by omega) ?_
    refine pm_if_eqB 57 d_D_joinFirstBlocking_41 rfl (fun c41 => ?_) (fun c41 => ?_)
    · refine pm_iinc' (nI ((l + 1 + k) + 1)) d_D_joinFirstBlocking_57 (by decide) rfl (pm_inc _) ?_
      refine pm_goto 17 d_D_joinFirstBlocking_60 rfl ?_
      -- at 17: lo=[some (pm_R 30), some (pm_I (nI l)), some (pm_I (nI ((l + 1 + k) + 1)))] st=[]
      exact ih () (fun j hj h' e => by
        by_cases ej : j = k
        · subst ej; subst e; exact c41
        · exact hI j (by omega) h' e)
    · refine pm_aload_n d_D_joinFirstBlocking_44 rfl ?_
      refine pm_iload_n d_D_joinFirstBlocking_45 rfl ?_
      refine pm_iload_n d_D_joinFirstBlocking_46 rfl ?_
      refine pm_callWp (i := 30) (ci := 2) (rest := []) [pm_I (nI l), pm_I (nI (l + 1 + k))] hB d_D_joinFirstBlocking_47 hc_D_37 (k_D_join hg hB hD hm (by omega) (by omega)) (hg.s rfl) (hg.i (by decide)) rfl rfl rfl rfl (Nat.le_of_ble_eq_true rfl) (Nat.le_of_ble_eq_true rfl) (by omega) (by omega) (fun v47 σ₁ hv47 hq47 => ?_)
      obtain ⟨rfl, hD1, hf1⟩ := hq47
      show pm_Y b _ km_D_joinFirstBlocking 50 true [some (pm_R 30), some (pm_I (nI l)), some (pm_I (nI (l + 1 + k)))] [] g σ₁ τ 0 0 0 0 _
      refine pm_iload_n d_D_joinFirstBlocking_50 rfl ?_
      refine pm_bipush' (nI 8) d_D_joinFirstBlocking_51 (by decide) ?_
      refine pm_imulN d_D_joinFirstBlocking_53 ?_
      refine pm_iload_n d_D_joinFirstBlocking_54 rfl ?_
      refine pm_iaddN d_D_joinFirstBlocking_55 ?_
      exact pm_ireturn d_D_joinFirstBlocking_56 rfl (fun _ => rfl) (Nat.le_refl _) (Nat.le_refl _) ⟨⟨some (l, l + 1 + k), ⟨by omega, by omega, c41, fun l' h' a1 a2 a3 => by
        rcases a3 with a3 | ⟨a3, a4⟩
        · exact hI0 l' h' a3 a1 a2
        · subst a3; exact hI (h' - (l' + 1)) (by omega) h' (by omega)⟩, rfl, hD1, hf1⟩, rfl⟩
  · rw [show l + 1 + (n - (l + 1)) = n by omega]
    refine pm_iload_n d_D_joinFirstBlocking_17 rfl ?_
    refine pm_aload_n d_D_joinFirstBlocking_18 rfl ?_
    refine pm_getr d_D_joinFirstBlocking_19 hf_D_15 (hg.s rfl) (hg.i (by decide)) rfl (hg.r (by decide) rfl) ?_
    refine pm_callR (i := 1) (ci := 1) (rest := [pm_I (nI n)]) [] hB d_D_joinFirstBlocking_22 hc_D_29 (k_W_count hg h4) (hg.s rfl) (hg.i (by decide)) rfl rfl rfl rfl (Nat.le_of_ble_eq_true rfl) (Nat.le_of_ble_eq_true rfl) (by omega) (by omega) ?_
    refine pm_icmp_ge_t 63 d_D_joinFirstBlocking_25 rfl (by rw [nI_leI (by omega) (by omega)]; omega) ?_
    exact K (fun h' a1 a2 => hI (h' - (l + 1)) (by omega) h' (by omega))
theorem k_D_joinFirstBlocking (hg : pm_gok 48 g) (hB : pm_base b) (hw : rh_wf n L) (h4 : σ 1 4 = nI n) (hS : ci_S L σ) (hD : ci_D dm σ) (hm : ∀ p, p < 8 → dm p < 8) : pm_C b (d + 2) km_D_joinFirstBlocking [pm_R 30] g σ τ 0 0 (pm_Wp (fun v σ' => ∃ r, fp_ (fun l h => wb_ L l h (dm l) (dm h)) n r ∧ v = some (sf_v r) ∧ ci_D (sf_d dm r) σ' ∧ dr_fr σ σ') τ) := by
  have h8 := hw.1
  show pm_Y b (d + 2) km_D_joinFirstBlocking 0 false [some (pm_R 30), none, none] [] g σ τ 0 0 0 0 _
  refine pm_iconst' (nI 0) d_D_joinFirstBlocking_0 (by decide) ?_
  refine pm_istore_n d_D_joinFirstBlocking_1 (by decide) ?_
  refine pm_for n (fun l (_ : Unit) => ∀ l2 : Option pV, pm_Y b (d + 2) km_D_joinFirstBlocking 2 false [some (pm_R 30), some (pm_I (nI l)), l2] [] g σ τ 0 0 0 0 (pm_Wp (fun v σ' => ∃ r, fp_ (fun l h => wb_ L l h (dm l) (dm h)) n r ∧ v = some (sf_v r) ∧ ci_D (sf_d dm r) σ' ∧ dr_fr σ σ') τ)) (fun l _ => ∀ l' h', l' < l → l' < h' → h' < n → wb_ L l' h' (dm l') (dm h') = false) (fun l _ hl hI ih l2 => ?_) (fun _ hI l2 => ?_) n 0 () (by omega) (fun l' h' hl => absurd hl (Nat.not_lt_zero l')) none
  · skip
    refine pm_iload_n d_D_joinFirstBlocking_2 rfl ?_
    refine pm_aload_n d_D_joinFirstBlocking_3 rfl ?_
    refine pm_getr d_D_joinFirstBlocking_4 hf_D_15 (hg.s rfl) (hg.i (by decide)) rfl (hg.r (by decide) rfl) ?_
    refine pm_callR (i := 1) (ci := 1) (rest := [pm_I (nI l)]) [] hB d_D_joinFirstBlocking_7 hc_D_29 (k_W_count hg h4) (hg.s rfl) (hg.i (by decide)) rfl rfl rfl rfl (Nat.le_of_ble_eq_true rfl) (Nat.le_of_ble_eq_true rfl) (by omega) (by omega) ?_
    refine pm_icmp_ge_f 69 d_D_joinFirstBlocking_10 rfl (by rw [nI_leI (by omega) (by omega)]; omega) ?_
    refine pm_iload_n d_D_joinFirstBlocking_13 rfl ?_
    refine pm_iconst' (nI 1) d_D_joinFirstBlocking_14 (by decide) ?_
    refine pm_iaddN d_D_joinFirstBlocking_15 ?_
    refine pm_istore_n d_D_joinFirstBlocking_16 (by decide) ?_
    refine l_D_jfb_17 hg hB hw h4 hS hD hm hl hI (fun hnew => ?_)
    refine pm_iinc' (nI (l + 1)) d_D_joinFirstBlocking_63 (by decide) rfl (pm_inc _) ?_
    refine pm_goto 2 d_D_joinFirstBlocking_66 rfl ?_
    exact ih () (fun l' h' a1 a2 a3 => by
      by_cases e : l' = l
      · subst e; exact hnew h' a2 a3
      · exact hI l' h' (by omega) a2 a3) _
  · skip
    refine pm_iload_n d_D_joinFirstBlocking_2 rfl ?_
    refine pm_aload_n d_D_joinFirstBlocking_3 rfl ?_
    refine pm_getr d_D_joinFirstBlocking_4 hf_D_15 (hg.s rfl) (hg.i (by decide)) rfl (hg.r (by decide) rfl) ?_
    refine pm_callR (i := 1) (ci := 1) (rest := [pm_I (nI n)]) [] hB d_D_joinFirstBlocking_7 hc_D_29 (k_W_count hg h4) (hg.s rfl) (hg.i (by decide)) rfl rfl rfl rfl (Nat.le_of_ble_eq_true rfl) (Nat.le_of_ble_eq_true rfl) (by omega) (by omega) ?_
    refine pm_icmp_ge_t 69 d_D_joinFirstBlocking_10 rfl (by rw [nI_leI (by omega) (by omega)]; omega) ?_
    refine pm_iconst' (-1) d_D_joinFirstBlocking_69 (by decide) ?_
    exact pm_ireturn d_D_joinFirstBlocking_70 rfl (fun _ => rfl) (Nat.le_refl _) (Nat.le_refl _) ⟨⟨none, fun l h a1 a2 => hI l h (by omega) a1 a2, rfl, hD, fun _ _ _ => rfl⟩, rfl⟩
theorem k_D_isAstray (hg : pm_gok 48 g) (hB : pm_base b) (hw : rh_wf n L) (hS : ci_S L σ) (hD : ci_D dm σ) (hmd : md_ n L dm) (hp : p < 8) : pm_C b (d + 1) km_D_isAstray [pm_R 30, pm_I (nI p)] g σ τ 0 0 (pm_Rd (nI 0) σ τ) := by
  have hdp := (hmd.1 p hp).1
  show pm_Y b (d + 1) km_D_isAstray 0 false [some (pm_R 30), some (pm_I (nI p)), none] [] g σ τ 0 0 0 0 _
  refine pm_aload_n d_D_isAstray_0 rfl ?_
  refine pm_getr d_D_isAstray_1 hf_D_9 (hg.s rfl) (hg.i (by decide)) rfl (hg.r (by decide) rfl) ?_
  refine pm_iload_n d_D_isAstray_4 rfl ?_
  refine pm_iaload' p (nI (dm p)) d_D_isAstray_5 (hg.s rfl) (hg.i (by decide)) rfl hp (by decide) (hD p hp) ?_
  refine pm_istore_n d_D_isAstray_6 (by decide) ?_
  refine pm_aload_n d_D_isAstray_7 rfl ?_
  refine pm_getr d_D_isAstray_8 hf_D_9 (hg.s rfl) (hg.i (by decide)) rfl (hg.r (by decide) rfl) ?_
  refine pm_iload_n d_D_isAstray_11 rfl ?_
  refine pm_iaload' (dm p) (nI p) d_D_isAstray_12 (hg.s rfl) (hg.i (by decide)) rfl (hmd.1 p hp).1 (by decide) (by rw [hD _ (hmd.1 p hp).1, (hmd.1 p hp).2]) ?_
  refine pm_iload_n d_D_isAstray_13 rfl ?_
  refine pm_icmp_ne_f 34 d_D_isAstray_14 rfl rfl ?_
  refine pm_iload_n d_D_isAstray_17 rfl ?_
  refine pm_iload_n d_D_isAstray_18 rfl ?_
  refine pm_icmp_eqN 38 d_D_isAstray_19 rfl (by omega) (by omega) (fun c19 => ?_) (fun c19 => ?_)
  · refine pm_iconst' (nI 0) d_D_isAstray_38 (by decide) ?_
    exact pm_zreturn d_D_isAstray_39 rfl (Or.inl rfl) (fun h => h) (Nat.le_refl _) (Nat.le_refl _) ⟨rfl, rfl, rfl⟩
  · refine pm_aload_n d_D_isAstray_22 rfl ?_
    refine pm_getr d_D_isAstray_23 hf_D_15 (hg.s rfl) (hg.i (by decide)) rfl (hg.r (by decide) rfl) ?_
    refine pm_iload_n d_D_isAstray_26 rfl ?_
    refine pm_iload_n d_D_isAstray_27 rfl ?_
    refine pm_callR (i := 1) (ci := 1) (rest := []) [pm_I (nI p), pm_I (nI (dm p))] hB d_D_isAstray_28 hc_D_23 (k_W_arePossible hg hw hS hp (hmd.1 p hp).1) (hg.s rfl) (hg.i (by decide)) rfl rfl rfl rfl (Nat.le_of_ble_eq_true rfl) (Nat.le_of_ble_eq_true rfl) (by omega) (by omega) ?_
    refine pm_if_neB 38 d_D_isAstray_31 rfl (fun c31 => ?_) (fun c31 => ?_)
    · refine pm_iconst' (nI 0) d_D_isAstray_38 (by decide) ?_
      exact pm_zreturn d_D_isAstray_39 rfl (Or.inl rfl) (fun h => h) (Nat.le_refl _) (Nat.le_refl _) ⟨rfl, rfl, rfl⟩
    · refine pm_iconst' (nI 1) d_D_isAstray_34 (by decide) ?_
      refine pm_goto 39 d_D_isAstray_35 rfl ?_
      exact pm_zreturn d_D_isAstray_39 rfl (Or.inr rfl) (fun h => h) (Nat.le_refl _) (Nat.le_refl _) (absurd (hmd.2 p hp c19).2.2 (of_decide_eq_false c31))
theorem k_D_countAstray (hg : pm_gok 48 g) (hB : pm_base b) (hw : rh_wf n L) (h4 : σ 1 4 = nI n) (hS : ci_S L σ) (hD : ci_D dm σ) (hmd : md_ n L dm) : pm_C b (d + 2) km_D_countAstray [pm_R 30] g σ τ 0 0 (pm_Rd (nI 0) σ τ) := by
  have h8 := hw.1
  show pm_Y b (d + 2) km_D_countAstray 0 false [some (pm_R 30), none, none] [] g σ τ 0 0 0 0 _
  refine pm_iconst' (nI 0) d_D_countAstray_0 (by decide) ?_
  refine pm_istore_n d_D_countAstray_1 (by decide) ?_
  refine pm_iconst' (nI 0) d_D_countAstray_2 (by decide) ?_
  refine pm_istore_n d_D_countAstray_3 (by decide) ?_
  refine pm_for n (fun i (_ : Unit) => pm_Y b (d + 2) km_D_countAstray 4 false [some (pm_R 30), some (pm_I (nI 0)), some (pm_I (nI i))] [] g σ τ 0 0 0 0 (pm_Rd (nI 0) σ τ)) (fun _ _ => True) (fun i _ hi _ ih => ?_) (fun _ _ => ?_) n 0 () (by omega) trivial
  · skip
    refine pm_iload_n d_D_countAstray_4 rfl ?_
    refine pm_aload_n d_D_countAstray_5 rfl ?_
    refine pm_getr d_D_countAstray_6 hf_D_15 (hg.s rfl) (hg.i (by decide)) rfl (hg.r (by decide) rfl) ?_
    refine pm_callR (i := 1) (ci := 1) (rest := [pm_I (nI i)]) [] hB d_D_countAstray_9 hc_D_29 (k_W_count hg h4) (hg.s rfl) (hg.i (by decide)) rfl rfl rfl rfl (Nat.le_of_ble_eq_true rfl) (Nat.le_of_ble_eq_true rfl) (by omega) (by omega) ?_
    refine pm_icmp_ge_f 32 d_D_countAstray_12 rfl (by rw [nI_leI (by omega) (by omega)]; omega) ?_
    refine pm_aload_n d_D_countAstray_15 rfl ?_
    refine pm_iload_n d_D_countAstray_16 rfl ?_
    refine pm_callR (i := 30) (ci := 2) (rest := []) [pm_I (nI i)] hB d_D_countAstray_17 hc_D_41 (k_D_isAstray hg hB hw hS hD hmd (by omega)) (hg.s rfl) (hg.i (by decide)) rfl rfl rfl rfl (Nat.le_of_ble_eq_true rfl) (Nat.le_of_ble_eq_true rfl) (by omega) (by omega) ?_
    refine pm_if_eq_t 26 d_D_countAstray_20 rfl (by decide) ?_
    refine pm_iinc' (nI (i + 1)) d_D_countAstray_26 (by decide) rfl (pm_inc _) ?_
    refine pm_goto 4 d_D_countAstray_29 rfl ?_
    -- at 4: lo=[some (pm_R 30), some (pm_I (nI 0)), some (pm_I (nI (i + 1)))] st=[]
    exact ih () trivial
  · skip
    refine pm_iload_n d_D_countAstray_4 rfl ?_
    refine pm_aload_n d_D_countAstray_5 rfl ?_
    refine pm_getr d_D_countAstray_6 hf_D_15 (hg.s rfl) (hg.i (by decide)) rfl (hg.r (by decide) rfl) ?_
    refine pm_callR (i := 1) (ci := 1) (rest := [pm_I (nI n)]) [] hB d_D_countAstray_9 hc_D_29 (k_W_count hg h4) (hg.s rfl) (hg.i (by decide)) rfl rfl rfl rfl (Nat.le_of_ble_eq_true rfl) (Nat.le_of_ble_eq_true rfl) (by omega) (by omega) ?_
    refine pm_icmp_ge_t 32 d_D_countAstray_12 rfl (by rw [nI_leI (by omega) (by omega)]; omega) ?_
    refine pm_iload_n d_D_countAstray_32 rfl ?_
    exact pm_ireturn d_D_countAstray_33 rfl (fun h => h) (Nat.le_refl _) (Nat.le_refl _) ⟨rfl, rfl, rfl⟩
end D2
