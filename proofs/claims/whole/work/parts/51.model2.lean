/-! the other side: its pairs -/
theorem mp_up {n : Nat} {dm : Nat → Nat} {σ : pI} {p x : Nat} (h : mp_ n dm σ) : mp_ n (gw_up dm p x) (pm_up σ 51 p (nI x)) := by
  intro a ha
  by_cases e : a = p
  · subst e; rw [gw_up_self, pm_up_at]
  · rw [gw_up_ne _ _ e, pm_up_ne (by omega)]; exact h a ha
theorem mp_eq {n : Nat} {dm dm' : Nat → Nat} {σ : pI} (h : mp_ n dm σ) (he : ∀ p, p < n → dm p = dm' p) : mp_ n dm' σ := fun p hp => by rw [← he p hp]; exact h p hp
theorem jn_eq {dm : Nat → Nat} {p q : Nat} (hne : p ≠ q) (hi : dm (dm p) = p) (x : Nat) : gw_up (gw_up (gw_up (gw_up dm (dm p) (dm p)) (dm q) (dm q)) p q) q p x = jn_ dm p q x := by
  rw [jn_at]
  by_cases e1 : x = q
  · rw [if_pos e1, e1, gw_up_self]
  · rw [if_neg e1, gw_up_ne _ _ e1]
    by_cases e2 : x = p
    · rw [if_pos e2, e2, gw_up_self]
    · rw [if_neg e2, gw_up_ne _ _ e2]
      have hq : ms_ dm p q = if q = dm p then dm p else dm q := by rw [ms_at, if_neg (Ne.symm hne)]
      have hx : ms_ dm p x = if x = dm p then dm p else dm x := by rw [ms_at, if_neg e2]
      rw [hq, hx]
      by_cases e3 : q = dm p
      · have e4 : dm q = p := by rw [e3, hi]
        rw [if_pos e3, if_neg (show x ≠ dm p by rw [← e3]; exact e1), gw_up_ne _ _ (show x ≠ dm q by rw [e4]; exact e2), gw_up_ne _ _ (show x ≠ dm p by rw [← e3]; exact e1), if_neg (show x ≠ dm p by rw [← e3]; exact e1)]
      · rw [if_neg e3]
        by_cases e4 : x = dm q
        · rw [if_pos e4, e4, gw_up_self]
        · rw [if_neg e4, gw_up_ne _ _ e4]
          by_cases e5 : x = dm p
          · rw [if_pos e5, e5, gw_up_self]
          · rw [if_neg e5, gw_up_ne _ _ e5]
section M2
variable {b : pB} {g : pG} {σ : pI} {τ : pJ} {d n p q i j h a c : Nat} {x y : Int32} {L : Nat → List Nat} {dm : Nat → Nat}
theorem l_M_blockingOf_17 (hg : pm_gok 61 g) (hB : pm_base b) (hw : rh_wf n L) (hM : mi_ n L σ) (hP : mp_ n dm σ) (hD : ∀ p, p < n → dm p < n ∧ rh_rk L p (dm p) ≤ 8) {c l : Nat} (hl : l < n) {E : pE} (K : pm_Y b (d + 4) km_M_blockingOf 51 false [some (pm_R 48), some (pm_R 51), some (pm_I (nI (c + cb_in (fun l h => wb_ L l h (dm l) (dm h)) l (n - (l + 1))))), some (pm_I (nI l)), some (pm_I (nI n))] [] g σ τ 0 0 0 0 E) : pm_Y b (d + 4) km_M_blockingOf 17 false [some (pm_R 48), some (pm_R 51), some (pm_I (nI c)), some (pm_I (nI l)), some (pm_I (nI (l + 1)))] [] g σ τ 0 0 0 0 E := by
  have h8 := hw.1
  refine pm_for (n - (l + 1)) (fun k (_ : Unit) => pm_Y b (d + 4) km_M_blockingOf 17 false [some (pm_R 48), some (pm_R 51), some (pm_I (nI (c + cb_in (fun l h => wb_ L l h (dm l) (dm h)) l k))), some (pm_I (nI l)), some (pm_I (nI (l + 1 + k)))] [] g σ τ 0 0 0 0 E) (fun _ _ => True) (fun k _ hk _ ih => ?_) (fun _ _ => ?_) (n - (l + 1)) 0 () (by omega) trivial
  · skip
    refine pm_iload d_M_blockingOf_17 rfl ?_
    refine pm_aload_n d_M_blockingOf_19 rfl ?_
    refine pm_geti' (nI n) d_M_blockingOf_20 hf_M_47 (hg.s rfl) (hg.i (by decide)) rfl hM.1 ?_
    refine pm_icmp_ge_f 51 d_M_blockingOf_23 rfl (by rw [nI_leI (by omega) (by omega)]; omega) ?_
    refine pm_iload_n d_M_blockingOf_26 rfl ?_
    refine pm_aload_n d_M_blockingOf_27 rfl ?_
    refine pm_iload_n d_M_blockingOf_28 rfl ?_
    refine pm_iload d_M_blockingOf_29 rfl ?_
    refine pm_aload_n d_M_blockingOf_31 rfl ?_
    refine pm_callR (i := 48) (ci := 5) (rest := [pm_I (nI (c + cb_in (fun l h => wb_ L l h (dm l) (dm h)) l k))]) [pm_I (nI l), pm_I (nI (l + 1 + k)), pm_R 51] hB d_M_blockingOf_32 hc_M_80 (k_M_blocks hg hB hw hM hP hD (by omega) (by omega)) (hg.s rfl) (hg.i (by decide)) rfl rfl rfl rfl (Nat.le_of_ble_eq_true rfl) (Nat.le_of_ble_eq_true rfl) (by omega) (by omega) ?_
    refine pm_if_eqB 42 d_M_blockingOf_35 rfl (fun c35 => ?_) (fun c35 => ?_)
    · refine pm_iconst' (nI 0) d_M_blockingOf_42 (by decide) ?_
      refine pm_iaddN d_M_blockingOf_43 ?_
      refine pm_istore_n d_M_blockingOf_44 (by decide) ?_
      refine pm_iinc' (nI ((l + 1 + k) + 1)) d_M_blockingOf_45 (by decide) rfl (pm_inc _) ?_
      refine pm_goto 17 d_M_blockingOf_48 rfl ?_
      -- at 17: lo=[some (pm_R 48), some (pm_R 51), some (pm_I (nI ((c + cb_in (fun l h => wb_ L l h (dm l) (dm h)) l k) + 0))), some (pm_I (nI l)), some (pm_I (nI ((l + 1 + k) + 1)))] st=[]
      show pm_Y b (d + 4) km_M_blockingOf 17 false [some (pm_R 48), some (pm_R 51), some (pm_I (nI ((c + cb_in (fun l h => wb_ L l h (dm l) (dm h)) l k) + 0))), some (pm_I (nI l)), some (pm_I (nI ((l + 1 + k) + 1)))] [] g σ τ 0 0 0 0 E
      rw [show l + 1 + k + 1 = l + 1 + (k + 1) by omega, Nat.add_zero, ← cb_in_f (f := (fun l h => wb_ L l h (dm l) (dm h))) c35]
      exact ih () trivial
    · refine pm_iconst' (nI 1) d_M_blockingOf_38 (by decide) ?_
      refine pm_goto 43 d_M_blockingOf_39 rfl ?_
      refine pm_iaddN d_M_blockingOf_43 ?_
      refine pm_istore_n d_M_blockingOf_44 (by decide) ?_
      refine pm_iinc' (nI ((l + 1 + k) + 1)) d_M_blockingOf_45 (by decide) rfl (pm_inc _) ?_
      refine pm_goto 17 d_M_blockingOf_48 rfl ?_
      -- at 17: lo=[some (pm_R 48), some (pm_R 51), some (pm_I (nI ((c + cb_in (fun l h => wb_ L l h (dm l) (dm h)) l k) + 1))), some (pm_I (nI l)), some (pm_I (nI ((l + 1 + k) + 1)))] st=[]
      show pm_Y b (d + 4) km_M_blockingOf 17 false [some (pm_R 48), some (pm_R 51), some (pm_I (nI ((c + cb_in (fun l h => wb_ L l h (dm l) (dm h)) l k) + 1))), some (pm_I (nI l)), some (pm_I (nI ((l + 1 + k) + 1)))] [] g σ τ 0 0 0 0 E
      rw [show l + 1 + k + 1 = l + 1 + (k + 1) by omega, Nat.add_assoc, ← cb_in_t (f := (fun l h => wb_ L l h (dm l) (dm h))) c35]
      exact ih () trivial
  · rw [show l + 1 + (n - (l + 1)) = n by omega]
    refine pm_iload d_M_blockingOf_17 rfl ?_
    refine pm_aload_n d_M_blockingOf_19 rfl ?_
    refine pm_geti' (nI n) d_M_blockingOf_20 hf_M_47 (hg.s rfl) (hg.i (by decide)) rfl hM.1 ?_
    refine pm_icmp_ge_t 51 d_M_blockingOf_23 rfl (by rw [nI_leI (by omega) (by omega)]; omega) ?_
    -- at 51: lo=[some (pm_R 48), some (pm_R 51), some (pm_I (nI (c + cb_in (fun l h => wb_ L l h (dm l) (dm h)) l (n - (l + 1))))), some (pm_I (nI l)), some (pm_I (nI n))] st=[]
    exact K
theorem k_M_blockingOf (hg : pm_gok 61 g) (hB : pm_base b) (hw : rh_wf n L) (hM : mi_ n L σ) (hP : mp_ n dm σ) (hD : ∀ p, p < n → dm p < n ∧ rh_rk L p (dm p) ≤ 8) : pm_C b (d + 4) km_M_blockingOf [pm_R 48, pm_R 51] g σ τ 0 0 (pm_Rd (nI (cb_ (fun l h => wb_ L l h (dm l) (dm h)) n n)) σ τ) := by
  have h8 := hw.1
  show pm_Y b (d + 3 + 1) km_M_blockingOf 0 false [some (pm_R 48), some (pm_R 51), none, none, none] [] g σ τ 0 0 0 0 _
  refine pm_iconst' (nI 0) d_M_blockingOf_0 (by decide) ?_
  refine pm_istore_n d_M_blockingOf_1 (by decide) ?_
  refine pm_iconst' (nI 0) d_M_blockingOf_2 (by decide) ?_
  refine pm_istore_n d_M_blockingOf_3 (by decide) ?_
  -- at 4: lo=[some (pm_R 48), some (pm_R 51), some (pm_I (nI 0)), some (pm_I (nI 0)), none] st=[]
  refine pm_for n (fun l (_ : Unit) => ∀ l4 : Option pV, pm_Y b (d + 4) km_M_blockingOf 4 false [some (pm_R 48), some (pm_R 51), some (pm_I (nI (cb_ (fun l h => wb_ L l h (dm l) (dm h)) n l))), some (pm_I (nI l)), l4] [] g σ τ 0 0 0 0 (pm_Rd (nI (cb_ (fun l h => wb_ L l h (dm l) (dm h)) n n)) σ τ)) (fun _ _ => True) (fun l _ hl _ ih l4 => ?_) (fun _ _ l4 => ?_) n 0 () (by omega) trivial none
  · skip
    refine pm_iload_n d_M_blockingOf_4 rfl ?_
    refine pm_aload_n d_M_blockingOf_5 rfl ?_
    refine pm_geti' (nI n) d_M_blockingOf_6 hf_M_47 (hg.s rfl) (hg.i (by decide)) rfl hM.1 ?_
    refine pm_icmp_ge_f 57 d_M_blockingOf_9 rfl (by rw [nI_leI (by omega) (by omega)]; omega) ?_
    refine pm_iload_n d_M_blockingOf_12 rfl ?_
    refine pm_iconst' (nI 1) d_M_blockingOf_13 (by decide) ?_
    refine pm_iaddN d_M_blockingOf_14 ?_
    refine pm_istore d_M_blockingOf_15 (by decide) ?_
    -- at 17: lo=[some (pm_R 48), some (pm_R 51), some (pm_I (nI (cb_ (fun l h => wb_ L l h (dm l) (dm h)) n l))), some (pm_I (nI l)), some (pm_I (nI (l + 1)))] st=[]
    refine l_M_blockingOf_17 hg hB hw hM hP hD hl ?_
    refine pm_iinc' (nI (l + 1)) d_M_blockingOf_51 (by decide) rfl (pm_inc _) ?_
    refine pm_goto 4 d_M_blockingOf_54 rfl ?_
    exact ih () trivial _
  · skip
    refine pm_iload_n d_M_blockingOf_4 rfl ?_
    refine pm_aload_n d_M_blockingOf_5 rfl ?_
    refine pm_geti' (nI n) d_M_blockingOf_6 hf_M_47 (hg.s rfl) (hg.i (by decide)) rfl hM.1 ?_
    refine pm_icmp_ge_t 57 d_M_blockingOf_9 rfl (by rw [nI_leI (by omega) (by omega)]; omega) ?_
    refine pm_iload_n d_M_blockingOf_57 rfl ?_
    exact pm_ireturn d_M_blockingOf_58 rfl (fun h => h) (Nat.le_refl _) (Nat.le_refl _) ⟨rfl, rfl, rfl⟩
theorem k_M_join (hg : pm_gok 61 g) (hn : n ≤ 8) (hP : mp_ n dm σ) (hD : ∀ p, p < n → dm p < n ∧ dm (dm p) = p) (hp : p < n) (hq : q < n) (hne : p ≠ q) : pm_C b (d) km_M_join [pm_R 48, pm_I (nI p), pm_I (nI q)] g σ τ 0 0 (pm_Wp (fun v σ' => v = none ∧ mp_ n (jn_ dm p q) σ' ∧ ∀ c x, c ≠ 51 → σ' c x = σ c x) τ) := by
  have i1 := hD p hp
  have i2 := hD q hq
  show pm_Y b d km_M_join 0 false [some (pm_R 48), some (pm_I (nI p)), some (pm_I (nI q)), none, none] [] g σ τ 0 0 0 0 _
  refine pm_aload_n d_M_join_0 rfl ?_
  refine pm_getr d_M_join_1 hf_M_16 (hg.s rfl) (hg.i (by decide)) rfl (hg.r (by decide) rfl) ?_
  refine pm_iload_n d_M_join_4 rfl ?_
  refine pm_iaload' p (nI (dm p)) d_M_join_5 (hg.s rfl) (hg.i (by decide)) rfl (by omega) (by decide) (hP p hp) ?_
  refine pm_istore_n d_M_join_6 (by decide) ?_
  refine pm_aload_n d_M_join_7 rfl ?_
  refine pm_getr d_M_join_8 hf_M_16 (hg.s rfl) (hg.i (by decide)) rfl (hg.r (by decide) rfl) ?_
  refine pm_iload_n d_M_join_11 rfl ?_
  refine pm_iaload' q (nI (dm q)) d_M_join_12 (hg.s rfl) (hg.i (by decide)) rfl (by omega) (by decide) (hP q hq) ?_
  refine pm_istore d_M_join_13 (by decide) ?_
  refine pm_aload_n d_M_join_15 rfl ?_
  refine pm_getr d_M_join_16 hf_M_16 (hg.s rfl) (hg.i (by decide)) rfl (hg.r (by decide) rfl) ?_
  refine pm_iload_n d_M_join_19 rfl ?_
  refine pm_iload_n d_M_join_20 rfl ?_
  refine pm_iastore (dm p) d_M_join_21 (hg.s rfl) (hg.i (by decide)) rfl (by omega) (by decide) ?_
  refine pm_aload_n d_M_join_22 rfl ?_
  refine pm_getr d_M_join_23 hf_M_16 (hg.s rfl) (hg.i (by decide)) rfl (hg.r (by decide) rfl) ?_
  refine pm_iload d_M_join_26 rfl ?_
  refine pm_iload d_M_join_28 rfl ?_
  refine pm_iastore (dm q) d_M_join_30 (hg.s rfl) (hg.i (by decide)) rfl (by omega) (by decide) ?_
  refine pm_aload_n d_M_join_31 rfl ?_
  refine pm_getr d_M_join_32 hf_M_16 (hg.s rfl) (hg.i (by decide)) rfl (hg.r (by decide) rfl) ?_
  refine pm_iload_n d_M_join_35 rfl ?_
  refine pm_iload_n d_M_join_36 rfl ?_
  refine pm_iastore p d_M_join_37 (hg.s rfl) (hg.i (by decide)) rfl (by omega) (by decide) ?_
  refine pm_aload_n d_M_join_38 rfl ?_
  refine pm_getr d_M_join_39 hf_M_16 (hg.s rfl) (hg.i (by decide)) rfl (hg.r (by decide) rfl) ?_
  refine pm_iload_n d_M_join_42 rfl ?_
  refine pm_iload_n d_M_join_43 rfl ?_
  refine pm_iastore q d_M_join_44 (hg.s rfl) (hg.i (by decide)) rfl (by omega) (by decide) ?_
  exact pm_return d_M_join_45 rfl (fun _ => rfl) (Nat.le_refl _) (Nat.le_refl _) ⟨⟨rfl, mp_eq (mp_up (mp_up (mp_up (mp_up hP)))) (fun x _ => jn_eq hne i1.2 x), fun c x hc => by rw [pm_up_ne (by omega), pm_up_ne (by omega), pm_up_ne (by omega), pm_up_ne (by omega)]⟩, rfl⟩
theorem l_M_satisfy_19 {σ₁ : pI} (hg : pm_gok 61 g) (hB : pm_base b) (hw : rh_wf n L) (hM : mi_ n L σ₁) (hP : mp_ n dm σ₁) (hD : ∀ p, p < n → dm p < n ∧ rh_rk L p (dm p) ≤ 8) (hD2 : ∀ p, p < n → dm p < n ∧ dm (dm p) = p) {l : Nat} (hl : l < n) (hI0 : ∀ l' h', l' < l → l' < h' → h' < n → wb_ L l' h' (dm l') (dm h') = false) (K : (∀ h', l < h' → h' < n → wb_ L l h' (dm l) (dm h') = false) → pm_Y b (d + 4) km_M_satisfy 59 true [some (pm_R 48), some (pm_I (nI l)), some (pm_I (nI n))] [] g σ₁ τ 0 0 0 0 (pm_Wp (fun v σ' => ∃ r, fp_ (fun l h => wb_ L l h (dm l) (dm h)) n r ∧ v = some (sf_v r) ∧ mp_ n (sf_d dm r) σ' ∧ ∀ c x, c ≠ 51 → σ' c x = σ₁ c x) τ)) : pm_Y b (d + 4) km_M_satisfy 19 true [some (pm_R 48), some (pm_I (nI l)), some (pm_I (nI (l + 1)))] [] g σ₁ τ 0 0 0 0 (pm_Wp (fun v σ' => ∃ r, fp_ (fun l h => wb_ L l h (dm l) (dm h)) n r ∧ v = some (sf_v r) ∧ mp_ n (sf_d dm r) σ' ∧ ∀ c x, c ≠ 51 → σ' c x = σ₁ c x) τ) := by
  have h8 := hw.1
  refine pm_for (n - (l + 1)) (fun k (_ : Unit) => pm_Y b (d + 4) km_M_satisfy 19 true [some (pm_R 48), some (pm_I (nI l)), some (pm_I (nI (l + 1 + k)))] [] g σ₁ τ 0 0 0 0 (pm_Wp (fun v σ' => ∃ r, fp_ (fun l h => wb_ L l h (dm l) (dm h)) n r ∧ v = some (sf_v r) ∧ mp_ n (sf_d dm r) σ' ∧ ∀ c x, c ≠ 51 → σ' c x = σ₁ c x) τ)) (fun k _ => ∀ j, j < k → ∀ h', h' = l + 1 + j → wb_ L l h' (dm l) (dm h') = false) (fun k _ hk hI ih => ?_) (fun _ hI => ?_) (n - (l + 1)) 0 () (by omega) (fun j hj => absurd hj (Nat.not_lt_zero j))
  · skip
    refine pm_iload_n d_M_satisfy_19 rfl ?_
    refine pm_aload_n d_M_satisfy_20 rfl ?_
    refine pm_geti' (nI n) d_M_satisfy_21 hf_M_47 (hg.s rfl) (hg.i (by decide)) rfl hM.1 ?_
    refine pm_icmp_ge_f 59 d_M_satisfy_24 rfl (by rw [nI_leI (by omega) (by omega)]; omega) ?_
    refine pm_aload_n d_M_satisfy_27 rfl ?_
    refine pm_iload_n d_M_satisfy_28 rfl ?_
    refine pm_iload_n d_M_satisfy_29 rfl ?_
    refine pm_aload_n d_M_satisfy_30 rfl ?_
    refine pm_getr d_M_satisfy_31 hf_M_16 (hg.s rfl) (hg.i (by decide)) rfl (hg.r (by decide) rfl) ?_
    refine pm_callR (i := 48) (ci := 5) (rest := []) [pm_I (nI l), pm_I (nI (l + 1 + k)), pm_R 51] hB d_M_satisfy_34 hc_M_80 (pm_C_up (show 0 + 3 ≤ d + 3 by omega) (k_M_blocks hg hB hw hM hP hD (by omega) (by omega))) (hg.s rfl) (hg.i (by decide)) rfl rfl rfl rfl (Nat.le_of_ble_eq_true rfl) (Nat.le_of_ble_eq_true rfl) (by omega) (by omega) ?_
    refine pm_if_eqB 53 d_M_satisfy_37 rfl (fun c37 => ?_) (fun c37 => ?_)
    · refine pm_iinc' (nI ((l + 1 + k) + 1)) d_M_satisfy_53 (by decide) rfl (pm_inc _) ?_
      refine pm_goto 19 d_M_satisfy_56 rfl ?_
      -- at 19: lo=[some (pm_R 48), some (pm_I (nI l)), some (pm_I (nI ((l + 1 + k) + 1)))] st=[]
      exact ih () (fun j hj h' e => by
        by_cases ej : j = k
        · subst ej; subst e; exact c37
        · exact hI j (by omega) h' e)
    · refine pm_aload_n d_M_satisfy_40 rfl ?_
      refine pm_iload_n d_M_satisfy_41 rfl ?_
      refine pm_iload_n d_M_satisfy_42 rfl ?_
      refine pm_callWp (i := 48) (ci := 5) (rest := []) [pm_I (nI l), pm_I (nI (l + 1 + k))] hB d_M_satisfy_43 hc_M_83 (k_M_join hg h8 hP hD2 (by omega) (by omega) (by omega)) (hg.s rfl) (hg.i (by decide)) rfl rfl rfl rfl (Nat.le_of_ble_eq_true rfl) (Nat.le_of_ble_eq_true rfl) (by omega) (by omega) (fun v43 σ₂ hv43 hq43 => ?_)
      obtain ⟨rfl, h1, h2⟩ := hq43
      show pm_Y b _ km_M_satisfy 46 true [some (pm_R 48), some (pm_I (nI l)), some (pm_I (nI (l + 1 + k)))] [] g σ₂ τ 0 0 0 0 _
      refine pm_bipush' (nI 8) d_M_satisfy_46 (by decide) ?_
      refine pm_iload_n d_M_satisfy_48 rfl ?_
      refine pm_imulN d_M_satisfy_49 ?_
      refine pm_iload_n d_M_satisfy_50 rfl ?_
      refine pm_iaddN d_M_satisfy_51 ?_
      exact pm_ireturn d_M_satisfy_52 rfl (fun _ => rfl) (Nat.le_refl _) (Nat.le_refl _) ⟨⟨some (l, l + 1 + k), ⟨by omega, by omega, c37, fun l' h' a1 a2 a3 => by
        rcases a3 with a3 | ⟨a3, a4⟩
        · exact hI0 l' h' a3 a1 a2
        · subst a3; exact hI (h' - (l' + 1)) (by omega) h' (by omega)⟩, by rw [Nat.mul_comm]; rfl, h1, h2⟩, rfl⟩
  · rw [show l + 1 + (n - (l + 1)) = n by omega]
    refine pm_iload_n d_M_satisfy_19 rfl ?_
    refine pm_aload_n d_M_satisfy_20 rfl ?_
    refine pm_geti' (nI n) d_M_satisfy_21 hf_M_47 (hg.s rfl) (hg.i (by decide)) rfl hM.1 ?_
    refine pm_icmp_ge_t 59 d_M_satisfy_24 rfl (by rw [nI_leI (by omega) (by omega)]; omega) ?_
    -- at 59: lo=[some (pm_R 48), some (pm_I (nI l)), some (pm_I (nI n))] st=[]
    exact K (fun h' a1 a2 => hI (h' - (l + 1)) (by omega) h' (by omega))
theorem l_M_satisfy_7 {σ₁ : pI} (hg : pm_gok 61 g) (hB : pm_base b) (hw : rh_wf n L) (hM : mi_ n L σ₁) (hP : mp_ n dm σ₁) (hD : ∀ p, p < n → dm p < n ∧ rh_rk L p (dm p) ≤ 8) (hD2 : ∀ p, p < n → dm p < n ∧ dm (dm p) = p) : pm_Y b (d + 4) km_M_satisfy 7 true [some (pm_R 48), some (pm_I (nI 0)), none] [] g σ₁ τ 0 0 0 0 (pm_Wp (fun v σ' => ∃ r, fp_ (fun l h => wb_ L l h (dm l) (dm h)) n r ∧ v = some (sf_v r) ∧ mp_ n (sf_d dm r) σ' ∧ ∀ c x, c ≠ 51 → σ' c x = σ₁ c x) τ) := by
  have h8 := hw.1
  refine pm_for n (fun l (_ : Unit) => ∀ l2 : Option pV, pm_Y b (d + 4) km_M_satisfy 7 true [some (pm_R 48), some (pm_I (nI l)), l2] [] g σ₁ τ 0 0 0 0 (pm_Wp (fun v σ' => ∃ r, fp_ (fun l h => wb_ L l h (dm l) (dm h)) n r ∧ v = some (sf_v r) ∧ mp_ n (sf_d dm r) σ' ∧ ∀ c x, c ≠ 51 → σ' c x = σ₁ c x) τ)) (fun l _ => ∀ l' h', l' < l → l' < h' → h' < n → wb_ L l' h' (dm l') (dm h') = false) (fun l _ hl hI ih l2 => ?_) (fun _ hI l2 => ?_) n 0 () (by omega) (fun l' h' hl => absurd hl (Nat.not_lt_zero l')) none
  · skip
    refine pm_iload_n d_M_satisfy_7 rfl ?_
    refine pm_aload_n d_M_satisfy_8 rfl ?_
    refine pm_geti' (nI n) d_M_satisfy_9 hf_M_47 (hg.s rfl) (hg.i (by decide)) rfl hM.1 ?_
    refine pm_icmp_ge_f 65 d_M_satisfy_12 rfl (by rw [nI_leI (by omega) (by omega)]; omega) ?_
    refine pm_iload_n d_M_satisfy_15 rfl ?_
    refine pm_iconst' (nI 1) d_M_satisfy_16 (by decide) ?_
    refine pm_iaddN d_M_satisfy_17 ?_
    refine pm_istore_n d_M_satisfy_18 (by decide) ?_
    -- at 19: lo=[some (pm_R 48), some (pm_I (nI l)), some (pm_I (nI (l + 1)))] st=[]
    refine l_M_satisfy_19 hg hB hw hM hP hD hD2 hl hI (fun hnew => ?_)
    refine pm_iinc' (nI (l + 1)) d_M_satisfy_59 (by decide) rfl (pm_inc _) ?_
    refine pm_goto 7 d_M_satisfy_62 rfl ?_
    exact ih () (fun l' h' a1 a2 a3 => by
      by_cases e : l' = l
      · subst e; exact hnew h' a2 a3
      · exact hI l' h' (by omega) a2 a3) _
  · skip
    refine pm_iload_n d_M_satisfy_7 rfl ?_
    refine pm_aload_n d_M_satisfy_8 rfl ?_
    refine pm_geti' (nI n) d_M_satisfy_9 hf_M_47 (hg.s rfl) (hg.i (by decide)) rfl hM.1 ?_
    refine pm_icmp_ge_t 65 d_M_satisfy_12 rfl (by rw [nI_leI (by omega) (by omega)]; omega) ?_
    refine pm_iconst' (-1) d_M_satisfy_65 (by decide) ?_
    exact pm_ireturn d_M_satisfy_66 rfl (fun _ => rfl) (Nat.le_refl _) (Nat.le_refl _) ⟨⟨none, fun l h a1 a2 => hI l h (by omega) a1 a2, rfl, hP, fun _ _ _ => rfl⟩, rfl⟩
/-- who has one whom it may not have is parted from it -/
def bd_ (L : Nat → List Nat) (dm : Nat → Nat) (x : Nat) : Prop := dm x ≠ x ∧ ¬ (dm x ∈ L x ∧ x ∈ L (dm x))
noncomputable def cg_ (L : Nat → List Nat) (dm : Nat → Nat) (x : Nat) : Nat := @ite _ (bd_ L dm x) (Classical.propDecidable _) x (dm x)
noncomputable def ck_ (L : Nat → List Nat) (dm : Nat → Nat) (i x : Nat) : Nat := @ite _ (bd_ L dm x ∧ (x < i ∨ dm x < i)) (Classical.propDecidable _) x (dm x)
theorem ck_0 {L : Nat → List Nat} {dm : Nat → Nat} (x : Nat) : ck_ L dm 0 x = dm x := if_neg (fun z => by have := z.2; omega)
theorem ck_n {L : Nat → List Nat} {dm : Nat → Nat} {n x : Nat} (hx : x < n) : ck_ L dm n x = cg_ L dm x := by
  unfold ck_ cg_
  by_cases e : bd_ L dm x
  · rw [if_pos e, if_pos ⟨e, Or.inl hx⟩]
  · rw [if_neg e, if_neg (fun z => e z.1)]
theorem bd_sym {L : Nat → List Nat} {dm : Nat → Nat} {x : Nat} (hi : dm (dm x) = x) (h : bd_ L dm x) : bd_ L dm (dm x) := ⟨by rw [hi]; exact Ne.symm h.1, by rw [hi]; exact fun z => h.2 ⟨z.2, z.1⟩⟩
/-- at person i: nothing is done -/
theorem ck_skip {L : Nat → List Nat} {dm : Nat → Nat} {i x : Nat} (hi : dm (dm i) = i) (hx : dm (dm x) = x) (h : ¬ (bd_ L dm i ∧ ¬ (dm i < i))) : ck_ L dm (i + 1) x = ck_ L dm i x := by
  unfold ck_
  by_cases e : bd_ L dm x ∧ (x < i ∨ dm x < i)
  · rw [if_pos e, if_pos ⟨e.1, by omega⟩]
  · rw [if_neg e, if_neg]
    rintro ⟨z1, z2⟩
    apply h
    rcases z2 with z2 | z2
    · have : x = i := by
        have : ¬ x < i := fun w => e ⟨z1, Or.inl w⟩
        omega
      subst this
      exact ⟨z1, fun w => e ⟨z1, Or.inr w⟩⟩
    · have hd : dm x = i := by
        have : ¬ dm x < i := fun w => e ⟨z1, Or.inr w⟩
        omega
      have e2 : dm i = x := by rw [← hd, hx]
      have := bd_sym hx z1
      rw [hd] at this
      refine ⟨this, fun w => e ⟨z1, Or.inl (by omega)⟩⟩
theorem ck_cut {L : Nat → List Nat} {dm : Nat → Nat} {i x : Nat} (hi : dm (dm i) = i) (hx : dm (dm x) = x) (h : bd_ L dm i) : ck_ L dm (i + 1) x = gw_up (gw_up (ck_ L dm i) i i) (dm i) (dm i) x := by
  by_cases e1 : x = dm i
  · rw [e1, gw_up_self]
    unfold ck_
    exact if_pos ⟨bd_sym hi h, Or.inr (by rw [hi]; omega)⟩
  · rw [gw_up_ne _ _ e1]
    by_cases e2 : x = i
    · rw [e2, gw_up_self]
      unfold ck_
      exact if_pos ⟨h, Or.inl (by omega)⟩
    · rw [gw_up_ne _ _ e2]
      unfold ck_
      have hd : dm x ≠ i := fun z => e1 (by rw [← z, hx])
      by_cases e : bd_ L dm x ∧ (x < i ∨ dm x < i)
      · rw [if_pos e, if_pos ⟨e.1, by omega⟩]
      · rw [if_neg e, if_neg (fun z => e ⟨z.1, by omega⟩)]
theorem ck_self {L : Nat → List Nat} {dm : Nat → Nat} {i : Nat} (h : ¬ dm i < i) : ck_ L dm i i = dm i := if_neg (fun z => by have := z.2; omega)
theorem ck_bad {L : Nat → List Nat} {dm : Nat → Nat} {i : Nat} (h : dm i < i) (hb : bd_ L dm i) : ck_ L dm i i = i := if_pos ⟨hb, Or.inr h⟩
theorem ck_fine {L : Nat → List Nat} {dm : Nat → Nat} {i : Nat} (hb : ¬ bd_ L dm i) : ck_ L dm i i = dm i := if_neg (fun z => hb z.1)
theorem k_M_change (hg : pm_gok 61 g) (hB : pm_base b) (hw : rh_wf n L) (hD : ∀ p, p < n → dm p < n ∧ dm (dm p) = p) (hM : mi_ n L σ) (hP : mp_ n dm σ) : pm_C b (d + 2) km_M_change [pm_R 48] g σ τ 0 0 (pm_Wp (fun v σ' => v = none ∧ mp_ n (cg_ L dm) σ' ∧ σ' 48 5 = nI 0 ∧ (∀ c x, c ≠ 51 → ¬ (c = 48 ∧ x = 5) → σ' c x = σ c x)) τ) := by
  have h8 := hw.1
  show pm_Y b (d + 1 + 1) km_M_change 0 false [some (pm_R 48), none, none] [] g σ τ 0 0 0 0 _
  refine pm_aload_n d_M_change_0 rfl ?_
  refine pm_iconst' (nI 0) d_M_change_1 (by decide) ?_
  refine pm_putz d_M_change_2 hp_M_58 (hg.s rfl) (hg.i (by decide)) rfl (Or.inl rfl) ?_
  refine pm_iconst' (nI 0) d_M_change_5 (by decide) ?_
  refine pm_istore_n d_M_change_6 (by decide) ?_
  -- at 7: lo=[some (pm_R 48), some (pm_I (nI 0)), none] st=[]
  refine pm_for n (fun i σ₁ => ∀ l2 : Option pV, pm_Y b (d + 1 + 1) km_M_change 7 true [some (pm_R 48), some (pm_I (nI i)), l2] [] g σ₁ τ 0 0 0 0 (pm_Wp (fun v σ' => v = none ∧ mp_ n (cg_ L dm) σ' ∧ σ' 48 5 = nI 0 ∧ (∀ c x, c ≠ 51 → ¬ (c = 48 ∧ x = 5) → σ' c x = σ c x)) τ)) (fun i σ₁ => mi_ n L σ₁ ∧ mp_ n (ck_ L dm i) σ₁ ∧ σ₁ 48 5 = nI 0 ∧ (∀ c x, c ≠ 51 → ¬ (c = 48 ∧ x = 5) → σ₁ c x = σ c x)) (fun i σ₁ hi hI ih l2 => ?_) (fun σ₁ hI l2 => ?_) n 0 _ (by omega) ⟨mi_of hM (pm_up_ne (by omega)) (fun c x hc => pm_up_ne (by omega)), fun p hp => by rw [pm_up_ne (by omega), ck_0]; exact hP p hp, pm_up_at, fun c x h1 h2 => pm_up_ne h2⟩ none
  · have i1 := (hD i hi).1
    by_cases hb : bd_ L dm i
    · by_cases e : dm i < i
      · skip
        refine pm_iload_n d_M_change_7 rfl ?_
        refine pm_aload_n d_M_change_8 rfl ?_
        refine pm_geti' (nI n) d_M_change_9 hf_M_47 (hg.s rfl) (hg.i (by decide)) rfl hI.1.1 ?_
        refine pm_icmp_ge_f 56 d_M_change_12 rfl (by rw [nI_leI (by omega) (by omega)]; omega) ?_
        refine pm_aload_n d_M_change_15 rfl ?_
        refine pm_getr d_M_change_16 hf_M_16 (hg.s rfl) (hg.i (by decide)) rfl (hg.r (by decide) rfl) ?_
        refine pm_iload_n d_M_change_19 rfl ?_
        refine pm_iaload' i (nI i) d_M_change_20 (hg.s rfl) (hg.i (by decide)) rfl (by omega) (by decide) (by rw [hI.2.1 i hi, ck_bad e hb]) ?_
        refine pm_istore_n d_M_change_21 (by decide) ?_
        refine pm_iload_n d_M_change_22 rfl ?_
        refine pm_iload_n d_M_change_23 rfl ?_
        refine pm_icmp_eq_t 50 d_M_change_24 rfl rfl ?_
        refine pm_iinc' (nI (i + 1)) d_M_change_50 (by decide) rfl (pm_inc _) ?_
        refine pm_goto 7 d_M_change_53 rfl ?_
        -- at 7: lo=[some (pm_R 48), some (pm_I (nI (i + 1))), some (pm_I (nI i))] st=[]
        exact ih _ ⟨hI.1, mp_eq hI.2.1 (fun x hx => (ck_skip (hD i hi).2 (hD x hx).2 (fun z => z.2 e)).symm), hI.2.2⟩ _
      · skip
        refine pm_iload_n d_M_change_7 rfl ?_
        refine pm_aload_n d_M_change_8 rfl ?_
        refine pm_geti' (nI n) d_M_change_9 hf_M_47 (hg.s rfl) (hg.i (by decide)) rfl hI.1.1 ?_
        refine pm_icmp_ge_f 56 d_M_change_12 rfl (by rw [nI_leI (by omega) (by omega)]; omega) ?_
        refine pm_aload_n d_M_change_15 rfl ?_
        refine pm_getr d_M_change_16 hf_M_16 (hg.s rfl) (hg.i (by decide)) rfl (hg.r (by decide) rfl) ?_
        refine pm_iload_n d_M_change_19 rfl ?_
        refine pm_iaload' i (nI (dm i)) d_M_change_20 (hg.s rfl) (hg.i (by decide)) rfl (by omega) (by decide) (by rw [hI.2.1 i hi, ck_self e]) ?_
        refine pm_istore_n d_M_change_21 (by decide) ?_
        refine pm_iload_n d_M_change_22 rfl ?_
        refine pm_iload_n d_M_change_23 rfl ?_
        refine pm_icmp_eq_f 50 d_M_change_24 rfl (fun z => hb.1 ((nI_eq (by omega) (by omega)).mp z)) ?_
        refine pm_aload_n d_M_change_27 rfl ?_
        refine pm_iload_n d_M_change_28 rfl ?_
        refine pm_iload_n d_M_change_29 rfl ?_
        refine pm_callR (i := 48) (ci := 5) (rest := []) [pm_I (nI i), pm_I (nI (dm i))] hB d_M_change_30 hc_M_54 (pm_C_up (show 0 + 1 ≤ d + 1 by omega) (k_M_mayBe hg hB hw hI.1 hi (hD i hi).1)) (hg.s rfl) (hg.i (by decide)) rfl rfl rfl rfl (Nat.le_of_ble_eq_true rfl) (Nat.le_of_ble_eq_true rfl) (by omega) (by omega) ?_
        refine pm_if_ne_f 50 d_M_change_33 rfl (by rw [decide_eq_false hb.2]; rfl) ?_
        refine pm_aload_n d_M_change_36 rfl ?_
        refine pm_getr d_M_change_37 hf_M_16 (hg.s rfl) (hg.i (by decide)) rfl (hg.r (by decide) rfl) ?_
        refine pm_iload_n d_M_change_40 rfl ?_
        refine pm_iload_n d_M_change_41 rfl ?_
        refine pm_iastore i d_M_change_42 (hg.s rfl) (hg.i (by decide)) rfl (by omega) (by decide) ?_
        refine pm_aload_n d_M_change_43 rfl ?_
        refine pm_getr d_M_change_44 hf_M_16 (hg.s rfl) (hg.i (by decide)) rfl (hg.r (by decide) rfl) ?_
        refine pm_iload_n d_M_change_47 rfl ?_
        refine pm_iload_n d_M_change_48 rfl ?_
        refine pm_iastore (dm i) d_M_change_49 (hg.s rfl) (hg.i (by decide)) rfl (by omega) (by decide) ?_
        refine pm_iinc' (nI (i + 1)) d_M_change_50 (by decide) rfl (pm_inc _) ?_
        refine pm_goto 7 d_M_change_53 rfl ?_
        -- at 7: lo=[some (pm_R 48), some (pm_I (nI (i + 1))), some (pm_I (nI (dm i)))] st=[]
        exact ih _ ⟨mi_of hI.1 (by rw [pm_up_ne (by omega), pm_up_ne (by omega)]) (fun c x hc => by rw [pm_up_ne (by omega), pm_up_ne (by omega)]), mp_eq (mp_up (mp_up hI.2.1)) (fun x hx => (ck_cut (hD i hi).2 (hD x hx).2 hb).symm), by rw [pm_up_ne (by omega), pm_up_ne (by omega)]; exact hI.2.2.1, fun c x h1 h2 => by rw [pm_up_ne (by omega), pm_up_ne (by omega)]; exact hI.2.2.2 c x h1 h2⟩ _
    · by_cases e : dm i = i
      · skip
        refine pm_iload_n d_M_change_7 rfl ?_
        refine pm_aload_n d_M_change_8 rfl ?_
        refine pm_geti' (nI n) d_M_change_9 hf_M_47 (hg.s rfl) (hg.i (by decide)) rfl hI.1.1 ?_
        refine pm_icmp_ge_f 56 d_M_change_12 rfl (by rw [nI_leI (by omega) (by omega)]; omega) ?_
        refine pm_aload_n d_M_change_15 rfl ?_
        refine pm_getr d_M_change_16 hf_M_16 (hg.s rfl) (hg.i (by decide)) rfl (hg.r (by decide) rfl) ?_
        refine pm_iload_n d_M_change_19 rfl ?_
        refine pm_iaload' i (nI (dm i)) d_M_change_20 (hg.s rfl) (hg.i (by decide)) rfl (by omega) (by decide) (by rw [hI.2.1 i hi, ck_fine hb]) ?_
        refine pm_istore_n d_M_change_21 (by decide) ?_
        refine pm_iload_n d_M_change_22 rfl ?_
        refine pm_iload_n d_M_change_23 rfl ?_
        refine pm_icmp_eq_t 50 d_M_change_24 rfl (by rw [e]) ?_
        refine pm_iinc' (nI (i + 1)) d_M_change_50 (by decide) rfl (pm_inc _) ?_
        refine pm_goto 7 d_M_change_53 rfl ?_
        -- at 7: lo=[some (pm_R 48), some (pm_I (nI (i + 1))), some (pm_I (nI (dm i)))] st=[]
        exact ih _ ⟨hI.1, mp_eq hI.2.1 (fun x hx => (ck_skip (hD i hi).2 (hD x hx).2 (fun z => hb z.1)).symm), hI.2.2⟩ _
      · skip
        refine pm_iload_n d_M_change_7 rfl ?_
        refine pm_aload_n d_M_change_8 rfl ?_
        refine pm_geti' (nI n) d_M_change_9 hf_M_47 (hg.s rfl) (hg.i (by decide)) rfl hI.1.1 ?_
        refine pm_icmp_ge_f 56 d_M_change_12 rfl (by rw [nI_leI (by omega) (by omega)]; omega) ?_
        refine pm_aload_n d_M_change_15 rfl ?_
        refine pm_getr d_M_change_16 hf_M_16 (hg.s rfl) (hg.i (by decide)) rfl (hg.r (by decide) rfl) ?_
        refine pm_iload_n d_M_change_19 rfl ?_
        refine pm_iaload' i (nI (dm i)) d_M_change_20 (hg.s rfl) (hg.i (by decide)) rfl (by omega) (by decide) (by rw [hI.2.1 i hi, ck_fine hb]) ?_
        refine pm_istore_n d_M_change_21 (by decide) ?_
        refine pm_iload_n d_M_change_22 rfl ?_
        refine pm_iload_n d_M_change_23 rfl ?_
        refine pm_icmp_eq_f 50 d_M_change_24 rfl (fun z => e ((nI_eq (by omega) (by omega)).mp z)) ?_
        refine pm_aload_n d_M_change_27 rfl ?_
        refine pm_iload_n d_M_change_28 rfl ?_
        refine pm_iload_n d_M_change_29 rfl ?_
        refine pm_callR (i := 48) (ci := 5) (rest := []) [pm_I (nI i), pm_I (nI (dm i))] hB d_M_change_30 hc_M_54 (pm_C_up (show 0 + 1 ≤ d + 1 by omega) (k_M_mayBe hg hB hw hI.1 hi (hD i hi).1)) (hg.s rfl) (hg.i (by decide)) rfl rfl rfl rfl (Nat.le_of_ble_eq_true rfl) (Nat.le_of_ble_eq_true rfl) (by omega) (by omega) ?_
        refine pm_if_ne_t 50 d_M_change_33 rfl (by rw [decide_eq_true (Classical.not_not.mp (fun z => hb ⟨e, z⟩))]; decide) ?_
        refine pm_iinc' (nI (i + 1)) d_M_change_50 (by decide) rfl (pm_inc _) ?_
        refine pm_goto 7 d_M_change_53 rfl ?_
        -- at 7: lo=[some (pm_R 48), some (pm_I (nI (i + 1))), some (pm_I (nI (dm i)))] st=[]
        exact ih _ ⟨hI.1, mp_eq hI.2.1 (fun x hx => (ck_skip (hD i hi).2 (hD x hx).2 (fun z => hb z.1)).symm), hI.2.2⟩ _
  · skip
    refine pm_iload_n d_M_change_7 rfl ?_
    refine pm_aload_n d_M_change_8 rfl ?_
    refine pm_geti' (nI n) d_M_change_9 hf_M_47 (hg.s rfl) (hg.i (by decide)) rfl hI.1.1 ?_
    refine pm_icmp_ge_t 56 d_M_change_12 rfl (by rw [nI_leI (by omega) (by omega)]; omega) ?_
    exact pm_return d_M_change_56 rfl (fun _ => rfl) (Nat.le_refl _) (Nat.le_refl _) ⟨⟨rfl, mp_eq hI.2.1 (fun x hx => ck_n hx), hI.2.2⟩, rfl⟩
end M2
