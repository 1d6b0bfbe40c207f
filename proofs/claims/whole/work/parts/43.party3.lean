/-! parties: reckon, and what is asked -/
def pp_ (n : Nat) (L : Nat → List Nat) (σ : pI) : Prop := ci_F n (F_ n L) σ ∧ (∀ p, p < n → σ 47 p = nI (od_ n L p)) ∧ σ 44 4 = nI (oc_ n L 1 n) ∧ σ 44 5 = nI (oc_ n L 3 n)
def pc_ (n ch : Nat) (L : Nat → List Nat) (σ : pI) : Prop := ∃ r : Option Nat, σ 44 6 = oI r ∧ (∀ x, r = some x → x ≤ ch) ∧ (r = some ch → pp_ n L σ)
def qfr_ (σ₀ σ : pI) : Prop := ∀ c x, ¬ (44 ≤ c ∧ c < 48) → σ c x = σ₀ c x
def pq_ (n ch : Nat) (L : Nat → List Nat) (σ₀ σ : pI) : Prop := pp_ n L σ ∧ σ 44 6 = nI ch ∧ qfr_ σ₀ σ
theorem pq_pc {n ch : Nat} {L : Nat → List Nat} {σ₀ σ : pI} (h : pq_ n ch L σ₀ σ) : pc_ n ch L σ := ⟨some ch, h.2.1, fun x hx => by cases hx; exact Nat.le_refl _, fun _ => h.1⟩
def pr_I (ch : Nat) (σ₀ : pI) (i : Nat) (σ : pI) : Prop := σ 44 6 = nI ch ∧ (∀ p, p < i → σ 45 p = -1 ∧ σ 46 p = -1 ∧ σ 47 p = nI 0) ∧ qfr_ σ₀ σ
section P3
variable {b : pB} {g : pG} {σ : pI} {τ : pJ} {d p n ch : Nat} {L : Nat → List Nat}
theorem l_P_reckon_28 (hg : pm_gok 48 g) (hB : pm_base b) (hw : rh_wf n L) (hE : env_ n L σ) {σ₁ : pI} (h0 : pr_I ch σ 0 σ₁) : pm_Y b (d + 20 + 1) km_P_reckon 28 true [some (pm_R 44), some (pm_I (nI 0))] [] g σ₁ τ 0 0 0 0 (pm_Wp (fun v σ' => v = none ∧ pq_ n ch L σ σ') τ) := by
  have h8 := hw.1
  obtain ⟨fo, le, hps, hfo⟩ := PM_search hw
  refine pm_for 8 (fun i σ₂ => pm_Y b (d + 20 + 1) km_P_reckon 28 true [some (pm_R 44), some (pm_I (nI i))] [] g σ₂ τ 0 0 0 0 (pm_Wp (fun v σ' => v = none ∧ pq_ n ch L σ σ') τ)) (pr_I ch σ) (fun i σ₂ hi hI ih => ?_) (fun σ₂ hI => ?_) 8 0 σ₁ rfl h0
  · refine pm_iload_n d_P_reckon_28 rfl ?_
    refine pm_bipush' (nI 8) d_P_reckon_29 (by decide) ?_
    refine pm_icmp_ge_f 61 d_P_reckon_31 rfl (by rw [nI_leI (by omega) (by omega)]; omega) ?_
    refine pm_aload_n d_P_reckon_34 rfl ?_
    refine pm_getr d_P_reckon_35 hf_P_9 (hg.s rfl) (hg.i (by decide)) rfl (hg.r (by decide) rfl) ?_
    refine pm_iload_n d_P_reckon_38 rfl ?_
    refine pm_iconst' (-1) d_P_reckon_39 (by decide) ?_
    refine pm_iastore i d_P_reckon_40 (hg.s rfl) (hg.i (by decide)) rfl hi (by decide) ?_
    refine pm_aload_n d_P_reckon_41 rfl ?_
    refine pm_getr d_P_reckon_42 hf_P_15 (hg.s rfl) (hg.i (by decide)) rfl (hg.r (by decide) rfl) ?_
    refine pm_iload_n d_P_reckon_45 rfl ?_
    refine pm_iconst' (-1) d_P_reckon_46 (by decide) ?_
    refine pm_iastore i d_P_reckon_47 (hg.s rfl) (hg.i (by decide)) rfl hi (by decide) ?_
    refine pm_aload_n d_P_reckon_48 rfl ?_
    refine pm_getr d_P_reckon_49 hf_P_18 (hg.s rfl) (hg.i (by decide)) rfl (hg.r (by decide) rfl) ?_
    refine pm_iload_n d_P_reckon_52 rfl ?_
    refine pm_iconst' (nI 0) d_P_reckon_53 (by decide) ?_
    refine pm_iastore i d_P_reckon_54 (hg.s rfl) (hg.i (by decide)) rfl hi (by decide) ?_
    refine pm_iinc' (nI (i + 1)) d_P_reckon_55 (by decide) rfl (pm_inc _) ?_
    refine pm_goto 28 d_P_reckon_58 rfl ?_
    -- at 28: lo=[some (pm_R 44), some (pm_I (nI (i + 1)))] st=[]
    exact ih _ ⟨by rw [pm_up_ne (by omega), pm_up_ne (by omega), pm_up_ne (by omega)]; exact hI.1, fun p hp => by
      by_cases e : p = i
      · subst e
        exact ⟨by rw [pm_up_ne (by omega), pm_up_ne (by omega), pm_up_at], by rw [pm_up_ne (by omega), pm_up_at], by rw [pm_up_at]⟩
      · have h9 := hI.2.1 p (by omega)
        exact ⟨by rw [pm_up_ne (by omega), pm_up_ne (by omega), pm_up_ne (by omega)]; exact h9.1, by rw [pm_up_ne (by omega), pm_up_ne (by omega), pm_up_ne (by omega)]; exact h9.2.1, by rw [pm_up_ne (by omega), pm_up_ne (by omega), pm_up_ne (by omega)]; exact h9.2.2⟩, fun c x hc => by rw [pm_up_ne (by omega), pm_up_ne (by omega), pm_up_ne (by omega)]; exact hI.2.2 c x hc⟩
  · have hE3 : env_ n L (pm_up (pm_up σ₂ 44 4 (nI 0)) 44 5 (nI 0)) := env_of hE (fun c x hc => by rw [pm_up_ne (by omega), pm_up_ne (by omega)]; exact hI.2.2 c x (by omega))
    have hf3 : ci_T 45 (fun _ => none) (pm_up (pm_up σ₂ 44 4 (nI 0)) 44 5 (nI 0)) := fun p hp => by rw [pm_up_ne (by omega), pm_up_ne (by omega)]; exact (hI.2.1 p hp).1
    have hl3 : ci_T 46 (fun _ => none) (pm_up (pm_up σ₂ 44 4 (nI 0)) 44 5 (nI 0)) := fun p hp => by rw [pm_up_ne (by omega), pm_up_ne (by omega)]; exact (hI.2.1 p hp).2.1
    have h47 : ∀ p, p < 8 → (pm_up (pm_up σ₂ 44 4 (nI 0)) 44 5 (nI 0)) 47 p = nI 0 := fun p hp => by rw [pm_up_ne (by omega), pm_up_ne (by omega)]; exact (hI.2.1 p hp).2.2
    have h44 : (pm_up (pm_up σ₂ 44 4 (nI 0)) 44 5 (nI 0)) 44 4 = nI 0 := by rw [pm_up_ne (by omega), pm_up_at]
    have h45 : (pm_up (pm_up σ₂ 44 4 (nI 0)) 44 5 (nI 0)) 44 5 = nI 0 := pm_up_at
    refine pm_iload_n d_P_reckon_28 rfl ?_
    refine pm_bipush' (nI 8) d_P_reckon_29 (by decide) ?_
    refine pm_icmp_ge_t 61 d_P_reckon_31 rfl (by decide) ?_
    refine pm_aload_n d_P_reckon_61 rfl ?_
    refine pm_iconst' (nI 0) d_P_reckon_62 (by decide) ?_
    refine pm_puti d_P_reckon_63 hp_P_32 (hg.s rfl) (hg.i (by decide)) rfl ?_
    refine pm_aload_n d_P_reckon_66 rfl ?_
    refine pm_iconst' (nI 0) d_P_reckon_67 (by decide) ?_
    refine pm_puti d_P_reckon_68 hp_P_35 (hg.s rfl) (hg.i (by decide)) rfl ?_
    refine pm_aload_n d_P_reckon_71 rfl ?_
    refine pm_iconst' (nI 0) d_P_reckon_72 (by decide) ?_
    refine pm_callWp (i := 44) (ci := 4) (rest := []) [pm_I (nI 0)] hB d_P_reckon_73 hc_P_44 (pm_C_up (show 0 + 2 * n + 4 ≤ d + 20 by omega) (k_P_search hg hB hw n 0 (fun _ => none) (fun _ => none) _ (Nat.zero_add n) hE3 hf3 hl3 ⟨fun a c hc => by (cases hc), fun a c hc => by (cases hc), fun _ _ => rfl⟩)) (hg.s rfl) (hg.i (by decide)) rfl rfl rfl rfl (Nat.le_of_ble_eq_true rfl) (Nat.le_of_ble_eq_true rfl) (by omega) (by omega) (fun v73 σ₄ hv73 hq73 => ?_)
    obtain ⟨rfl, hf4, hl4, hx4⟩ := hq73
    rw [hps] at hf4 hl4
    rw [hps]
    show pm_Y b _ km_P_reckon 76 true [some (pm_R 44), some (pm_I (nI 8))] [pm_I (nI 1)] g σ₄ τ 0 0 0 0 _
    have hF4 : ci_F n (F_ n L) σ₄ := fun p hp => by
      rw [hf4 p (by omega)]
      show oI (fo p) = _
      rw [hfo p hp]
      rfl
    refine pm_if_eq_f 83 d_P_reckon_76 rfl (by decide) ?_
    refine pm_aload_n d_P_reckon_79 rfl ?_
    refine pm_callWp (i := 44) (ci := 4) (rest := []) [] hB d_P_reckon_80 hc_P_48 (pm_C_up (show 0 + 1 ≤ d + 20 by omega) (k_P_measureAll hg hB hw (env_of hE3 hx4.lo).1 hF4 (fun p hp => by rw [hx4 47 p (by omega) (by omega)]; exact h47 p hp) (by rw [hx4 44 4 (by omega) (by omega)]; exact h44) (by rw [hx4 44 5 (by omega) (by omega)]; exact h45))) (hg.s rfl) (hg.i (by decide)) rfl rfl rfl rfl (Nat.le_of_ble_eq_true rfl) (Nat.le_of_ble_eq_true rfl) (by omega) (by omega) (fun v80 σ₅ hv80 hq80 => ?_)
    obtain ⟨rfl, hma⟩ := hq80
    show pm_Y b _ km_P_reckon 83 true [some (pm_R 44), some (pm_I (nI 8))] [] g σ₅ τ 0 0 0 0 _
    exact pm_return d_P_reckon_83 rfl (fun _ => rfl) (Nat.le_refl _) (Nat.le_refl _) ⟨⟨rfl, ⟨fun p hp => by rw [hma.2.2.2.2 45 p (by omega) (by omega)]; exact hF4 p hp, hma.1, hma.2.2.1, hma.2.2.2.1⟩, by rw [hma.2.2.2.2 44 6 (by omega) (by omega), hx4 44 6 (by omega) (by omega), pm_up_ne (by omega), pm_up_ne (by omega)]; exact hI.1, fun c x hc => by rw [hma.2.2.2.2 c x (by omega) (by omega), hx4 c x (by omega) (by omega), pm_up_ne (by omega), pm_up_ne (by omega)]; exact hI.2.2 c x hc⟩, rfl⟩
theorem k_P_reckon (hg : pm_gok 48 g) (hB : pm_base b) (hw : rh_wf n L) (hE : env_ n L σ) (hch : σ 1 5 = nI ch) (hc : ch < 2 ^ 31) (hs : pc_ n ch L σ) : pm_C b (d + 21) km_P_reckon [pm_R 44] g σ τ 0 0 (pm_Wp (fun v σ' => v = none ∧ pq_ n ch L σ σ') τ) := by
  show pm_Y b (d + 20 + 1) km_P_reckon 0 false [some (pm_R 44), none] [] g σ τ 0 0 0 0 _
  obtain ⟨r, hr, hle, hok⟩ := hs
  by_cases e : r = some ch
  · subst e
    have hok := hok rfl
    have hr : σ 44 6 = nI ch := hr
    refine pm_aload_n d_P_reckon_0 rfl ?_
    refine pm_geti' (nI ch) d_P_reckon_1 hf_P_21 (hg.s rfl) (hg.i (by decide)) rfl hr ?_
    refine pm_aload_n d_P_reckon_4 rfl ?_
    refine pm_getr d_P_reckon_5 hf_P_25 (hg.s rfl) (hg.i (by decide)) rfl (hg.r (by decide) rfl) ?_
    refine pm_callR (i := 1) (ci := 1) (rest := [pm_I (nI ch)]) [] hB d_P_reckon_8 hc_P_38 (k_W_changes hg hch) (hg.s rfl) (hg.i (by decide)) rfl rfl rfl rfl (Nat.le_of_ble_eq_true rfl) (Nat.le_of_ble_eq_true rfl) (by omega) (by omega) ?_
    refine pm_icmp_ne_f 15 d_P_reckon_11 rfl rfl ?_
    exact pm_return d_P_reckon_14 rfl (fun _ => rfl) (Nat.le_refl _) (Nat.le_refl _) ⟨⟨rfl, hok, hr, fun _ _ _ => rfl⟩, rfl⟩
  · have hne : ¬ σ 44 6 = nI ch := by
      rw [hr]
      cases r with
      | none => exact fun z => nI_m1 hc z.symm
      | some x =>
        intro z
        have hx := hle x rfl
        exact e (by rw [(nI_eq (by omega) hc).mp z])
    refine pm_aload_n d_P_reckon_0 rfl ?_
    refine pm_geti d_P_reckon_1 hf_P_21 (hg.s rfl) (hg.i (by decide)) rfl ?_
    refine pm_aload_n d_P_reckon_4 rfl ?_
    refine pm_getr d_P_reckon_5 hf_P_25 (hg.s rfl) (hg.i (by decide)) rfl (hg.r (by decide) rfl) ?_
    refine pm_callR (i := 1) (ci := 1) (rest := [pm_I (σ 44 6)]) [] hB d_P_reckon_8 hc_P_38 (k_W_changes hg hch) (hg.s rfl) (hg.i (by decide)) rfl rfl rfl rfl (Nat.le_of_ble_eq_true rfl) (Nat.le_of_ble_eq_true rfl) (by omega) (by omega) ?_
    refine pm_icmp_ne_t 15 d_P_reckon_11 rfl hne ?_
    refine pm_aload_n d_P_reckon_15 rfl ?_
    refine pm_aload_n d_P_reckon_16 rfl ?_
    refine pm_getr d_P_reckon_17 hf_P_25 (hg.s rfl) (hg.i (by decide)) rfl (hg.r (by decide) rfl) ?_
    refine pm_callR (i := 1) (ci := 1) (rest := [pm_R 44]) [] hB d_P_reckon_20 hc_P_38 (k_W_changes hg hch) (hg.s rfl) (hg.i (by decide)) rfl rfl rfl rfl (Nat.le_of_ble_eq_true rfl) (Nat.le_of_ble_eq_true rfl) (by omega) (by omega) ?_
    refine pm_puti d_P_reckon_23 hp_P_21 (hg.s rfl) (hg.i (by decide)) rfl ?_
    refine pm_iconst' (nI 0) d_P_reckon_26 (by decide) ?_
    refine pm_istore_n d_P_reckon_27 (by decide) ?_
    -- at 28: lo=[some (pm_R 44), some (pm_I (nI 0))] st=[]
    exact l_P_reckon_28 hg hB hw hE ⟨pm_up_at, fun p hp => absurd hp (Nat.not_lt_zero p), fun c x hc => pm_up_ne (by omega)⟩
theorem k_P_countOdd (hg : pm_gok 48 g) (hB : pm_base b) (hw : rh_wf n L) (hE : env_ n L σ) (hch : σ 1 5 = nI ch) (hc : ch < 2 ^ 31) (hs : pc_ n ch L σ) : pm_C b (d + 22) km_P_countOdd [pm_R 44] g σ τ 0 0 (pm_Wp (fun v σ' => v = some (nI (oc_ n L 1 n)) ∧ pq_ n ch L σ σ') τ) := by
  have h8 := hw.1
  show pm_Y b (d + 21 + 1) km_P_countOdd 0 false [some (pm_R 44)] [] g σ τ 0 0 0 0 _
  refine pm_aload_n d_P_countOdd_0 rfl ?_
  refine pm_callWp (i := 44) (ci := 4) (rest := []) [] hB d_P_countOdd_1 hc_P_29 (k_P_reckon hg hB hw hE hch hc hs) (hg.s rfl) (hg.i (by decide)) rfl rfl rfl rfl (Nat.le_of_ble_eq_true rfl) (Nat.le_of_ble_eq_true rfl) (by omega) (by omega) (fun v1 σ₁ hv1 hq1 => ?_)
  obtain ⟨rfl, hp1⟩ := hq1
  show pm_Y b _ km_P_countOdd 4 true [some (pm_R 44)] [] g σ₁ τ 0 0 0 0 _
  refine pm_aload_n d_P_countOdd_4 rfl ?_
  refine pm_geti' (nI (oc_ n L 1 n)) d_P_countOdd_5 hf_P_32 (hg.s rfl) (hg.i (by decide)) rfl hp1.1.2.2.1 ?_
  exact pm_ireturn d_P_countOdd_8 rfl (fun _ => rfl) (Nat.le_refl _) (Nat.le_refl _) ⟨⟨rfl, hp1⟩, rfl⟩
theorem k_P_countOddRings (hg : pm_gok 48 g) (hB : pm_base b) (hw : rh_wf n L) (hE : env_ n L σ) (hch : σ 1 5 = nI ch) (hc : ch < 2 ^ 31) (hs : pc_ n ch L σ) : pm_C b (d + 22) km_P_countOddRings [pm_R 44] g σ τ 0 0 (pm_Wp (fun v σ' => v = some (nI (oc_ n L 3 n)) ∧ pq_ n ch L σ σ') τ) := by
  have h8 := hw.1
  show pm_Y b (d + 21 + 1) km_P_countOddRings 0 false [some (pm_R 44)] [] g σ τ 0 0 0 0 _
  refine pm_aload_n d_P_countOddRings_0 rfl ?_
  refine pm_callWp (i := 44) (ci := 4) (rest := []) [] hB d_P_countOddRings_1 hc_P_29 (k_P_reckon hg hB hw hE hch hc hs) (hg.s rfl) (hg.i (by decide)) rfl rfl rfl rfl (Nat.le_of_ble_eq_true rfl) (Nat.le_of_ble_eq_true rfl) (by omega) (by omega) (fun v1 σ₁ hv1 hq1 => ?_)
  obtain ⟨rfl, hp1⟩ := hq1
  show pm_Y b _ km_P_countOddRings 4 true [some (pm_R 44)] [] g σ₁ τ 0 0 0 0 _
  refine pm_aload_n d_P_countOddRings_4 rfl ?_
  refine pm_geti' (nI (oc_ n L 3 n)) d_P_countOddRings_5 hf_P_35 (hg.s rfl) (hg.i (by decide)) rfl hp1.1.2.2.2 ?_
  exact pm_ireturn d_P_countOddRings_8 rfl (fun _ => rfl) (Nat.le_refl _) (Nat.le_refl _) ⟨⟨rfl, hp1⟩, rfl⟩
theorem k_P_oddSize (hg : pm_gok 48 g) (hB : pm_base b) (hw : rh_wf n L) (hE : env_ n L σ) (hch : σ 1 5 = nI ch) (hc : ch < 2 ^ 31) (hs : pc_ n ch L σ) (hp : p < n) : pm_C b (d + 22) km_P_oddSize [pm_R 44, pm_I (nI p)] g σ τ 0 0 (pm_Wp (fun v σ' => v = some (nI (od_ n L p)) ∧ pq_ n ch L σ σ') τ) := by
  have h8 := hw.1
  show pm_Y b (d + 21 + 1) km_P_oddSize 0 false [some (pm_R 44), some (pm_I (nI p))] [] g σ τ 0 0 0 0 _
  refine pm_aload_n d_P_oddSize_0 rfl ?_
  refine pm_callWp (i := 44) (ci := 4) (rest := []) [] hB d_P_oddSize_1 hc_P_29 (k_P_reckon hg hB hw hE hch hc hs) (hg.s rfl) (hg.i (by decide)) rfl rfl rfl rfl (Nat.le_of_ble_eq_true rfl) (Nat.le_of_ble_eq_true rfl) (by omega) (by omega) (fun v1 σ₁ hv1 hq1 => ?_)
  obtain ⟨rfl, hp1⟩ := hq1
  show pm_Y b _ km_P_oddSize 4 true [some (pm_R 44), some (pm_I (nI p))] [] g σ₁ τ 0 0 0 0 _
  refine pm_aload_n d_P_oddSize_4 rfl ?_
  refine pm_getr d_P_oddSize_5 hf_P_18 (hg.s rfl) (hg.i (by decide)) rfl (hg.r (by decide) rfl) ?_
  refine pm_iload_n d_P_oddSize_8 rfl ?_
  refine pm_iaload' p (nI (od_ n L p)) d_P_oddSize_9 (hg.s rfl) (hg.i (by decide)) rfl (by omega) (by decide) (hp1.1.2.1 p hp) ?_
  exact pm_ireturn d_P_oddSize_10 rfl (fun _ => rfl) (Nat.le_refl _) (Nat.le_refl _) ⟨⟨rfl, hp1⟩, rfl⟩
theorem k_P_follower (hg : pm_gok 48 g) (hB : pm_base b) (hw : rh_wf n L) (hE : env_ n L σ) (hch : σ 1 5 = nI ch) (hc : ch < 2 ^ 31) (hs : pc_ n ch L σ) (hp : p < n) : pm_C b (d + 22) km_P_follower [pm_R 44, pm_I (nI p)] g σ τ 0 0 (pm_Wp (fun v σ' => v = some (if od_ n L p = 0 then -1 else nI (F_ n L p)) ∧ pq_ n ch L σ σ') τ) := by
  have h8 := hw.1
  have hle : od_ n L p ≤ n := by
    have := (sz_is hw hp).2
    unfold od_
    split <;> omega
  show pm_Y b (d + 21 + 1) km_P_follower 0 false [some (pm_R 44), some (pm_I (nI p))] [] g σ τ 0 0 0 0 _
  refine pm_aload_n d_P_follower_0 rfl ?_
  refine pm_callWp (i := 44) (ci := 4) (rest := []) [] hB d_P_follower_1 hc_P_29 (k_P_reckon hg hB hw hE hch hc hs) (hg.s rfl) (hg.i (by decide)) rfl rfl rfl rfl (Nat.le_of_ble_eq_true rfl) (Nat.le_of_ble_eq_true rfl) (by omega) (by omega) (fun v1 σ₁ hv1 hq1 => ?_)
  obtain ⟨rfl, hp1⟩ := hq1
  show pm_Y b _ km_P_follower 4 true [some (pm_R 44), some (pm_I (nI p))] [] g σ₁ τ 0 0 0 0 _
  refine pm_aload_n d_P_follower_4 rfl ?_
  refine pm_getr d_P_follower_5 hf_P_18 (hg.s rfl) (hg.i (by decide)) rfl (hg.r (by decide) rfl) ?_
  refine pm_iload_n d_P_follower_8 rfl ?_
  refine pm_iaload' p (nI (od_ n L p)) d_P_follower_9 (hg.s rfl) (hg.i (by decide)) rfl (by omega) (by decide) (hp1.1.2.1 p hp) ?_
  by_cases z : od_ n L p = 0
  · have z9 : nI (od_ n L p) = 0 := by rw [z]; rfl
    refine pm_if_ne_f 17 d_P_follower_10 rfl z9 ?_
    refine pm_iconst' (-1) d_P_follower_13 (by decide) ?_
    refine pm_goto 23 d_P_follower_14 rfl ?_
    exact pm_ireturn d_P_follower_23 rfl (fun _ => rfl) (Nat.le_refl _) (Nat.le_refl _) ⟨⟨by rw [if_pos z], hp1⟩, rfl⟩
  · have z9 : ¬ nI (od_ n L p) = 0 := nI_ne0 (by omega) (by omega)
    refine pm_if_ne_t 17 d_P_follower_10 rfl z9 ?_
    refine pm_aload_n d_P_follower_17 rfl ?_
    refine pm_getr d_P_follower_18 hf_P_9 (hg.s rfl) (hg.i (by decide)) rfl (hg.r (by decide) rfl) ?_
    refine pm_iload_n d_P_follower_21 rfl ?_
    refine pm_iaload' p (nI (F_ n L p)) d_P_follower_22 (hg.s rfl) (hg.i (by decide)) rfl (by omega) (by decide) (hp1.1.1 p hp) ?_
    exact pm_ireturn d_P_follower_23 rfl (fun _ => rfl) (Nat.le_refl _) (Nat.le_refl _) ⟨⟨by rw [if_neg z], hp1⟩, rfl⟩
end P3
