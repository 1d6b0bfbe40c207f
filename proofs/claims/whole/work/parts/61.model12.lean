/-! the other side: what changes the lists -/
theorem RI_chg {n : Nat} {L : Nat → List Nat} {dm : Nat → Nat} {σ σ₁ : pI} (h1 : mi_ n L σ) (h2 : mp_ n dm σ₁) (h3 : σ₁ 48 5 = nI 0) (h4 : ∀ c x, c ≠ 51 → ¬ (c = 48 ∧ x = 5) → σ₁ c x = σ c x) : RI_ n L dm σ₁ :=
  ⟨mi_of h1 (h4 48 1 (by omega) (by omega)) (fun c x hc => h4 c x (by omega) (by omega)), h2, Or.inl h3⟩
section MC
variable {b : pB} {g : pG} {σ : pI} {τ : pJ} {d n p q i j m : Nat} {x y z v₀ : Int32} {L : Nat → List Nat} {dm : Nat → Nat}
theorem k_M_people (hg : pm_gok 61 g) (hB : pm_base b) (hw : rh_wf n L) (hm : md_ n L dm) (hI : RI_ n L dm σ) (hm8 : m ≤ 8) : pm_C b (d + 10) km_M_people [pm_R 48, pm_I (nI m)] g σ τ 0 0 (pm_Wp (fun v σ' => an_ 0 (nI n) v ∧ σ' 48 0 = nI 0 ∧ RI_ m (fun _ => []) (fun p => p) σ' ∧ kfr_ σ σ') τ) := by
  have h8 := hw.1
  have h1 := hI.1.1
  show pm_Y b (d + 9 + 1) km_M_people 0 false [some (pm_R 48), some (pm_I (nI m)), none, none] [] g σ τ 0 0 0 0 _
  refine pm_aload_n d_M_people_0 rfl ?_
  refine pm_iload_n d_M_people_1 rfl ?_
  refine pm_if_lt_f 11 d_M_people_2 rfl (nI_nn (by omega)) ?_
  refine pm_iload_n d_M_people_5 rfl ?_
  refine pm_bipush' (nI 8) d_M_people_6 (by decide) ?_
  refine pm_icmp_le_t 15 d_M_people_8 rfl ((nI_leI (by omega) (by omega)).mpr hm8) ?_
  refine pm_iconst' (nI 0) d_M_people_15 (by decide) ?_
  refine pm_puti d_M_people_16 hp_M_43 (hg.s rfl) (hg.i (by decide)) rfl ?_
  refine pm_aload_n d_M_people_19 rfl ?_
  refine pm_geti' (nI 0) d_M_people_20 hf_M_43 (hg.s rfl) (hg.i (by decide)) rfl pm_up_at ?_
  refine pm_if_le_t 28 d_M_people_23 rfl (by decide) ?_
  refine pm_aload_n d_M_people_28 rfl ?_
  refine pm_geti' (nI n) d_M_people_29 hf_M_47 (hg.s rfl) (hg.i (by decide)) rfl (by rw [pm_up_ne (by omega)]; exact h1) ?_
  refine pm_istore_n d_M_people_32 (by decide) ?_
  refine pm_aload_n d_M_people_33 rfl ?_
  refine pm_iload_n d_M_people_34 rfl ?_
  refine pm_puti d_M_people_35 hp_M_47 (hg.s rfl) (hg.i (by decide)) rfl ?_
  refine pm_iconst' (nI 0) d_M_people_38 (by decide) ?_
  refine pm_istore_n d_M_people_39 (by decide) ?_
  -- at 40: lo=[some (pm_R 48), some (pm_I (nI m)), some (pm_I (nI n)), some (pm_I (nI 0))] st=[]
  refine pm_for m (fun i σ₁ => pm_Y b (d + 9 + 1) km_M_people 40 true [some (pm_R 48), some (pm_I (nI m)), some (pm_I (nI n)), some (pm_I (nI i))] [] g σ₁ τ 0 0 0 0 (pm_Wp (fun v σ' => an_ 0 (nI n) v ∧ σ' 48 0 = nI 0 ∧ RI_ m (fun _ => []) (fun p => p) σ' ∧ kfr_ σ σ') τ)) (fun i σ₁ => (∀ k, k < i → σ₁ 49 k = nI 0 ∧ σ₁ 51 k = nI k) ∧ ∀ c x, c ≠ 49 → c ≠ 51 → σ₁ c x = (pm_up (pm_up σ 48 0 (nI 0)) 48 1 (nI m)) c x) (fun i σ₁ hi hL ih => ?_) (fun σ₁ hL => ?_) m 0 _ (by omega) ⟨fun k hk => absurd hk (Nat.not_lt_zero k), fun _ _ _ _ => rfl⟩
  · skip
    refine pm_iload_n d_M_people_40 rfl ?_
    refine pm_aload_n d_M_people_41 rfl ?_
    refine pm_geti' (nI m) d_M_people_42 hf_M_47 (hg.s rfl) (hg.i (by decide)) rfl (by rw [hL.2 48 1 (by omega) (by omega), pm_up_at]) ?_
    refine pm_icmp_ge_f 68 d_M_people_45 rfl (by rw [nI_leI (by omega) (by omega)]; omega) ?_
    refine pm_aload_n d_M_people_48 rfl ?_
    refine pm_getr d_M_people_49 hf_M_7 (hg.s rfl) (hg.i (by decide)) rfl (hg.r (by decide) rfl) ?_
    refine pm_iload_n d_M_people_52 rfl ?_
    refine pm_iconst' (nI 0) d_M_people_53 (by decide) ?_
    refine pm_iastore i d_M_people_54 (hg.s rfl) (hg.i (by decide)) rfl (by omega) (by decide) ?_
    refine pm_aload_n d_M_people_55 rfl ?_
    refine pm_getr d_M_people_56 hf_M_16 (hg.s rfl) (hg.i (by decide)) rfl (hg.r (by decide) rfl) ?_
    refine pm_iload_n d_M_people_59 rfl ?_
    refine pm_iload_n d_M_people_60 rfl ?_
    refine pm_iastore i d_M_people_61 (hg.s rfl) (hg.i (by decide)) rfl (by omega) (by decide) ?_
    refine pm_iinc' (nI (i + 1)) d_M_people_62 (by decide) rfl (pm_inc _) ?_
    refine pm_goto 40 d_M_people_65 rfl ?_
    -- at 40: lo=[some (pm_R 48), some (pm_I (nI m)), some (pm_I (nI n)), some (pm_I (nI (i + 1)))] st=[]
    exact ih _ ⟨fun k hk => by
      by_cases e : k = i
      · subst e; exact ⟨by rw [pm_up_ne (by omega), pm_up_at], pm_up_at⟩
      · have h9 := hL.1 k (by omega)
        exact ⟨by rw [pm_up_ne (by omega), pm_up_ne (by omega)]; exact h9.1, by rw [pm_up_ne (by omega), pm_up_ne (by omega)]; exact h9.2⟩, fun c x c1 c2 => by rw [pm_up_ne (by omega), pm_up_ne (by omega)]; exact hL.2 c x c1 c2⟩
  · skip
    refine pm_iload_n d_M_people_40 rfl ?_
    refine pm_aload_n d_M_people_41 rfl ?_
    refine pm_geti' (nI m) d_M_people_42 hf_M_47 (hg.s rfl) (hg.i (by decide)) rfl (by rw [hL.2 48 1 (by omega) (by omega), pm_up_at]) ?_
    refine pm_icmp_ge_t 68 d_M_people_45 rfl (by rw [nI_leI (by omega) (by omega)]; omega) ?_
    refine pm_aload_n d_M_people_68 rfl ?_
    refine pm_iconst' (nI 0) d_M_people_69 (by decide) ?_
    refine pm_putz d_M_people_70 hp_M_58 (hg.s rfl) (hg.i (by decide)) rfl (Or.inl rfl) ?_
    refine pm_iload_n d_M_people_73 rfl ?_
    exact pm_ireturn d_M_people_74 rfl (fun _ => rfl) (Nat.le_refl _) (Nat.le_refl _) ⟨⟨an_ok, by rw [pm_up_ne (by omega), hL.2 48 0 (by omega) (by omega), pm_up_ne (by omega), pm_up_at], ⟨⟨by rw [pm_up_ne (by omega), hL.2 48 1 (by omega) (by omega), pm_up_at], fun p hp => by rw [pm_up_ne (by omega)]; exact (hL.1 p hp).1, fun p k _ hk => absurd hk (Nat.not_lt_zero k)⟩, fun p hp => by rw [pm_up_ne (by omega)]; exact (hL.1 p hp).2, Or.inl pm_up_at⟩, fun c x hc => by rw [pm_up_ne (by omega), hL.2 c x (by omega) (by omega), pm_up_ne (by omega), pm_up_ne (by omega)]⟩, rfl⟩
theorem k_M_put (hg : pm_gok 61 g) (hB : pm_base b) (hw : rh_wf n L) (hm : md_ n L dm) (hI : RI_ n L dm σ) (hp : p < n) (hq : q < n) (hne : p ≠ q) (hnot : q ∉ L p) : pm_C b (d + 10) km_M_put [pm_R 48, pm_I (nI p), pm_I (nI q)] g σ τ 0 0 (pm_Wp (fun v σ' => an_ 0 (nI ((L p).length + 1)) v ∧ σ' 48 0 = nI 0 ∧ RI_ n (gw_up L p (L p ++ [q])) dm σ' ∧ kfr_ σ σ') τ) := by
  have h8 := hw.1
  have h1 := hI.1.1
  have h7 := wf_len hw p
  have hw2 := ap_wf hw hp hq (Ne.symm hne) hnot
  have hmi := mi_put (q := q) hw hp (RI_code hI (nI 0)).1
  show pm_Y b (d + 9 + 1) km_M_put 0 false [some (pm_R 48), some (pm_I (nI p)), some (pm_I (nI q))] [] g σ τ 0 0 0 0 _
  refine pm_aload_n d_M_put_0 rfl ?_
  refine pm_aload_n d_M_put_1 rfl ?_
  refine pm_iload_n d_M_put_2 rfl ?_
  refine pm_callR (i := 48) (ci := 5) (rest := [pm_R 48]) [pm_I (nI p)] hB d_M_put_3 hc_M_62 (y_M_isPerson hg hB h8 h1 hp) (hg.s rfl) (hg.i (by decide)) rfl rfl rfl rfl (Nat.le_of_ble_eq_true rfl) (Nat.le_of_ble_eq_true rfl) (by omega) (by omega) ?_
  refine pm_if_eq_f 17 d_M_put_6 rfl (by decide) ?_
  refine pm_aload_n d_M_put_9 rfl ?_
  refine pm_iload_n d_M_put_10 rfl ?_
  refine pm_callR (i := 48) (ci := 5) (rest := [pm_R 48]) [pm_I (nI q)] hB d_M_put_11 hc_M_62 (y_M_isPerson hg hB h8 h1 hq) (hg.s rfl) (hg.i (by decide)) rfl rfl rfl rfl (Nat.le_of_ble_eq_true rfl) (Nat.le_of_ble_eq_true rfl) (by omega) (by omega) ?_
  refine pm_if_ne_t 21 d_M_put_14 rfl (by decide) ?_
  refine pm_iload_n d_M_put_21 rfl ?_
  refine pm_iload_n d_M_put_22 rfl ?_
  refine pm_icmp_ne_t 30 d_M_put_23 rfl (fun e => hne ((nI_eq (by omega) (by omega)).mp e)) ?_
  refine pm_aload_n d_M_put_30 rfl ?_
  refine pm_iload_n d_M_put_31 rfl ?_
  refine pm_iload_n d_M_put_32 rfl ?_
  refine pm_callR (i := 48) (ci := 5) (rest := [pm_R 48]) [pm_I (nI p), pm_I (nI q)] hB d_M_put_33 hc_M_50 (k_M_placeOf hg hB hw hI.1 hp (by omega)) (hg.s rfl) (hg.i (by decide)) rfl rfl rfl rfl (Nat.le_of_ble_eq_true rfl) (Nat.le_of_ble_eq_true rfl) (by omega) (by omega) ?_
  refine pm_if_lt_t 43 d_M_put_36 rfl ((pl_neg hw).mpr hnot) ?_
  refine pm_iconst' (nI 0) d_M_put_43 (by decide) ?_
  refine pm_puti d_M_put_44 hp_M_43 (hg.s rfl) (hg.i (by decide)) rfl ?_
  refine pm_aload_n d_M_put_47 rfl ?_
  refine pm_geti' (nI 0) d_M_put_48 hf_M_43 (hg.s rfl) (hg.i (by decide)) rfl pm_up_at ?_
  refine pm_if_le_t 56 d_M_put_51 rfl (by decide) ?_
  refine pm_aload_n d_M_put_56 rfl ?_
  refine pm_getr d_M_put_57 hf_M_13 (hg.s rfl) (hg.i (by decide)) rfl (hg.r (by decide) rfl) ?_
  refine pm_bipush' (nI 8) d_M_put_60 (by decide) ?_
  refine pm_iload_n d_M_put_62 rfl ?_
  refine pm_imulN d_M_put_63 ?_
  refine pm_aload_n d_M_put_64 rfl ?_
  refine pm_getr d_M_put_65 hf_M_7 (hg.s rfl) (hg.i (by decide)) rfl (hg.r (by decide) rfl) ?_
  refine pm_iload_n d_M_put_68 rfl ?_
  refine pm_iaload' p (nI ((L p).length)) d_M_put_69 (hg.s rfl) (hg.i (by decide)) rfl (by omega) (by decide) (by rw [pm_up_ne (by omega)]; exact hI.1.2.1 p hp) ?_
  refine pm_iaddN d_M_put_70 ?_
  refine pm_iload_n d_M_put_71 rfl ?_
  refine pm_iastore ((8 * p) + ((L p).length)) d_M_put_72 (hg.s rfl) (hg.i (by decide)) rfl (by omega) (by decide) ?_
  refine pm_aload_n d_M_put_73 rfl ?_
  refine pm_getr d_M_put_74 hf_M_7 (hg.s rfl) (hg.i (by decide)) rfl (hg.r (by decide) rfl) ?_
  refine pm_iload_n d_M_put_77 rfl ?_
  refine pm_dup2 d_M_put_78 rfl rfl ?_
  refine pm_iaload' p (nI ((L p).length)) d_M_put_79 (hg.s rfl) (hg.i (by decide)) rfl (by omega) (by decide) (by rw [pm_up_ne (by omega), pm_up_ne (by omega)]; exact hI.1.2.1 p hp) ?_
  refine pm_iconst' (nI 1) d_M_put_80 (by decide) ?_
  refine pm_iaddN d_M_put_81 ?_
  refine pm_iastore p d_M_put_82 (hg.s rfl) (hg.i (by decide)) rfl (by omega) (by decide) ?_
  refine pm_aload_n d_M_put_83 rfl ?_
  refine pm_callWp (i := 48) (ci := 5) (rest := []) [] hB d_M_put_84 hc_M_66 (pm_C_up (show 0 + 2 ≤ d + 9 by omega) (k_M_change hg hB hw2 (md_D hm h8) hmi (fun a ha => by rw [pm_up_ne (by omega), pm_up_ne (by omega)]; exact (RI_code hI (nI 0)).2.1 a ha))) (hg.s rfl) (hg.i (by decide)) rfl rfl rfl rfl (Nat.le_of_ble_eq_true rfl) (Nat.le_of_ble_eq_true rfl) (by omega) (by omega) (fun v84 σ₁ hv84 hq84 => ?_)
  obtain ⟨rfl, c1, c3, c4⟩ := hq84
  show pm_Y b _ km_M_put 87 true [some (pm_R 48), some (pm_I (nI p)), some (pm_I (nI q))] [] g σ₁ τ 0 0 0 0 _
  refine pm_aload_n d_M_put_87 rfl ?_
  refine pm_getr d_M_put_88 hf_M_7 (hg.s rfl) (hg.i (by decide)) rfl (hg.r (by decide) rfl) ?_
  refine pm_iload_n d_M_put_91 rfl ?_
  refine pm_iaload' p (nI ((L p).length + 1)) d_M_put_92 (hg.s rfl) (hg.i (by decide)) rfl (by omega) (by decide) (by rw [c4 49 p (by omega) (by omega), pm_up_at]) ?_
  exact pm_ireturn d_M_put_93 rfl (fun _ => rfl) (Nat.le_refl _) (Nat.le_refl _) ⟨⟨an_ok, by rw [c4 48 0 (by omega) (by omega), pm_up_ne (by omega), pm_up_ne (by omega), pm_up_at], RI_chg hmi (mp_eq c1 (cg_md hw2 (md_up hw hw2 hm (fun x hx => List.mem_append_left _ hx)))) c3 c4, fun c x hc => by rw [c4 c x (by omega) (by omega), pm_up_ne (by omega), pm_up_ne (by omega), pm_up_ne (by omega)]⟩, rfl⟩
theorem l_M_rem_57 (hg : pm_gok 61 g) (hB : pm_base b) (hw : rh_wf n L) (hm : md_ n L dm) (hI : RI_ n L dm σ) (hp : p < n) (hi : i < (L p).length) : ∀ (s t : Nat) (σ₁ : pI), t + s = (L p).length - 1 → i ≤ t → rw_ p (rt_ (L p) i t) (L p).length (pm_up (pm_up σ 48 0 (nI 0)) 49 p (nI ((L p).length - 1))) σ₁ → pm_Y b (d + 9 + 1) km_M_remove 57 true [some (pm_R 48), some (pm_I (nI p)), some (pm_I (nI i)), some (pm_I (nI ((L p).getD i 0))), some (pm_I (nI ((8 * p) + t)))] [] g σ₁ τ 0 0 0 0 (pm_Wp (fun v σ' => an_ 0 (nI ((L p).getD i 0)) v ∧ σ' 48 0 = nI 0 ∧ RI_ n (gw_up L p (rm_list (L p) i)) (if dm p = (L p).getD i 0 ∧ ¬ rh_rk (gw_up L p (rm_list (L p) i)) p ((L p).getD i 0) < 8 then ms_ dm p else dm) σ' ∧ kfr_ σ σ') τ)
  | 0, t, σ₁, hs, ht, hL => by
    have h8 := hw.1
    have h7 := wf_len hw p
    have hte : t = (L p).length - 1 := by omega
    subst hte
    have hmi : mi_ n (gw_up L p (rm_list (L p) i)) σ₁ := mi_row hw hI.1 hp (by rw [hL.2 48 1 (by omega), pm_up_ne (by omega), pm_up_ne (by omega)]) (fun a ha => by rw [hL.2 49 a (by omega), pm_up_ne (by omega), pm_up_ne (by omega)]) (by rw [hL.2 49 p (by omega), pm_up_at, rm_len]) (fun k hk => by
      rw [rm_len] at hk
      rw [hL.1 k (by omega), rm_get hk]
      unfold rt_ mv_at
      by_cases z : i ≤ k
      · rw [if_pos ⟨z, hk⟩, if_neg (by omega), if_pos ⟨z, hk⟩]
      · rw [if_neg (by omega), if_neg (by omega), if_neg (by omega), if_neg (by omega)]) (fun x hx => by rw [hL.2 50 x (by omega), pm_up_ne (by omega), pm_up_ne (by omega)])
    refine pm_iload d_M_remove_57 rfl ?_
    refine pm_bipush' (nI 8) d_M_remove_59 (by decide) ?_
    refine pm_iload_n d_M_remove_61 rfl ?_
    refine pm_imulN d_M_remove_62 ?_
    refine pm_aload_n d_M_remove_63 rfl ?_
    refine pm_getr d_M_remove_64 hf_M_7 (hg.s rfl) (hg.i (by decide)) rfl (hg.r (by decide) rfl) ?_
    refine pm_iload_n d_M_remove_67 rfl ?_
    refine pm_iaload' p (nI ((L p).length - 1)) d_M_remove_68 (hg.s rfl) (hg.i (by decide)) rfl (by omega) (by decide) (by rw [hL.2 49 p (by omega), pm_up_at]) ?_
    refine pm_iaddN d_M_remove_69 ?_
    refine pm_icmp_ge_t 95 d_M_remove_70 rfl (by rw [nI_leI (by omega) (by omega)]; omega) ?_
    refine pm_aload_n d_M_remove_95 rfl ?_
    refine pm_callWp (i := 48) (ci := 5) (rest := []) [] hB d_M_remove_96 hc_M_66 (pm_C_up (show 0 + 2 ≤ d + 9 by omega) (k_M_change hg hB (rm_wf hw hp hi) (md_D hm h8) hmi (fun a ha => by rw [hL.2 51 a (by omega), pm_up_ne (by omega), pm_up_ne (by omega)]; exact hI.2.1 a ha))) (hg.s rfl) (hg.i (by decide)) rfl rfl rfl rfl (Nat.le_of_ble_eq_true rfl) (Nat.le_of_ble_eq_true rfl) (by omega) (by omega) (fun v96 σ₁ hv96 hq96 => ?_)
    obtain ⟨rfl, c1, c3, c4⟩ := hq96
    show pm_Y b _ km_M_remove 99 true [some (pm_R 48), some (pm_I (nI p)), some (pm_I (nI i)), some (pm_I (nI ((L p).getD i 0))), some (pm_I (nI ((8 * p) + ((L p).length - 1))))] [] g σ₁ τ 0 0 0 0 _
    refine pm_iload_n d_M_remove_99 rfl ?_
    exact pm_ireturn d_M_remove_100 rfl (fun _ => rfl) (Nat.le_refl _) (Nat.le_refl _) ⟨⟨an_ok, by rw [c4 48 0 (by omega) (by omega), hL.2 48 0 (by omega), pm_up_ne (by omega), pm_up_at], RI_chg hmi (mp_eq c1 (cg_rm hw hm hp hi)) c3 c4, fun c x hc => by rw [c4 c x (by omega) (by omega), hL.2 c x (by omega), pm_up_ne (by omega), pm_up_ne (by omega)]⟩, rfl⟩
  | s + 1, t, σ₁, hs, ht, hL => by
    have h8 := hw.1
    have h7 := wf_len hw p
    refine pm_iload d_M_remove_57 rfl ?_
    refine pm_bipush' (nI 8) d_M_remove_59 (by decide) ?_
    refine pm_iload_n d_M_remove_61 rfl ?_
    refine pm_imulN d_M_remove_62 ?_
    refine pm_aload_n d_M_remove_63 rfl ?_
    refine pm_getr d_M_remove_64 hf_M_7 (hg.s rfl) (hg.i (by decide)) rfl (hg.r (by decide) rfl) ?_
    refine pm_iload_n d_M_remove_67 rfl ?_
    refine pm_iaload' p (nI ((L p).length - 1)) d_M_remove_68 (hg.s rfl) (hg.i (by decide)) rfl (by omega) (by decide) (by rw [hL.2 49 p (by omega), pm_up_at]) ?_
    refine pm_iaddN d_M_remove_69 ?_
    refine pm_icmp_ge_f 95 d_M_remove_70 rfl (by rw [nI_leI (by omega) (by omega)]; omega) ?_
    refine pm_aload_n d_M_remove_73 rfl ?_
    refine pm_getr d_M_remove_74 hf_M_13 (hg.s rfl) (hg.i (by decide)) rfl (hg.r (by decide) rfl) ?_
    refine pm_iload d_M_remove_77 rfl ?_
    refine pm_aload_n d_M_remove_79 rfl ?_
    refine pm_getr d_M_remove_80 hf_M_13 (hg.s rfl) (hg.i (by decide)) rfl (hg.r (by decide) rfl) ?_
    refine pm_iload d_M_remove_83 rfl ?_
    refine pm_iconst' (nI 1) d_M_remove_85 (by decide) ?_
    refine pm_iaddN d_M_remove_86 ?_
    refine pm_iaload' (((8 * p) + t) + 1) (nI ((L p).getD (t + 1) 0)) d_M_remove_87 (hg.s rfl) (hg.i (by decide)) rfl (by omega) (by decide) (by rw [show 8 * p + t + 1 = 8 * p + (t + 1) by omega, hL.1 (t + 1) (by omega)]; unfold rt_; rw [if_neg (by omega)]) ?_
    refine pm_iastore ((8 * p) + t) d_M_remove_88 (hg.s rfl) (hg.i (by decide)) rfl (by omega) (by decide) ?_
    refine pm_iinc' (nI (((8 * p) + t) + 1)) d_M_remove_89 (by decide) rfl (pm_inc _) ?_
    refine pm_goto 57 d_M_remove_92 rfl ?_
    -- at 57: lo=[some (pm_R 48), some (pm_I (nI p)), some (pm_I (nI i)), some (pm_I (nI ((L p).getD i 0))), some (pm_I (nI (((8 * p) + t) + 1)))] st=[]
    rw [show 8 * p + t + 1 = 8 * p + (t + 1) by omega]
    exact l_M_rem_57 hg hB hw hm hI hp hi s (t + 1) _ (by omega) (by omega) (rw_up hL (by omega) (by unfold rt_; rw [if_pos ⟨ht, by omega⟩]) (fun k hk hne => by unfold rt_; by_cases z : i ≤ k ∧ k < t; rw [if_pos z, if_pos ⟨z.1, by omega⟩]; rw [if_neg z, if_neg (by omega)]))
theorem k_M_remove (hg : pm_gok 61 g) (hB : pm_base b) (hw : rh_wf n L) (hm : md_ n L dm) (hI : RI_ n L dm σ) (hp : p < n) (hi : i < (L p).length) : pm_C b (d + 10) km_M_remove [pm_R 48, pm_I (nI p), pm_I (nI i)] g σ τ 0 0 (pm_Wp (fun v σ' => an_ 0 (nI ((L p).getD i 0)) v ∧ σ' 48 0 = nI 0 ∧ RI_ n (gw_up L p (rm_list (L p) i)) (if dm p = (L p).getD i 0 ∧ ¬ rh_rk (gw_up L p (rm_list (L p) i)) p ((L p).getD i 0) < 8 then ms_ dm p else dm) σ' ∧ kfr_ σ σ') τ) := by
  have h8 := hw.1
  have h1 := hI.1.1
  have h7 := wf_len hw p
  show pm_Y b (d + 9 + 1) km_M_remove 0 false [some (pm_R 48), some (pm_I (nI p)), some (pm_I (nI i)), none, none] [] g σ τ 0 0 0 0 _
  refine pm_aload_n d_M_remove_0 rfl ?_
  refine pm_aload_n d_M_remove_1 rfl ?_
  refine pm_iload_n d_M_remove_2 rfl ?_
  refine pm_iload_n d_M_remove_3 rfl ?_
  refine pm_callR (i := 48) (ci := 5) (rest := [pm_R 48]) [pm_I (nI p), pm_I (nI i)] hB d_M_remove_4 hc_M_69 (pm_C_up (show 0 + 1 ≤ d + 9 by omega) (y_M_isPlace hg hB hw hI.1 hp hi)) (hg.s rfl) (hg.i (by decide)) rfl rfl rfl rfl (Nat.le_of_ble_eq_true rfl) (Nat.le_of_ble_eq_true rfl) (by omega) (by omega) ?_
  refine pm_if_eq_f 14 d_M_remove_7 rfl (by decide) ?_
  refine pm_iconst' (nI 0) d_M_remove_10 (by decide) ?_
  refine pm_goto 15 d_M_remove_11 rfl ?_
  refine pm_puti d_M_remove_15 hp_M_43 (hg.s rfl) (hg.i (by decide)) rfl ?_
  refine pm_aload_n d_M_remove_18 rfl ?_
  refine pm_geti' (nI 0) d_M_remove_19 hf_M_43 (hg.s rfl) (hg.i (by decide)) rfl pm_up_at ?_
  refine pm_if_le_t 27 d_M_remove_22 rfl (by decide) ?_
  refine pm_aload_n d_M_remove_27 rfl ?_
  refine pm_getr d_M_remove_28 hf_M_13 (hg.s rfl) (hg.i (by decide)) rfl (hg.r (by decide) rfl) ?_
  refine pm_bipush' (nI 8) d_M_remove_31 (by decide) ?_
  refine pm_iload_n d_M_remove_33 rfl ?_
  refine pm_imulN d_M_remove_34 ?_
  refine pm_iload_n d_M_remove_35 rfl ?_
  refine pm_iaddN d_M_remove_36 ?_
  refine pm_iaload' ((8 * p) + i) (nI ((L p).getD i 0)) d_M_remove_37 (hg.s rfl) (hg.i (by decide)) rfl (by omega) (by decide) (by rw [pm_up_ne (by omega)]; exact hI.1.2.2 p i hp hi) ?_
  refine pm_istore_n d_M_remove_38 (by decide) ?_
  refine pm_aload_n d_M_remove_39 rfl ?_
  refine pm_getr d_M_remove_40 hf_M_7 (hg.s rfl) (hg.i (by decide)) rfl (hg.r (by decide) rfl) ?_
  refine pm_iload_n d_M_remove_43 rfl ?_
  refine pm_dup2 d_M_remove_44 rfl rfl ?_
  refine pm_iaload' p (nI ((L p).length)) d_M_remove_45 (hg.s rfl) (hg.i (by decide)) rfl (by omega) (by decide) (by rw [pm_up_ne (by omega)]; exact hI.1.2.1 p hp) ?_
  refine pm_iconst' (nI 1) d_M_remove_46 (by decide) ?_
  refine pm_isubN d_M_remove_47 (by omega) ?_
  refine pm_iastore p d_M_remove_48 (hg.s rfl) (hg.i (by decide)) rfl (by omega) (by decide) ?_
  refine pm_bipush' (nI 8) d_M_remove_49 (by decide) ?_
  refine pm_iload_n d_M_remove_51 rfl ?_
  refine pm_imulN d_M_remove_52 ?_
  refine pm_iload_n d_M_remove_53 rfl ?_
  refine pm_iaddN d_M_remove_54 ?_
  refine pm_istore d_M_remove_55 (by decide) ?_
  -- at 57: lo=[some (pm_R 48), some (pm_I (nI p)), some (pm_I (nI i)), some (pm_I (nI ((L p).getD i 0))), some (pm_I (nI ((8 * p) + i)))] st=[]
  exact l_M_rem_57 hg hB hw hm hI hp hi ((L p).length - 1 - i) i _ (by omega) (Nat.le_refl i) ⟨fun k hk => by rw [pm_up_ne (by omega), pm_up_ne (by omega), hI.1.2.2 p k hp hk]; unfold rt_; rw [if_neg (by omega)], fun _ _ _ => rfl⟩
theorem l_M_mvu (hg : pm_gok 61 g) (hB : pm_base b) (hw : rh_wf n L) (hm : md_ n L dm) (hI : RI_ n L dm σ) (hp : p < n) (hi : i < (L p).length) (hj : j < (L p).length) : ∀ (s t : Nat) (σ₁ : pI), t + s = j → i ≤ t → rw_ p (rt_ (L p) i t) (L p).length (pm_up σ 48 0 (nI 0)) σ₁ → pm_Y b (d + 9 + 1) km_M_move 64 true [some (pm_R 48), some (pm_I (nI p)), some (pm_I (nI i)), some (pm_I (nI j)), some (pm_I (nI 1)), some (pm_I (nI ((L p).getD i 0))), some (pm_I (nI t))] [] g σ₁ τ 0 0 0 0 (pm_Wp (fun v σ' => an_ 0 (nI ((L p).getD i 0)) v ∧ σ' 48 0 = nI 0 ∧ RI_ n (gw_up L p (mv_list (L p) i j)) dm σ' ∧ kfr_ σ σ') τ)
  | 0, t, σ₁, hs, ht, hL => by
    have h8 := hw.1
    have h7 := wf_len hw p
    have htj : t = j := by omega
    have hw2 := mv_wf hw hp hi hj
    have hU := rw_up (f' := fun k => (L p).getD (mv_at i j k) 0) (t := j) (v := (L p).getD i 0) hL (by omega) (by show (L p).getD (mv_at i j j) 0 = _; rw [mv_at_to]) (fun k hk hne => by
      show (L p).getD (mv_at i j k) 0 = rt_ (L p) i t k
      unfold mv_at rt_
      by_cases z : i ≤ k ∧ k < t
      · rw [if_neg (by omega), if_pos (by omega), if_pos z]
      · rw [if_neg (by omega), if_neg (by omega), if_neg (by omega), if_neg z])
    have hmi : mi_ n (gw_up L p (mv_list (L p) i j)) (pm_up σ₁ 50 ((8 * p) + j) (nI ((L p).getD i 0))) := mi_row hw hI.1 hp (by rw [pm_up_ne (by omega), hL.2 48 1 (by omega), pm_up_ne (by omega)]) (fun a ha => by rw [pm_up_ne (by omega), hL.2 49 a (by omega), pm_up_ne (by omega)]) (by rw [pm_up_ne (by omega), hL.2 49 p (by omega), pm_up_ne (by omega), mv_len]; exact hI.1.2.1 p hp) (fun k hk => by
      rw [mv_len] at hk
      rw [hU.1 k hk, mv_get hk]) (fun x hx => by rw [hU.2 50 x (by omega), pm_up_ne (by omega)])
    refine pm_iload d_M_move_64 rfl ?_
    refine pm_iload_n d_M_move_66 rfl ?_
    refine pm_icmp_eq_t 107 d_M_move_67 rfl (by rw [htj]) ?_
    refine pm_aload_n d_M_move_107 rfl ?_
    refine pm_getr d_M_move_108 hf_M_13 (hg.s rfl) (hg.i (by decide)) rfl (hg.r (by decide) rfl) ?_
    refine pm_bipush' (nI 8) d_M_move_111 (by decide) ?_
    refine pm_iload_n d_M_move_113 rfl ?_
    refine pm_imulN d_M_move_114 ?_
    refine pm_iload_n d_M_move_115 rfl ?_
    refine pm_iaddN d_M_move_116 ?_
    refine pm_iload d_M_move_117 rfl ?_
    refine pm_iastore ((8 * p) + j) d_M_move_119 (hg.s rfl) (hg.i (by decide)) rfl (by omega) (by decide) ?_
    refine pm_aload_n d_M_move_120 rfl ?_
    refine pm_callWp (i := 48) (ci := 5) (rest := []) [] hB d_M_move_121 hc_M_66 (pm_C_up (show 0 + 2 ≤ d + 9 by omega) (k_M_change hg hB hw2 (md_D hm h8) hmi (fun a ha => by rw [pm_up_ne (by omega), hL.2 51 a (by omega), pm_up_ne (by omega)]; exact hI.2.1 a ha))) (hg.s rfl) (hg.i (by decide)) rfl rfl rfl rfl (Nat.le_of_ble_eq_true rfl) (Nat.le_of_ble_eq_true rfl) (by omega) (by omega) (fun v121 σ₁ hv121 hq121 => ?_)
    obtain ⟨rfl, c1, c3, c4⟩ := hq121
    show pm_Y b _ km_M_move 124 true [some (pm_R 48), some (pm_I (nI p)), some (pm_I (nI i)), some (pm_I (nI j)), some (pm_I (nI 1)), some (pm_I (nI ((L p).getD i 0))), some (pm_I (nI t))] [] g σ₁ τ 0 0 0 0 _
    refine pm_iload d_M_move_124 rfl ?_
    exact pm_ireturn d_M_move_126 rfl (fun _ => rfl) (Nat.le_refl _) (Nat.le_refl _) ⟨⟨an_ok, by rw [c4 48 0 (by omega) (by omega), pm_up_ne (by omega), hL.2 48 0 (by omega), pm_up_at], RI_chg hmi (mp_eq c1 (cg_md hw2 (md_up hw hw2 hm (fun x hx => (mv_mem hi hj x).mpr hx)))) c3 c4, fun c x hc => by rw [c4 c x (by omega) (by omega), pm_up_ne (by omega), hL.2 c x (by omega), pm_up_ne (by omega)]⟩, rfl⟩
  | s + 1, t, σ₁, hs, ht, hL => by
    have h8 := hw.1
    have h7 := wf_len hw p
    refine pm_iload d_M_move_64 rfl ?_
    refine pm_iload_n d_M_move_66 rfl ?_
    refine pm_icmp_eq_f 107 d_M_move_67 rfl (fun z => by have := (nI_eq (by omega) (by omega)).mp z; omega) ?_
    refine pm_aload_n d_M_move_70 rfl ?_
    refine pm_getr d_M_move_71 hf_M_13 (hg.s rfl) (hg.i (by decide)) rfl (hg.r (by decide) rfl) ?_
    refine pm_bipush' (nI 8) d_M_move_74 (by decide) ?_
    refine pm_iload_n d_M_move_76 rfl ?_
    refine pm_imulN d_M_move_77 ?_
    refine pm_iload d_M_move_78 rfl ?_
    refine pm_iaddN d_M_move_80 ?_
    refine pm_aload_n d_M_move_81 rfl ?_
    refine pm_getr d_M_move_82 hf_M_13 (hg.s rfl) (hg.i (by decide)) rfl (hg.r (by decide) rfl) ?_
    refine pm_bipush' (nI 8) d_M_move_85 (by decide) ?_
    refine pm_iload_n d_M_move_87 rfl ?_
    refine pm_imulN d_M_move_88 ?_
    refine pm_iload d_M_move_89 rfl ?_
    refine pm_iaddN d_M_move_91 ?_
    refine pm_iload d_M_move_92 rfl ?_
    refine pm_iaddN d_M_move_94 ?_
    refine pm_iaload' (((8 * p) + t) + 1) (nI ((L p).getD (t + 1) 0)) d_M_move_95 (hg.s rfl) (hg.i (by decide)) rfl (by omega) (by decide) (by rw [show 8 * p + t + 1 = 8 * p + (t + 1) by omega, hL.1 (t + 1) (by omega)]; unfold rt_; rw [if_neg (by omega)]) ?_
    refine pm_iastore ((8 * p) + t) d_M_move_96 (hg.s rfl) (hg.i (by decide)) rfl (by omega) (by decide) ?_
    refine pm_iload d_M_move_97 rfl ?_
    refine pm_iload d_M_move_99 rfl ?_
    refine pm_iaddN d_M_move_101 ?_
    refine pm_istore d_M_move_102 (by decide) ?_
    refine pm_goto 64 d_M_move_104 rfl ?_
    -- at 64: lo=[some (pm_R 48), some (pm_I (nI p)), some (pm_I (nI i)), some (pm_I (nI j)), some (pm_I (nI 1)), some (pm_I (nI ((L p).getD i 0))), some (pm_I (nI (t + 1)))] st=[]
    exact l_M_mvu hg hB hw hm hI hp hi hj s (t + 1) _ (by omega) (by omega) (rw_up hL (by omega) (by unfold rt_; rw [if_pos ⟨ht, by omega⟩]) (fun k hk hne => by unfold rt_; by_cases z : i ≤ k ∧ k < t; rw [if_pos z, if_pos ⟨z.1, by omega⟩]; rw [if_neg z, if_neg (by omega)]))
theorem l_M_mvd (hg : pm_gok 61 g) (hB : pm_base b) (hw : rh_wf n L) (hm : md_ n L dm) (hI : RI_ n L dm σ) (hp : p < n) (hi : i < (L p).length) (hj : j < (L p).length) : ∀ (s t : Nat) (σ₁ : pI), j + s = t → t ≤ i → rw_ p (dn_ (L p) i t) (L p).length (pm_up σ 48 0 (nI 0)) σ₁ → pm_Y b (d + 9 + 1) km_M_move 64 true [some (pm_R 48), some (pm_I (nI p)), some (pm_I (nI i)), some (pm_I (nI j)), some (pm_I (-1)), some (pm_I (nI ((L p).getD i 0))), some (pm_I (nI t))] [] g σ₁ τ 0 0 0 0 (pm_Wp (fun v σ' => an_ 0 (nI ((L p).getD i 0)) v ∧ σ' 48 0 = nI 0 ∧ RI_ n (gw_up L p (mv_list (L p) i j)) dm σ' ∧ kfr_ σ σ') τ)
  | 0, t, σ₁, hs, ht, hL => by
    have h8 := hw.1
    have h7 := wf_len hw p
    have htj : t = j := by omega
    have hw2 := mv_wf hw hp hi hj
    have hU := rw_up (f' := fun k => (L p).getD (mv_at i j k) 0) (t := j) (v := (L p).getD i 0) hL (by omega) (by show (L p).getD (mv_at i j j) 0 = _; rw [mv_at_to]) (fun k hk hne => by
      show (L p).getD (mv_at i j k) 0 = dn_ (L p) i t k
      unfold mv_at dn_
      by_cases z : t < k ∧ k ≤ i
      · rw [if_neg (by omega), if_neg (by omega), if_pos (by omega), if_pos z]
      · rw [if_neg (by omega), if_neg (by omega), if_neg (by omega), if_neg z])
    have hmi : mi_ n (gw_up L p (mv_list (L p) i j)) (pm_up σ₁ 50 ((8 * p) + j) (nI ((L p).getD i 0))) := mi_row hw hI.1 hp (by rw [pm_up_ne (by omega), hL.2 48 1 (by omega), pm_up_ne (by omega)]) (fun a ha => by rw [pm_up_ne (by omega), hL.2 49 a (by omega), pm_up_ne (by omega)]) (by rw [pm_up_ne (by omega), hL.2 49 p (by omega), pm_up_ne (by omega), mv_len]; exact hI.1.2.1 p hp) (fun k hk => by
      rw [mv_len] at hk
      rw [hU.1 k hk, mv_get hk]) (fun x hx => by rw [hU.2 50 x (by omega), pm_up_ne (by omega)])
    refine pm_iload d_M_move_64 rfl ?_
    refine pm_iload_n d_M_move_66 rfl ?_
    refine pm_icmp_eq_t 107 d_M_move_67 rfl (by rw [htj]) ?_
    refine pm_aload_n d_M_move_107 rfl ?_
    refine pm_getr d_M_move_108 hf_M_13 (hg.s rfl) (hg.i (by decide)) rfl (hg.r (by decide) rfl) ?_
    refine pm_bipush' (nI 8) d_M_move_111 (by decide) ?_
    refine pm_iload_n d_M_move_113 rfl ?_
    refine pm_imulN d_M_move_114 ?_
    refine pm_iload_n d_M_move_115 rfl ?_
    refine pm_iaddN d_M_move_116 ?_
    refine pm_iload d_M_move_117 rfl ?_
    refine pm_iastore ((8 * p) + j) d_M_move_119 (hg.s rfl) (hg.i (by decide)) rfl (by omega) (by decide) ?_
    refine pm_aload_n d_M_move_120 rfl ?_
    refine pm_callWp (i := 48) (ci := 5) (rest := []) [] hB d_M_move_121 hc_M_66 (pm_C_up (show 0 + 2 ≤ d + 9 by omega) (k_M_change hg hB hw2 (md_D hm h8) hmi (fun a ha => by rw [pm_up_ne (by omega), hL.2 51 a (by omega), pm_up_ne (by omega)]; exact hI.2.1 a ha))) (hg.s rfl) (hg.i (by decide)) rfl rfl rfl rfl (Nat.le_of_ble_eq_true rfl) (Nat.le_of_ble_eq_true rfl) (by omega) (by omega) (fun v121 σ₁ hv121 hq121 => ?_)
    obtain ⟨rfl, c1, c3, c4⟩ := hq121
    show pm_Y b _ km_M_move 124 true [some (pm_R 48), some (pm_I (nI p)), some (pm_I (nI i)), some (pm_I (nI j)), some (pm_I (-1)), some (pm_I (nI ((L p).getD i 0))), some (pm_I (nI t))] [] g σ₁ τ 0 0 0 0 _
    refine pm_iload d_M_move_124 rfl ?_
    exact pm_ireturn d_M_move_126 rfl (fun _ => rfl) (Nat.le_refl _) (Nat.le_refl _) ⟨⟨an_ok, by rw [c4 48 0 (by omega) (by omega), pm_up_ne (by omega), hL.2 48 0 (by omega), pm_up_at], RI_chg hmi (mp_eq c1 (cg_md hw2 (md_up hw hw2 hm (fun x hx => (mv_mem hi hj x).mpr hx)))) c3 c4, fun c x hc => by rw [c4 c x (by omega) (by omega), pm_up_ne (by omega), hL.2 c x (by omega), pm_up_ne (by omega)]⟩, rfl⟩
  | s + 1, t, σ₁, hs, ht, hL => by
    have h8 := hw.1
    have h7 := wf_len hw p
    refine pm_iload d_M_move_64 rfl ?_
    refine pm_iload_n d_M_move_66 rfl ?_
    refine pm_icmp_eq_f 107 d_M_move_67 rfl (fun z => by have := (nI_eq (by omega) (by omega)).mp z; omega) ?_
    refine pm_aload_n d_M_move_70 rfl ?_
    refine pm_getr d_M_move_71 hf_M_13 (hg.s rfl) (hg.i (by decide)) rfl (hg.r (by decide) rfl) ?_
    refine pm_bipush' (nI 8) d_M_move_74 (by decide) ?_
    refine pm_iload_n d_M_move_76 rfl ?_
    refine pm_imulN d_M_move_77 ?_
    refine pm_iload d_M_move_78 rfl ?_
    refine pm_iaddN d_M_move_80 ?_
    refine pm_aload_n d_M_move_81 rfl ?_
    refine pm_getr d_M_move_82 hf_M_13 (hg.s rfl) (hg.i (by decide)) rfl (hg.r (by decide) rfl) ?_
    refine pm_bipush' (nI 8) d_M_move_85 (by decide) ?_
    refine pm_iload_n d_M_move_87 rfl ?_
    refine pm_imulN d_M_move_88 ?_
    refine pm_iload d_M_move_89 rfl ?_
    refine pm_iaddN d_M_move_91 ?_
    refine pm_iload d_M_move_92 rfl ?_
    refine pm_iadd d_M_move_94 ?_
    rw [(m1_N (k := 8 * p + t) (by omega))]
    refine pm_iaload' (((8 * p) + t) - 1) (nI ((L p).getD (t - 1) 0)) d_M_move_95 (hg.s rfl) (hg.i (by decide)) rfl (by omega) (by decide) (by rw [show 8 * p + t - 1 = 8 * p + (t - 1) by omega, hL.1 (t - 1) (by omega)]; unfold dn_; rw [if_neg (by omega)]) ?_
    refine pm_iastore ((8 * p) + t) d_M_move_96 (hg.s rfl) (hg.i (by decide)) rfl (by omega) (by decide) ?_
    refine pm_iload d_M_move_97 rfl ?_
    refine pm_iload d_M_move_99 rfl ?_
    refine pm_iadd d_M_move_101 ?_
    rw [(m1_N (k := t) (by omega))]
    refine pm_istore d_M_move_102 (by decide) ?_
    refine pm_goto 64 d_M_move_104 rfl ?_
    -- at 64: lo=[some (pm_R 48), some (pm_I (nI p)), some (pm_I (nI i)), some (pm_I (nI j)), some (pm_I (-1)), some (pm_I (nI ((L p).getD i 0))), some (pm_I (nI (t - 1)))] st=[]
    exact l_M_mvd hg hB hw hm hI hp hi hj s (t - 1) _ (by omega) (by omega) (rw_up hL (by omega) (by unfold dn_; rw [if_pos ⟨by omega, ht⟩]) (fun k hk hne => by unfold dn_; by_cases z : t < k ∧ k ≤ i; rw [if_pos z, if_pos ⟨by omega, z.2⟩]; rw [if_neg z, if_neg (by omega)]))
theorem k_M_move (hg : pm_gok 61 g) (hB : pm_base b) (hw : rh_wf n L) (hm : md_ n L dm) (hI : RI_ n L dm σ) (hp : p < n) (hi : i < (L p).length) (hj : j < (L p).length) : pm_C b (d + 10) km_M_move [pm_R 48, pm_I (nI p), pm_I (nI i), pm_I (nI j)] g σ τ 0 0 (pm_Wp (fun v σ' => an_ 0 (nI ((L p).getD i 0)) v ∧ σ' 48 0 = nI 0 ∧ RI_ n (gw_up L p (mv_list (L p) i j)) dm σ' ∧ kfr_ σ σ') τ) := by
  have h8 := hw.1
  have h1 := hI.1.1
  have h7 := wf_len hw p
  show pm_Y b (d + 9 + 1) km_M_move 0 false [some (pm_R 48), some (pm_I (nI p)), some (pm_I (nI i)), some (pm_I (nI j)), none, none, none] [] g σ τ 0 0 0 0 _
  by_cases e : i < j
  · skip
    refine pm_aload_n d_M_move_0 rfl ?_
    refine pm_aload_n d_M_move_1 rfl ?_
    refine pm_iload_n d_M_move_2 rfl ?_
    refine pm_iload_n d_M_move_3 rfl ?_
    refine pm_callR (i := 48) (ci := 5) (rest := [pm_R 48]) [pm_I (nI p), pm_I (nI i)] hB d_M_move_4 hc_M_69 (pm_C_up (show 0 + 1 ≤ d + 9 by omega) (y_M_isPlace hg hB hw hI.1 hp hi)) (hg.s rfl) (hg.i (by decide)) rfl rfl rfl rfl (Nat.le_of_ble_eq_true rfl) (Nat.le_of_ble_eq_true rfl) (by omega) (by omega) ?_
    refine pm_if_eq_f 23 d_M_move_7 rfl (by decide) ?_
    refine pm_aload_n d_M_move_10 rfl ?_
    refine pm_iload_n d_M_move_11 rfl ?_
    refine pm_iload_n d_M_move_12 rfl ?_
    refine pm_callR (i := 48) (ci := 5) (rest := [pm_R 48]) [pm_I (nI p), pm_I (nI j)] hB d_M_move_13 hc_M_69 (pm_C_up (show 0 + 1 ≤ d + 9 by omega) (y_M_isPlace hg hB hw hI.1 hp hj)) (hg.s rfl) (hg.i (by decide)) rfl rfl rfl rfl (Nat.le_of_ble_eq_true rfl) (Nat.le_of_ble_eq_true rfl) (by omega) (by omega) ?_
    refine pm_if_eq_f 23 d_M_move_16 rfl (by decide) ?_
    refine pm_iconst' (nI 0) d_M_move_19 (by decide) ?_
    refine pm_goto 24 d_M_move_20 rfl ?_
    refine pm_puti d_M_move_24 hp_M_43 (hg.s rfl) (hg.i (by decide)) rfl ?_
    refine pm_aload_n d_M_move_27 rfl ?_
    refine pm_geti' (nI 0) d_M_move_28 hf_M_43 (hg.s rfl) (hg.i (by decide)) rfl pm_up_at ?_
    refine pm_if_le_t 36 d_M_move_31 rfl (by decide) ?_
    refine pm_iload_n d_M_move_36 rfl ?_
    refine pm_iload_n d_M_move_37 rfl ?_
    refine pm_icmp_ge_f 45 d_M_move_38 rfl (by rw [nI_leI (by omega) (by omega)]; omega) ?_
    refine pm_iconst' (nI 1) d_M_move_41 (by decide) ?_
    refine pm_goto 46 d_M_move_42 rfl ?_
    refine pm_istore d_M_move_46 (by decide) ?_
    refine pm_aload_n d_M_move_48 rfl ?_
    refine pm_getr d_M_move_49 hf_M_13 (hg.s rfl) (hg.i (by decide)) rfl (hg.r (by decide) rfl) ?_
    refine pm_bipush' (nI 8) d_M_move_52 (by decide) ?_
    refine pm_iload_n d_M_move_54 rfl ?_
    refine pm_imulN d_M_move_55 ?_
    refine pm_iload_n d_M_move_56 rfl ?_
    refine pm_iaddN d_M_move_57 ?_
    refine pm_iaload' ((8 * p) + i) (nI ((L p).getD i 0)) d_M_move_58 (hg.s rfl) (hg.i (by decide)) rfl (by omega) (by decide) (by rw [pm_up_ne (by omega)]; exact hI.1.2.2 p i hp hi) ?_
    refine pm_istore d_M_move_59 (by decide) ?_
    refine pm_iload_n d_M_move_61 rfl ?_
    refine pm_istore d_M_move_62 (by decide) ?_
    -- at 64: lo=[some (pm_R 48), some (pm_I (nI p)), some (pm_I (nI i)), some (pm_I (nI j)), some (pm_I (nI 1)), some (pm_I (nI ((L p).getD i 0))), some (pm_I (nI i))] st=[]
    exact l_M_mvu hg hB hw hm hI hp hi hj (j - i) i _ (by omega) (Nat.le_refl i) ⟨fun k hk => by rw [pm_up_ne (by omega), hI.1.2.2 p k hp hk]; unfold rt_; rw [if_neg (by omega)], fun _ _ _ => rfl⟩
  · skip
    refine pm_aload_n d_M_move_0 rfl ?_
    refine pm_aload_n d_M_move_1 rfl ?_
    refine pm_iload_n d_M_move_2 rfl ?_
    refine pm_iload_n d_M_move_3 rfl ?_
    refine pm_callR (i := 48) (ci := 5) (rest := [pm_R 48]) [pm_I (nI p), pm_I (nI i)] hB d_M_move_4 hc_M_69 (pm_C_up (show 0 + 1 ≤ d + 9 by omega) (y_M_isPlace hg hB hw hI.1 hp hi)) (hg.s rfl) (hg.i (by decide)) rfl rfl rfl rfl (Nat.le_of_ble_eq_true rfl) (Nat.le_of_ble_eq_true rfl) (by omega) (by omega) ?_
    refine pm_if_eq_f 23 d_M_move_7 rfl (by decide) ?_
    refine pm_aload_n d_M_move_10 rfl ?_
    refine pm_iload_n d_M_move_11 rfl ?_
    refine pm_iload_n d_M_move_12 rfl ?_
    refine pm_callR (i := 48) (ci := 5) (rest := [pm_R 48]) [pm_I (nI p), pm_I (nI j)] hB d_M_move_13 hc_M_69 (pm_C_up (show 0 + 1 ≤ d + 9 by omega) (y_M_isPlace hg hB hw hI.1 hp hj)) (hg.s rfl) (hg.i (by decide)) rfl rfl rfl rfl (Nat.le_of_ble_eq_true rfl) (Nat.le_of_ble_eq_true rfl) (by omega) (by omega) ?_
    refine pm_if_eq_f 23 d_M_move_16 rfl (by decide) ?_
    refine pm_iconst' (nI 0) d_M_move_19 (by decide) ?_
    refine pm_goto 24 d_M_move_20 rfl ?_
    refine pm_puti d_M_move_24 hp_M_43 (hg.s rfl) (hg.i (by decide)) rfl ?_
    refine pm_aload_n d_M_move_27 rfl ?_
    refine pm_geti' (nI 0) d_M_move_28 hf_M_43 (hg.s rfl) (hg.i (by decide)) rfl pm_up_at ?_
    refine pm_if_le_t 36 d_M_move_31 rfl (by decide) ?_
    refine pm_iload_n d_M_move_36 rfl ?_
    refine pm_iload_n d_M_move_37 rfl ?_
    refine pm_icmp_ge_t 45 d_M_move_38 rfl (by rw [nI_leI (by omega) (by omega)]; omega) ?_
    refine pm_iconst' (-1) d_M_move_45 (by decide) ?_
    refine pm_istore d_M_move_46 (by decide) ?_
    refine pm_aload_n d_M_move_48 rfl ?_
    refine pm_getr d_M_move_49 hf_M_13 (hg.s rfl) (hg.i (by decide)) rfl (hg.r (by decide) rfl) ?_
    refine pm_bipush' (nI 8) d_M_move_52 (by decide) ?_
    refine pm_iload_n d_M_move_54 rfl ?_
    refine pm_imulN d_M_move_55 ?_
    refine pm_iload_n d_M_move_56 rfl ?_
    refine pm_iaddN d_M_move_57 ?_
    refine pm_iaload' ((8 * p) + i) (nI ((L p).getD i 0)) d_M_move_58 (hg.s rfl) (hg.i (by decide)) rfl (by omega) (by decide) (by rw [pm_up_ne (by omega)]; exact hI.1.2.2 p i hp hi) ?_
    refine pm_istore d_M_move_59 (by decide) ?_
    refine pm_iload_n d_M_move_61 rfl ?_
    refine pm_istore d_M_move_62 (by decide) ?_
    -- at 64: lo=[some (pm_R 48), some (pm_I (nI p)), some (pm_I (nI i)), some (pm_I (nI j)), some (pm_I (-1)), some (pm_I (nI ((L p).getD i 0))), some (pm_I (nI i))] st=[]
    exact l_M_mvd hg hB hw hm hI hp hi hj (i - j) i _ (by omega) (Nat.le_refl i) ⟨fun k hk => by rw [pm_up_ne (by omega), hI.1.2.2 p k hp hk]; unfold dn_; rw [if_neg (by omega)], fun _ _ _ => rfl⟩
end MC
