/-! the house's own methods: what is asked from outside -/
section CS
variable {n n₀ ch m : Nat} {L L₀ : Nat → List Nat} {dm : Nat → Nat} {σ σ₁ σ₂ : pI}
theorem rk_nil (p q : Nat) : rh_rk (fun _ => []) p q = if p = q then 8 else 9 := by
  unfold rh_rk
  by_cases e : p = q
  · rw [if_pos e, if_pos e]
  · rw [if_neg e, if_neg e, if_neg (fun z => by cases z.1)]
theorem wf_nil (h : n ≤ 8) : rh_wf n (fun _ => []) := ⟨h, fun p _ => ⟨List.nodup_nil, fun q hq => by cases hq⟩, fun _ _ => rfl⟩
theorem CI_start (hc : σ 1 5 = nI ch) (hs : sc_ n₀ ch L₀ σ) (hp : pc_ n₀ ch L₀ σ) (hm : m ≤ 8) (h1 : cl_end σ m σ₁) (h2 : ci_D (fun p => p) σ₂) (h3 : dr_fr σ₁ σ₂) : CI_ m (ch + 1) (fun _ => []) (fun p => p) σ₂ ∧ hfr_ σ σ₂ := by
  obtain ⟨a1, a2, a3, a4, a5⟩ := h1
  refine ⟨⟨wf_nil hm, ?_, md_id, h2, sc_old hs ?_, pc_old hp ?_⟩, fun c x hc => ?_⟩
  · refine W_same (σ := σ₁) ⟨a1, ?_, ⟨fun p hp => a3 p hp, fun p k _ hk => absurd hk (Nat.not_lt_zero k), fun p q hp hq => ?_⟩, fun p q hp hq => ?_⟩ (fun c x hc => h3 c x (by omega))
    · rw [a2, hc, nI_add]
    · rw [(a4 p q hp hq).1]
      unfold pl_
      rw [if_neg (fun z => by cases z)]
    · rw [(a4 p q hp hq).2, rk_nil]
  · rw [h3 32 5 (by omega), a5 32 5 (by omega)]
  · rw [h3 44 6 (by omega), a5 44 6 (by omega)]
  · rw [h3 c x (by omega), a5 c x (by omega)]
theorem CI_remove {p i : Nat} (h : CI_ n ch L dm σ) (hp : p < n) (hi : i < (L p).length) (hW : ci_W n (ch + 1) (gw_up L p (rm_list (L p) i)) σ₁) (hf : wf_fr σ σ₁)
    (hD : ci_D (if dm p = (L p).getD i 0 ∧ ¬ rh_rk (gw_up L p (rm_list (L p) i)) p ((L p).getD i 0) < 8 then ms_ dm p else dm) σ₂) (hf2 : dr_fr σ₁ σ₂) :
    CI_ n (ch + 1) (gw_up L p (rm_list (L p) i)) (if dm p = (L p).getD i 0 ∧ ¬ rh_rk (gw_up L p (rm_list (L p) i)) p ((L p).getD i 0) < 8 then ms_ dm p else dm) σ₂ ∧ hfr_ σ σ₂ :=
  ⟨⟨rm_wf h.1 hp hi, W_same hW (fun c x hc => hf2 c x (by omega)), md_rm h.1 h.2.2.1 hp hi, hD, sc_old h.2.2.2.2.1 ((hf2 32 5 (by omega)).trans (hf 32 5 (by omega))), pc_old h.2.2.2.2.2 ((hf2 44 6 (by omega)).trans (hf 44 6 (by omega)))⟩, fun c x hc => (hf2 c x (by omega)).trans (hf c x (by omega))⟩
theorem mv_at_to (i j : Nat) : mv_at i j j = i := by
  unfold mv_at
  (repeat' split) <;> omega
theorem pl_m1 (hw : rh_wf n L) {p q : Nat} (hm : q ∈ L p) : ¬ pl_ L p q = -1 := by
  have h1 := wf_len hw p
  have h2 := (get_idx hm).1
  unfold pl_
  rw [if_pos hm]
  exact nI_m1 (by omega)
end CS
section H2
variable {b : pB} {g : pG} {σ : pI} {τ : pJ} {d n n₀ ch p q i j m : Nat} {x y z : Int32} {L L₀ : Nat → List Nat} {dm : Nat → Nat}
theorem k_H_startWith (hg : pm_gok 48 g) (hB : pm_base b) (hc : σ 1 5 = nI ch) (hs : sc_ n₀ ch L₀ σ) (hp : pc_ n₀ ch L₀ σ) (hm : m ≤ 8) : pm_C b (d + 1) km_H_startWith [pm_R 0, pm_I (nI m)] g σ τ 0 0 (pm_Wp (fun v σ' => v = none ∧ CI_ m (ch + 1) (fun _ => []) (fun p => p) σ' ∧ hfr_ σ σ') τ) := by
  show pm_Y b (d + 1) km_H_startWith 0 false [some (pm_R 0), some (pm_I (nI m))] [] g σ τ 0 0 0 0 _
  refine pm_aload_n d_H_startWith_0 rfl ?_
  refine pm_getr d_H_startWith_1 hf_H_10 (hg.s rfl) (hg.i (by decide)) rfl (hg.r (by decide) rfl) ?_
  refine pm_iload_n d_H_startWith_4 rfl ?_
  refine pm_callWp (i := 1) (ci := 1) (rest := []) [pm_I (nI m)] hB d_H_startWith_5 hc_H_136 (c_W_clear hg) (hg.s rfl) (hg.i (by decide)) rfl rfl rfl rfl (Nat.le_of_ble_eq_true rfl) (Nat.le_of_ble_eq_true rfl) (by omega) (by omega) (fun v5 σ₁ hv5 hq5 => ?_)
  obtain ⟨rfl, h1⟩ := hq5
  show pm_Y b _ km_H_startWith 8 true [some (pm_R 0), some (pm_I (nI m))] [] g σ₁ τ 0 0 0 0 _
  refine pm_aload_n d_H_startWith_8 rfl ?_
  refine pm_getr d_H_startWith_9 hf_H_21 (hg.s rfl) (hg.i (by decide)) rfl (hg.r (by decide) rfl) ?_
  refine pm_callWp (i := 30) (ci := 2) (rest := []) [] hB d_H_startWith_12 hc_H_139 (k_D_makeAllSingle hg) (hg.s rfl) (hg.i (by decide)) rfl rfl rfl rfl (Nat.le_of_ble_eq_true rfl) (Nat.le_of_ble_eq_true rfl) (by omega) (by omega) (fun v12 σ₂ hv12 hq12 => ?_)
  obtain ⟨rfl, h2, h3⟩ := hq12
  show pm_Y b _ km_H_startWith 15 true [some (pm_R 0), some (pm_I (nI m))] [] g σ₂ τ 0 0 0 0 _
  exact pm_return d_H_startWith_15 rfl (fun _ => rfl) (Nat.le_refl _) (Nat.le_refl _) ⟨⟨rfl, CI_start hc hs hp hm h1 h2 h3⟩, rfl⟩
theorem k_H_people (hg : pm_gok 48 g) (hB : pm_base b) (hI : CI_ n ch L dm σ) (hm : m ≤ 8) : pm_C b (d + 30) km_H_people [pm_R 0, pm_I (nI m)] g σ τ 0 0 (pm_Wp (fun v σ' => v = some (nI n) ∧ CI_ m (ch + 1) (fun _ => []) (fun p => p) σ' ∧ hfr_ σ σ') τ) := by
  have h4 := hI.env.1
  have hw := hI.w
  have h8 := hw.1
  show pm_Y b (d + 29 + 1) km_H_people 0 false [some (pm_R 0), some (pm_I (nI m)), none] [] g σ τ 0 0 0 0 _
  refine pm_iload_n d_H_people_0 rfl ?_
  refine pm_if_lt_f 10 d_H_people_1 rfl (nI_nn (by omega)) ?_
  refine pm_iload_n d_H_people_4 rfl ?_
  refine pm_bipush' (nI 8) d_H_people_5 (by decide) ?_
  refine pm_icmp_le_t 18 d_H_people_7 rfl ((nI_leI (by omega) (by omega)).mpr hm) ?_
  refine pm_aload_n d_H_people_18 rfl ?_
  refine pm_getr d_H_people_19 hf_H_10 (hg.s rfl) (hg.i (by decide)) rfl (hg.r (by decide) rfl) ?_
  refine pm_callR (i := 1) (ci := 1) (rest := []) [] hB d_H_people_22 hc_H_46 (k_W_count hg h4) (hg.s rfl) (hg.i (by decide)) rfl rfl rfl rfl (Nat.le_of_ble_eq_true rfl) (Nat.le_of_ble_eq_true rfl) (by omega) (by omega) ?_
  refine pm_istore_n d_H_people_25 (by decide) ?_
  refine pm_aload_n d_H_people_26 rfl ?_
  refine pm_iload_n d_H_people_27 rfl ?_
  refine pm_callWp (i := 0) (ci := 0) (rest := []) [pm_I (nI m)] hB d_H_people_28 hc_H_39 (pm_C_up (show 0 + 1 ≤ d + 29 by omega) (k_H_startWith hg hB hI.c hI.2.2.2.2.1 hI.2.2.2.2.2 hm)) (hg.s rfl) (hg.i (by decide)) rfl rfl rfl rfl (Nat.le_of_ble_eq_true rfl) (Nat.le_of_ble_eq_true rfl) (by omega) (by omega) (fun v28 σ₁ hv28 hq28 => ?_)
  obtain ⟨rfl, h1⟩ := hq28
  show pm_Y b _ km_H_people 31 true [some (pm_R 0), some (pm_I (nI m)), some (pm_I (nI n))] [] g σ₁ τ 0 0 0 0 _
  refine pm_iload_n d_H_people_31 rfl ?_
  exact pm_ireturn d_H_people_32 rfl (fun _ => rfl) (Nat.le_refl _) (Nat.le_refl _) ⟨⟨rfl, h1⟩, rfl⟩
theorem x_H_people (hg : pm_gok 48 g) (hB : pm_base b) (hX : pm_baseX b) (hx : x < 0 ∨ nI 8 < x) : pm_C b (d + 30) km_H_people [pm_R 0, pm_I x] g σ τ 1 6 (.inr (.inl "java/lang/IllegalArgumentException")) := by
  show pm_Y b (d + 29 + 1) km_H_people 0 false [some (pm_R 0), some (pm_I x), none] [] g σ τ 0 0 1 6 _
  by_cases e : x < 0
  · have hx := e
    refine pm_iload_n d_H_people_0 rfl ?_
    refine pm_if_lt_t 10 d_H_people_1 rfl hx ?_
    exact pm_throw hX d_H_people_10 d_H_people_13 d_H_people_14 d_H_people_17 hx_H_43 rfl (Nat.le_of_ble_eq_true rfl) (by omega) (by omega)
  · have hx := hx.resolve_left e
    refine pm_iload_n d_H_people_0 rfl ?_
    refine pm_if_lt_f 10 d_H_people_1 rfl e ?_
    refine pm_iload_n d_H_people_4 rfl ?_
    refine pm_bipush' (nI 8) d_H_people_5 (by decide) ?_
    refine pm_icmp_le_f 18 d_H_people_7 rfl (Int32.not_le.mpr hx) ?_
    exact pm_throw hX d_H_people_10 d_H_people_13 d_H_people_14 d_H_people_17 hx_H_43 rfl (Nat.le_of_ble_eq_true rfl) (by omega) (by omega)
theorem x_H_put (hg : pm_gok 48 g) (hB : pm_base b) (hI : CI_ n ch L dm σ) (hX : pm_baseX b) (hx : ob_ n x ∨ ob_ n y) : pm_C b (d + 30) km_H_put [pm_R 0, pm_I x, pm_I y] g σ τ 1 6 (.inr (.inl "java/lang/IndexOutOfBoundsException")) := by
  have h4 := hI.env.1
  have hw := hI.w
  have h8 := hw.1
  show pm_Y b (d + 29 + 1) km_H_put 0 false [some (pm_R 0), some (pm_I x), some (pm_I y)] [] g σ τ 0 0 1 6 _
  refine pm_aload_n d_H_put_0 rfl ?_
  refine pm_iload_n d_H_put_1 rfl ?_
  refine pm_iload_n d_H_put_2 rfl ?_
  exact pm_callVT (i := 0) (ci := 0) (rest := []) (vs := [pm_I x, pm_I y]) hB d_H_put_3 hc_H_50 (pm_C_up (show 0 + 2 ≤ d + 29 by omega) (x_H_demandPersons hg hB hX h4 h8 hx)) (hg.s rfl) (hg.i (by decide)) rfl rfl rfl rfl rfl (Nat.le_of_ble_eq_true rfl) (Nat.le_of_ble_eq_true rfl) (by omega) (by omega)
theorem x_H_pair (hg : pm_gok 48 g) (hB : pm_base b) (hI : CI_ n ch L dm σ) (hX : pm_baseX b) (hx : ob_ n x ∨ ob_ n y) : pm_C b (d + 30) km_H_pair [pm_R 0, pm_I x, pm_I y] g σ τ 1 6 (.inr (.inl "java/lang/IndexOutOfBoundsException")) := by
  have h4 := hI.env.1
  have hw := hI.w
  have h8 := hw.1
  show pm_Y b (d + 29 + 1) km_H_pair 0 false [some (pm_R 0), some (pm_I x), some (pm_I y)] [] g σ τ 0 0 1 6 _
  refine pm_aload_n d_H_pair_0 rfl ?_
  refine pm_iload_n d_H_pair_1 rfl ?_
  refine pm_iload_n d_H_pair_2 rfl ?_
  exact pm_callVT (i := 0) (ci := 0) (rest := []) (vs := [pm_I x, pm_I y]) hB d_H_pair_3 hc_H_50 (pm_C_up (show 0 + 2 ≤ d + 29 by omega) (x_H_demandPersons hg hB hX h4 h8 hx)) (hg.s rfl) (hg.i (by decide)) rfl rfl rfl rfl rfl (Nat.le_of_ble_eq_true rfl) (Nat.le_of_ble_eq_true rfl) (by omega) (by omega)
theorem x_H_place (hg : pm_gok 48 g) (hB : pm_base b) (hI : CI_ n ch L dm σ) (hX : pm_baseX b) (hx : ob_ n x ∨ ob_ n y) : pm_C b (d + 30) km_H_place [pm_R 0, pm_I x, pm_I y] g σ τ 1 6 (.inr (.inl "java/lang/IndexOutOfBoundsException")) := by
  have h4 := hI.env.1
  have hw := hI.w
  have h8 := hw.1
  show pm_Y b (d + 29 + 1) km_H_place 0 false [some (pm_R 0), some (pm_I x), some (pm_I y)] [] g σ τ 0 0 1 6 _
  refine pm_aload_n d_H_place_0 rfl ?_
  refine pm_iload_n d_H_place_1 rfl ?_
  refine pm_iload_n d_H_place_2 rfl ?_
  exact pm_callVT (i := 0) (ci := 0) (rest := []) (vs := [pm_I x, pm_I y]) hB d_H_place_3 hc_H_50 (pm_C_up (show 0 + 2 ≤ d + 29 by omega) (x_H_demandPersons hg hB hX h4 h8 hx)) (hg.s rfl) (hg.i (by decide)) rfl rfl rfl rfl rfl (Nat.le_of_ble_eq_true rfl) (Nat.le_of_ble_eq_true rfl) (by omega) (by omega)
theorem x_H_together (hg : pm_gok 48 g) (hB : pm_base b) (hI : CI_ n ch L dm σ) (hX : pm_baseX b) (hx : ob_ n x ∨ ob_ n y) : pm_C b (d + 30) km_H_together [pm_R 0, pm_I x, pm_I y] g σ τ 1 6 (.inr (.inl "java/lang/IndexOutOfBoundsException")) := by
  have h4 := hI.env.1
  have hw := hI.w
  have h8 := hw.1
  show pm_Y b (d + 29 + 1) km_H_together 0 false [some (pm_R 0), some (pm_I x), some (pm_I y)] [] g σ τ 0 0 1 6 _
  refine pm_aload_n d_H_together_0 rfl ?_
  refine pm_iload_n d_H_together_1 rfl ?_
  refine pm_iload_n d_H_together_2 rfl ?_
  exact pm_callVT (i := 0) (ci := 0) (rest := []) (vs := [pm_I x, pm_I y]) hB d_H_together_3 hc_H_50 (pm_C_up (show 0 + 2 ≤ d + 29 by omega) (x_H_demandPersons hg hB hX h4 h8 hx)) (hg.s rfl) (hg.i (by decide)) rfl rfl rfl rfl rfl (Nat.le_of_ble_eq_true rfl) (Nat.le_of_ble_eq_true rfl) (by omega) (by omega)
theorem x_H_partner (hg : pm_gok 48 g) (hB : pm_base b) (hI : CI_ n ch L dm σ) (hX : pm_baseX b) (hx : ob_ n x) : pm_C b (d + 30) km_H_partner [pm_R 0, pm_I x] g σ τ 1 6 (.inr (.inl "java/lang/IndexOutOfBoundsException")) := by
  have h4 := hI.env.1
  have hw := hI.w
  have h8 := hw.1
  show pm_Y b (d + 29 + 1) km_H_partner 0 false [some (pm_R 0), some (pm_I x)] [] g σ τ 0 0 1 6 _
  refine pm_aload_n d_H_partner_0 rfl ?_
  refine pm_iload_n d_H_partner_1 rfl ?_
  exact pm_callVT (i := 0) (ci := 0) (rest := []) (vs := [pm_I x]) hB d_H_partner_2 hc_H_68 (pm_C_up (show 0 + 1 ≤ d + 29 by omega) (x_H_demandPerson hg hB hX h4 hx)) (hg.s rfl) (hg.i (by decide)) rfl rfl rfl rfl rfl (Nat.le_of_ble_eq_true rfl) (Nat.le_of_ble_eq_true rfl) (by omega) (by omega)
theorem x_H_matched (hg : pm_gok 48 g) (hB : pm_base b) (hI : CI_ n ch L dm σ) (hX : pm_baseX b) (hx : ob_ n x) : pm_C b (d + 30) km_H_matched [pm_R 0, pm_I x] g σ τ 1 6 (.inr (.inl "java/lang/IndexOutOfBoundsException")) := by
  have h4 := hI.env.1
  have hw := hI.w
  have h8 := hw.1
  show pm_Y b (d + 29 + 1) km_H_matched 0 false [some (pm_R 0), some (pm_I x)] [] g σ τ 0 0 1 6 _
  refine pm_aload_n d_H_matched_0 rfl ?_
  refine pm_iload_n d_H_matched_1 rfl ?_
  exact pm_callVT (i := 0) (ci := 0) (rest := []) (vs := [pm_I x]) hB d_H_matched_2 hc_H_68 (pm_C_up (show 0 + 1 ≤ d + 29 by omega) (x_H_demandPerson hg hB hX h4 hx)) (hg.s rfl) (hg.i (by decide)) rfl rfl rfl rfl rfl (Nat.le_of_ble_eq_true rfl) (Nat.le_of_ble_eq_true rfl) (by omega) (by omega)
theorem x_H_party (hg : pm_gok 48 g) (hB : pm_base b) (hI : CI_ n ch L dm σ) (hX : pm_baseX b) (hx : ob_ n x) : pm_C b (d + 30) km_H_party [pm_R 0, pm_I x] g σ τ 1 6 (.inr (.inl "java/lang/IndexOutOfBoundsException")) := by
  have h4 := hI.env.1
  have hw := hI.w
  have h8 := hw.1
  show pm_Y b (d + 29 + 1) km_H_party 0 false [some (pm_R 0), some (pm_I x)] [] g σ τ 0 0 1 6 _
  refine pm_aload_n d_H_party_0 rfl ?_
  refine pm_iload_n d_H_party_1 rfl ?_
  exact pm_callVT (i := 0) (ci := 0) (rest := []) (vs := [pm_I x]) hB d_H_party_2 hc_H_68 (pm_C_up (show 0 + 1 ≤ d + 29 by omega) (x_H_demandPerson hg hB hX h4 hx)) (hg.s rfl) (hg.i (by decide)) rfl rfl rfl rfl rfl (Nat.le_of_ble_eq_true rfl) (Nat.le_of_ble_eq_true rfl) (by omega) (by omega)
theorem x_H_next (hg : pm_gok 48 g) (hB : pm_base b) (hI : CI_ n ch L dm σ) (hX : pm_baseX b) (hx : ob_ n x) : pm_C b (d + 30) km_H_next [pm_R 0, pm_I x] g σ τ 1 6 (.inr (.inl "java/lang/IndexOutOfBoundsException")) := by
  have h4 := hI.env.1
  have hw := hI.w
  have h8 := hw.1
  show pm_Y b (d + 29 + 1) km_H_next 0 false [some (pm_R 0), some (pm_I x)] [] g σ τ 0 0 1 6 _
  refine pm_aload_n d_H_next_0 rfl ?_
  refine pm_iload_n d_H_next_1 rfl ?_
  exact pm_callVT (i := 0) (ci := 0) (rest := []) (vs := [pm_I x]) hB d_H_next_2 hc_H_68 (pm_C_up (show 0 + 1 ≤ d + 29 by omega) (x_H_demandPerson hg hB hX h4 hx)) (hg.s rfl) (hg.i (by decide)) rfl rfl rfl rfl rfl (Nat.le_of_ble_eq_true rfl) (Nat.le_of_ble_eq_true rfl) (by omega) (by omega)
theorem x_H_remove (hg : pm_gok 48 g) (hB : pm_base b) (hI : CI_ n ch L dm σ) (hX : pm_baseX b) (hx : ob_ n x) : pm_C b (d + 30) km_H_remove [pm_R 0, pm_I x, pm_I y] g σ τ 1 6 (.inr (.inl "java/lang/IndexOutOfBoundsException")) := by
  have h4 := hI.env.1
  have hw := hI.w
  have h8 := hw.1
  show pm_Y b (d + 29 + 1) km_H_remove 0 false [some (pm_R 0), some (pm_I x), some (pm_I y), none] [] g σ τ 0 0 1 6 _
  refine pm_aload_n d_H_remove_0 rfl ?_
  refine pm_iload_n d_H_remove_1 rfl ?_
  exact pm_callVT (i := 0) (ci := 0) (rest := []) (vs := [pm_I x]) hB d_H_remove_2 hc_H_68 (pm_C_up (show 0 + 1 ≤ d + 29 by omega) (x_H_demandPerson hg hB hX h4 hx)) (hg.s rfl) (hg.i (by decide)) rfl rfl rfl rfl rfl (Nat.le_of_ble_eq_true rfl) (Nat.le_of_ble_eq_true rfl) (by omega) (by omega)
theorem x_H_at (hg : pm_gok 48 g) (hB : pm_base b) (hI : CI_ n ch L dm σ) (hX : pm_baseX b) (hx : ob_ n x) : pm_C b (d + 30) km_H_at [pm_R 0, pm_I x, pm_I y] g σ τ 1 6 (.inr (.inl "java/lang/IndexOutOfBoundsException")) := by
  have h4 := hI.env.1
  have hw := hI.w
  have h8 := hw.1
  show pm_Y b (d + 29 + 1) km_H_at 0 false [some (pm_R 0), some (pm_I x), some (pm_I y)] [] g σ τ 0 0 1 6 _
  refine pm_aload_n d_H_at_0 rfl ?_
  refine pm_iload_n d_H_at_1 rfl ?_
  exact pm_callVT (i := 0) (ci := 0) (rest := []) (vs := [pm_I x]) hB d_H_at_2 hc_H_68 (pm_C_up (show 0 + 1 ≤ d + 29 by omega) (x_H_demandPerson hg hB hX h4 hx)) (hg.s rfl) (hg.i (by decide)) rfl rfl rfl rfl rfl (Nat.le_of_ble_eq_true rfl) (Nat.le_of_ble_eq_true rfl) (by omega) (by omega)
theorem x_H_extreme (hg : pm_gok 48 g) (hB : pm_base b) (hI : CI_ n ch L dm σ) (hX : pm_baseX b) (hx : ob_ n x) : pm_C b (d + 30) km_H_extreme [pm_R 0, pm_I x, pm_I y] g σ τ 1 6 (.inr (.inl "java/lang/IndexOutOfBoundsException")) := by
  have h4 := hI.env.1
  have hw := hI.w
  have h8 := hw.1
  show pm_Y b (d + 29 + 1) km_H_extreme 0 false [some (pm_R 0), some (pm_I x), some (pm_I y)] [] g σ τ 0 0 1 6 _
  refine pm_aload_n d_H_extreme_0 rfl ?_
  refine pm_iload_n d_H_extreme_1 rfl ?_
  exact pm_callVT (i := 0) (ci := 0) (rest := []) (vs := [pm_I x]) hB d_H_extreme_2 hc_H_68 (pm_C_up (show 0 + 1 ≤ d + 29 by omega) (x_H_demandPerson hg hB hX h4 hx)) (hg.s rfl) (hg.i (by decide)) rfl rfl rfl rfl rfl (Nat.le_of_ble_eq_true rfl) (Nat.le_of_ble_eq_true rfl) (by omega) (by omega)
theorem x_H_move (hg : pm_gok 48 g) (hB : pm_base b) (hI : CI_ n ch L dm σ) (hX : pm_baseX b) (hx : ob_ n x) : pm_C b (d + 30) km_H_move [pm_R 0, pm_I x, pm_I y, pm_I z] g σ τ 1 6 (.inr (.inl "java/lang/IndexOutOfBoundsException")) := by
  have h4 := hI.env.1
  have hw := hI.w
  have h8 := hw.1
  show pm_Y b (d + 29 + 1) km_H_move 0 false [some (pm_R 0), some (pm_I x), some (pm_I y), some (pm_I z)] [] g σ τ 0 0 1 6 _
  refine pm_aload_n d_H_move_0 rfl ?_
  refine pm_iload_n d_H_move_1 rfl ?_
  exact pm_callVT (i := 0) (ci := 0) (rest := []) (vs := [pm_I x]) hB d_H_move_2 hc_H_68 (pm_C_up (show 0 + 1 ≤ d + 29 by omega) (x_H_demandPerson hg hB hX h4 hx)) (hg.s rfl) (hg.i (by decide)) rfl rfl rfl rfl rfl (Nat.le_of_ble_eq_true rfl) (Nat.le_of_ble_eq_true rfl) (by omega) (by omega)
theorem x_H_remove2 (hg : pm_gok 48 g) (hB : pm_base b) (hI : CI_ n ch L dm σ) (hX : pm_baseX b) (hp : p < n) (hx : ob_ (L p).length x) : pm_C b (d + 30) km_H_remove [pm_R 0, pm_I (nI p), pm_I x] g σ τ 1 6 (.inr (.inl "java/lang/IndexOutOfBoundsException")) := by
  have h4 := hI.env.1
  have hw := hI.w
  have h8 := hw.1
  show pm_Y b (d + 29 + 1) km_H_remove 0 false [some (pm_R 0), some (pm_I (nI p)), some (pm_I x), none] [] g σ τ 0 0 1 6 _
  refine pm_aload_n d_H_remove_0 rfl ?_
  refine pm_iload_n d_H_remove_1 rfl ?_
  refine pm_callRv (i := 0) (ci := 0) (rest := []) [pm_I (nI p)] hB d_H_remove_2 hc_H_68 (pm_C_up (show 0 + 1 ≤ d + 29 by omega) (k_H_demandPerson hg hB h4 h8 hp)) (hg.s rfl) (hg.i (by decide)) rfl rfl rfl rfl (Nat.le_of_ble_eq_true rfl) (Nat.le_of_ble_eq_true rfl) (by omega) (by omega) ?_
  refine pm_aload_n d_H_remove_5 rfl ?_
  refine pm_iload_n d_H_remove_6 rfl ?_
  refine pm_iload_n d_H_remove_7 rfl ?_
  exact pm_callVT (i := 0) (ci := 0) (rest := []) (vs := [pm_I (nI p), pm_I x]) hB d_H_remove_8 hc_H_71 (pm_C_up (show 0 + 1 ≤ d + 29 by omega) (x_H_demandPlace hg hB hX hI.env.2.1 (by omega) hx)) (hg.s rfl) (hg.i (by decide)) rfl rfl rfl rfl rfl (Nat.le_of_ble_eq_true rfl) (Nat.le_of_ble_eq_true rfl) (by omega) (by omega)
theorem x_H_move2 (hg : pm_gok 48 g) (hB : pm_base b) (hI : CI_ n ch L dm σ) (hX : pm_baseX b) (hp : p < n) (hx : ob_ (L p).length x ∨ ob_ (L p).length y) : pm_C b (d + 30) km_H_move [pm_R 0, pm_I (nI p), pm_I x, pm_I y] g σ τ 1 6 (.inr (.inl "java/lang/IndexOutOfBoundsException")) := by
  have h4 := hI.env.1
  have hw := hI.w
  have h8 := hw.1
  have h7 := wf_l hw hp
  show pm_Y b (d + 29 + 1) km_H_move 0 false [some (pm_R 0), some (pm_I (nI p)), some (pm_I x), some (pm_I y)] [] g σ τ 0 0 1 6 _
  by_cases e : ob_ (L p).length x
  · refine pm_aload_n d_H_move_0 rfl ?_
    refine pm_iload_n d_H_move_1 rfl ?_
    refine pm_callRv (i := 0) (ci := 0) (rest := []) [pm_I (nI p)] hB d_H_move_2 hc_H_68 (pm_C_up (show 0 + 1 ≤ d + 29 by omega) (k_H_demandPerson hg hB h4 h8 hp)) (hg.s rfl) (hg.i (by decide)) rfl rfl rfl rfl (Nat.le_of_ble_eq_true rfl) (Nat.le_of_ble_eq_true rfl) (by omega) (by omega) ?_
    refine pm_aload_n d_H_move_5 rfl ?_
    refine pm_iload_n d_H_move_6 rfl ?_
    refine pm_iload_n d_H_move_7 rfl ?_
    exact pm_callVT (i := 0) (ci := 0) (rest := []) (vs := [pm_I (nI p), pm_I x]) hB d_H_move_8 hc_H_71 (pm_C_up (show 0 + 1 ≤ d + 29 by omega) (x_H_demandPlace hg hB hX hI.env.2.1 (by omega) e)) (hg.s rfl) (hg.i (by decide)) rfl rfl rfl rfl rfl (Nat.le_of_ble_eq_true rfl) (Nat.le_of_ble_eq_true rfl) (by omega) (by omega)
  · obtain ⟨i, hi, rfl⟩ := iv_in (show (L p).length < 2 ^ 31 by omega) e
    refine pm_aload_n d_H_move_0 rfl ?_
    refine pm_iload_n d_H_move_1 rfl ?_
    refine pm_callRv (i := 0) (ci := 0) (rest := []) [pm_I (nI p)] hB d_H_move_2 hc_H_68 (pm_C_up (show 0 + 1 ≤ d + 29 by omega) (k_H_demandPerson hg hB h4 h8 hp)) (hg.s rfl) (hg.i (by decide)) rfl rfl rfl rfl (Nat.le_of_ble_eq_true rfl) (Nat.le_of_ble_eq_true rfl) (by omega) (by omega) ?_
    refine pm_aload_n d_H_move_5 rfl ?_
    refine pm_iload_n d_H_move_6 rfl ?_
    refine pm_iload_n d_H_move_7 rfl ?_
    refine pm_callRv (i := 0) (ci := 0) (rest := []) [pm_I (nI p), pm_I (nI i)] hB d_H_move_8 hc_H_71 (pm_C_up (show 0 + 1 ≤ d + 29 by omega) (k_H_demandPlace hg hB hI.env.2.1 (wf_l hw hp) (by omega) hi)) (hg.s rfl) (hg.i (by decide)) rfl rfl rfl rfl (Nat.le_of_ble_eq_true rfl) (Nat.le_of_ble_eq_true rfl) (by omega) (by omega) ?_
    refine pm_aload_n d_H_move_11 rfl ?_
    refine pm_iload_n d_H_move_12 rfl ?_
    refine pm_iload_n d_H_move_13 rfl ?_
    exact pm_callVT (i := 0) (ci := 0) (rest := []) (vs := [pm_I (nI p), pm_I y]) hB d_H_move_14 hc_H_71 (pm_C_up (show 0 + 1 ≤ d + 29 by omega) (x_H_demandPlace hg hB hX hI.env.2.1 (by omega) (hx.resolve_left e))) (hg.s rfl) (hg.i (by decide)) rfl rfl rfl rfl rfl (Nat.le_of_ble_eq_true rfl) (Nat.le_of_ble_eq_true rfl) (by omega) (by omega)
theorem x_H_at2 (hg : pm_gok 48 g) (hB : pm_base b) (hI : CI_ n ch L dm σ) (hX : pm_baseX b) (hp : p < n) (hx : x < 0) : pm_C b (d + 30) km_H_at [pm_R 0, pm_I (nI p), pm_I x] g σ τ 1 6 (.inr (.inl "java/lang/IndexOutOfBoundsException")) := by
  have h4 := hI.env.1
  have hw := hI.w
  have h8 := hw.1
  show pm_Y b (d + 29 + 1) km_H_at 0 false [some (pm_R 0), some (pm_I (nI p)), some (pm_I x)] [] g σ τ 0 0 1 6 _
  refine pm_aload_n d_H_at_0 rfl ?_
  refine pm_iload_n d_H_at_1 rfl ?_
  refine pm_callRv (i := 0) (ci := 0) (rest := []) [pm_I (nI p)] hB d_H_at_2 hc_H_68 (pm_C_up (show 0 + 1 ≤ d + 29 by omega) (k_H_demandPerson hg hB h4 h8 hp)) (hg.s rfl) (hg.i (by decide)) rfl rfl rfl rfl (Nat.le_of_ble_eq_true rfl) (Nat.le_of_ble_eq_true rfl) (by omega) (by omega) ?_
  refine pm_iload_n d_H_at_5 rfl ?_
  refine pm_if_ge_f 17 d_H_at_6 rfl (Int32.not_le.mpr hx) ?_
  exact pm_throw hX d_H_at_9 d_H_at_12 d_H_at_13 d_H_at_16 hx_H_87 rfl (Nat.le_of_ble_eq_true rfl) (by omega) (by omega)
theorem x_H_put2 (hg : pm_gok 48 g) (hB : pm_base b) (hI : CI_ n ch L dm σ) (hX : pm_baseX b) (hp : p < n) : pm_C b (d + 30) km_H_put [pm_R 0, pm_I (nI p), pm_I (nI p)] g σ τ 1 6 (.inr (.inl "java/lang/IllegalArgumentException")) := by
  have h4 := hI.env.1
  have hw := hI.w
  have h8 := hw.1
  show pm_Y b (d + 29 + 1) km_H_put 0 false [some (pm_R 0), some (pm_I (nI p)), some (pm_I (nI p))] [] g σ τ 0 0 1 6 _
  refine pm_aload_n d_H_put_0 rfl ?_
  refine pm_iload_n d_H_put_1 rfl ?_
  refine pm_iload_n d_H_put_2 rfl ?_
  refine pm_callRv (i := 0) (ci := 0) (rest := []) [pm_I (nI p), pm_I (nI p)] hB d_H_put_3 hc_H_50 (pm_C_up (show 0 + 2 ≤ d + 29 by omega) (k_H_demandPersons hg hB h4 h8 hp hp)) (hg.s rfl) (hg.i (by decide)) rfl rfl rfl rfl (Nat.le_of_ble_eq_true rfl) (Nat.le_of_ble_eq_true rfl) (by omega) (by omega) ?_
  refine pm_iload_n d_H_put_6 rfl ?_
  refine pm_iload_n d_H_put_7 rfl ?_
  refine pm_icmp_ne_f 19 d_H_put_8 rfl rfl ?_
  exact pm_throw hX d_H_put_11 d_H_put_14 d_H_put_15 d_H_put_18 hx_H_43 rfl (Nat.le_of_ble_eq_true rfl) (by omega) (by omega)
theorem x_H_pair2 (hg : pm_gok 48 g) (hB : pm_base b) (hI : CI_ n ch L dm σ) (hX : pm_baseX b) (hp : p < n) : pm_C b (d + 30) km_H_pair [pm_R 0, pm_I (nI p), pm_I (nI p)] g σ τ 1 6 (.inr (.inl "java/lang/IllegalArgumentException")) := by
  have h4 := hI.env.1
  have hw := hI.w
  have h8 := hw.1
  show pm_Y b (d + 29 + 1) km_H_pair 0 false [some (pm_R 0), some (pm_I (nI p)), some (pm_I (nI p))] [] g σ τ 0 0 1 6 _
  refine pm_aload_n d_H_pair_0 rfl ?_
  refine pm_iload_n d_H_pair_1 rfl ?_
  refine pm_iload_n d_H_pair_2 rfl ?_
  refine pm_callRv (i := 0) (ci := 0) (rest := []) [pm_I (nI p), pm_I (nI p)] hB d_H_pair_3 hc_H_50 (pm_C_up (show 0 + 2 ≤ d + 29 by omega) (k_H_demandPersons hg hB h4 h8 hp hp)) (hg.s rfl) (hg.i (by decide)) rfl rfl rfl rfl (Nat.le_of_ble_eq_true rfl) (Nat.le_of_ble_eq_true rfl) (by omega) (by omega) ?_
  refine pm_iload_n d_H_pair_6 rfl ?_
  refine pm_iload_n d_H_pair_7 rfl ?_
  refine pm_icmp_ne_f 19 d_H_pair_8 rfl rfl ?_
  exact pm_throw hX d_H_pair_11 d_H_pair_14 d_H_pair_15 d_H_pair_18 hx_H_43 rfl (Nat.le_of_ble_eq_true rfl) (by omega) (by omega)
theorem x_H_put3 (hg : pm_gok 48 g) (hB : pm_base b) (hI : CI_ n ch L dm σ) (hX : pm_baseX b) (hp : p < n) (hq : q < n) (hne : p ≠ q) (hm : q ∈ L p) : pm_C b (d + 30) km_H_put [pm_R 0, pm_I (nI p), pm_I (nI q)] g σ τ 1 6 (.inr (.inl "java/lang/IllegalStateException")) := by
  have h4 := hI.env.1
  have hw := hI.w
  have h8 := hw.1
  show pm_Y b (d + 29 + 1) km_H_put 0 false [some (pm_R 0), some (pm_I (nI p)), some (pm_I (nI q))] [] g σ τ 0 0 1 6 _
  refine pm_aload_n d_H_put_0 rfl ?_
  refine pm_iload_n d_H_put_1 rfl ?_
  refine pm_iload_n d_H_put_2 rfl ?_
  refine pm_callRv (i := 0) (ci := 0) (rest := []) [pm_I (nI p), pm_I (nI q)] hB d_H_put_3 hc_H_50 (pm_C_up (show 0 + 2 ≤ d + 29 by omega) (k_H_demandPersons hg hB h4 h8 hp hq)) (hg.s rfl) (hg.i (by decide)) rfl rfl rfl rfl (Nat.le_of_ble_eq_true rfl) (Nat.le_of_ble_eq_true rfl) (by omega) (by omega) ?_
  refine pm_iload_n d_H_put_6 rfl ?_
  refine pm_iload_n d_H_put_7 rfl ?_
  refine pm_icmp_ne_t 19 d_H_put_8 rfl (fun e => hne ((nI_eq (by omega) (by omega)).mp e)) ?_
  refine pm_aload_n d_H_put_19 rfl ?_
  refine pm_getr d_H_put_20 hf_H_10 (hg.s rfl) (hg.i (by decide)) rfl (hg.r (by decide) rfl) ?_
  refine pm_iload_n d_H_put_23 rfl ?_
  refine pm_iload_n d_H_put_24 rfl ?_
  refine pm_callR (i := 1) (ci := 1) (rest := []) [pm_I (nI p), pm_I (nI q)] hB d_H_put_25 hc_H_54 (k_W_placeOf hg hI.env.2.1 (by omega) (by omega)) (hg.s rfl) (hg.i (by decide)) rfl rfl rfl rfl (Nat.le_of_ble_eq_true rfl) (Nat.le_of_ble_eq_true rfl) (by omega) (by omega) ?_
  refine pm_iconst' (-1) d_H_put_28 (by decide) ?_
  refine pm_icmp_eq_f 40 d_H_put_29 rfl (pl_m1 hw hm) ?_
  exact pm_throw hX d_H_put_32 d_H_put_35 d_H_put_36 d_H_put_39 hx_H_58 rfl (Nat.le_of_ble_eq_true rfl) (by omega) (by omega)
theorem x_H_pair3 (hg : pm_gok 48 g) (hB : pm_base b) (hI : CI_ n ch L dm σ) (hX : pm_baseX b) (hp : p < n) (hq : q < n) (hne : p ≠ q) (hr : ¬ rh_rk L p q < 8) : pm_C b (d + 30) km_H_pair [pm_R 0, pm_I (nI p), pm_I (nI q)] g σ τ 1 6 (.inr (.inl "java/lang/IllegalStateException")) := by
  have h4 := hI.env.1
  have hw := hI.w
  have h8 := hw.1
  show pm_Y b (d + 29 + 1) km_H_pair 0 false [some (pm_R 0), some (pm_I (nI p)), some (pm_I (nI q))] [] g σ τ 0 0 1 6 _
  refine pm_aload_n d_H_pair_0 rfl ?_
  refine pm_iload_n d_H_pair_1 rfl ?_
  refine pm_iload_n d_H_pair_2 rfl ?_
  refine pm_callRv (i := 0) (ci := 0) (rest := []) [pm_I (nI p), pm_I (nI q)] hB d_H_pair_3 hc_H_50 (pm_C_up (show 0 + 2 ≤ d + 29 by omega) (k_H_demandPersons hg hB h4 h8 hp hq)) (hg.s rfl) (hg.i (by decide)) rfl rfl rfl rfl (Nat.le_of_ble_eq_true rfl) (Nat.le_of_ble_eq_true rfl) (by omega) (by omega) ?_
  refine pm_iload_n d_H_pair_6 rfl ?_
  refine pm_iload_n d_H_pair_7 rfl ?_
  refine pm_icmp_ne_t 19 d_H_pair_8 rfl (fun e => hne ((nI_eq (by omega) (by omega)).mp e)) ?_
  refine pm_aload_n d_H_pair_19 rfl ?_
  refine pm_getr d_H_pair_20 hf_H_10 (hg.s rfl) (hg.i (by decide)) rfl (hg.r (by decide) rfl) ?_
  refine pm_iload_n d_H_pair_23 rfl ?_
  refine pm_iload_n d_H_pair_24 rfl ?_
  refine pm_callR (i := 1) (ci := 1) (rest := []) [pm_I (nI p), pm_I (nI q)] hB d_H_pair_25 hc_H_90 (k_W_arePossible hg hw hI.env.2.2 (by omega) (by omega)) (hg.s rfl) (hg.i (by decide)) rfl rfl rfl rfl (Nat.le_of_ble_eq_true rfl) (Nat.le_of_ble_eq_true rfl) (by omega) (by omega) ?_
  refine pm_if_ne_f 39 d_H_pair_28 rfl (by rw [decide_eq_false hr]; rfl) ?_
  exact pm_throw hX d_H_pair_31 d_H_pair_34 d_H_pair_35 d_H_pair_38 hx_H_58 rfl (Nat.le_of_ble_eq_true rfl) (by omega) (by omega)
theorem k_H_put (hg : pm_gok 48 g) (hB : pm_base b) (hI : CI_ n ch L dm σ) (hp : p < n) (hq : q < n) (hne : p ≠ q) (hm : q ∉ L p) : pm_C b (d + 30) km_H_put [pm_R 0, pm_I (nI p), pm_I (nI q)] g σ τ 0 0 (pm_Wp (fun v σ' => v = some (nI ((L p).length + 1)) ∧ CI_ n (ch + 1) (gw_up L p (L p ++ [q])) dm σ' ∧ hfr_ σ σ') τ) := by
  have h4 := hI.env.1
  have hw := hI.w
  have h8 := hw.1
  have hw2 := ap_wf hw hp hq (Ne.symm hne) hm
  show pm_Y b (d + 29 + 1) km_H_put 0 false [some (pm_R 0), some (pm_I (nI p)), some (pm_I (nI q))] [] g σ τ 0 0 0 0 _
  refine pm_aload_n d_H_put_0 rfl ?_
  refine pm_iload_n d_H_put_1 rfl ?_
  refine pm_iload_n d_H_put_2 rfl ?_
  refine pm_callRv (i := 0) (ci := 0) (rest := []) [pm_I (nI p), pm_I (nI q)] hB d_H_put_3 hc_H_50 (pm_C_up (show 0 + 2 ≤ d + 29 by omega) (k_H_demandPersons hg hB h4 h8 hp hq)) (hg.s rfl) (hg.i (by decide)) rfl rfl rfl rfl (Nat.le_of_ble_eq_true rfl) (Nat.le_of_ble_eq_true rfl) (by omega) (by omega) ?_
  refine pm_iload_n d_H_put_6 rfl ?_
  refine pm_iload_n d_H_put_7 rfl ?_
  refine pm_icmp_ne_t 19 d_H_put_8 rfl (fun e => hne ((nI_eq (by omega) (by omega)).mp e)) ?_
  refine pm_aload_n d_H_put_19 rfl ?_
  refine pm_getr d_H_put_20 hf_H_10 (hg.s rfl) (hg.i (by decide)) rfl (hg.r (by decide) rfl) ?_
  refine pm_iload_n d_H_put_23 rfl ?_
  refine pm_iload_n d_H_put_24 rfl ?_
  refine pm_callR (i := 1) (ci := 1) (rest := []) [pm_I (nI p), pm_I (nI q)] hB d_H_put_25 hc_H_54 (k_W_placeOf hg hI.env.2.1 (by omega) (by omega)) (hg.s rfl) (hg.i (by decide)) rfl rfl rfl rfl (Nat.le_of_ble_eq_true rfl) (Nat.le_of_ble_eq_true rfl) (by omega) (by omega) ?_
  refine pm_iconst' (-1) d_H_put_28 (by decide) ?_
  refine pm_icmp_eq_t 40 d_H_put_29 rfl (if_neg hm) ?_
  refine pm_aload_n d_H_put_40 rfl ?_
  refine pm_getr d_H_put_41 hf_H_10 (hg.s rfl) (hg.i (by decide)) rfl (hg.r (by decide) rfl) ?_
  refine pm_iload_n d_H_put_44 rfl ?_
  refine pm_iload_n d_H_put_45 rfl ?_
  refine pm_callWp (i := 1) (ci := 1) (rest := []) [pm_I (nI p), pm_I (nI q)] hB d_H_put_46 hc_H_61 (pm_C_up (show 0 + 1 ≤ d + 29 by omega) (c_W_append hg hB hw hp hI.2.1 hq (Ne.symm hne) hm)) (hg.s rfl) (hg.i (by decide)) rfl rfl rfl rfl (Nat.le_of_ble_eq_true rfl) (Nat.le_of_ble_eq_true rfl) (by omega) (by omega) (fun v46 σ₁ hv46 hq46 => ?_)
  obtain ⟨rfl, h1, h2⟩ := hq46
  show pm_Y b _ km_H_put 49 true [some (pm_R 0), some (pm_I (nI p)), some (pm_I (nI q))] [] g σ₁ τ 0 0 0 0 _
  refine pm_aload_n d_H_put_49 rfl ?_
  refine pm_getr d_H_put_50 hf_H_10 (hg.s rfl) (hg.i (by decide)) rfl (hg.r (by decide) rfl) ?_
  refine pm_iload_n d_H_put_53 rfl ?_
  refine pm_callR (i := 1) (ci := 1) (rest := []) [pm_I (nI p)] hB d_H_put_54 hc_H_64 (by
    have h9 := k_W_length (b := b) (d := d + 29) (τ := τ) hg h1.2.2.1 (show p < 8 by omega)
    rw [gw_up_self, List.length_append] at h9
    exact h9) (hg.s rfl) (hg.i (by decide)) rfl rfl rfl rfl (Nat.le_of_ble_eq_true rfl) (Nat.le_of_ble_eq_true rfl) (by omega) (by omega) ?_
  exact pm_ireturn d_H_put_57 rfl (fun _ => rfl) (Nat.le_refl _) (Nat.le_refl _) ⟨⟨rfl, CI_lists hI hw2 h1 h2 (md_up hw hw2 hI.2.2.1 (fun x hx => List.mem_append_left _ hx)), fun c x hc => h2 c x (by omega)⟩, rfl⟩
theorem k_H_remove (hg : pm_gok 48 g) (hB : pm_base b) (hI : CI_ n ch L dm σ) (hp : p < n) (hi : i < (L p).length) : pm_C b (d + 30) km_H_remove [pm_R 0, pm_I (nI p), pm_I (nI i)] g σ τ 0 0 (pm_Wp (fun v σ' => v = some (nI ((L p).getD i 0)) ∧ CI_ n (ch + 1) (gw_up L p (rm_list (L p) i)) (if dm p = (L p).getD i 0 ∧ ¬ rh_rk (gw_up L p (rm_list (L p) i)) p ((L p).getD i 0) < 8 then ms_ dm p else dm) σ' ∧ hfr_ σ σ') τ) := by
  have h4 := hI.env.1
  have hw := hI.w
  have h8 := hw.1
  have h7 := wf_l hw hp
  show pm_Y b (d + 29 + 1) km_H_remove 0 false [some (pm_R 0), some (pm_I (nI p)), some (pm_I (nI i)), none] [] g σ τ 0 0 0 0 _
  refine pm_aload_n d_H_remove_0 rfl ?_
  refine pm_iload_n d_H_remove_1 rfl ?_
  refine pm_callRv (i := 0) (ci := 0) (rest := []) [pm_I (nI p)] hB d_H_remove_2 hc_H_68 (pm_C_up (show 0 + 1 ≤ d + 29 by omega) (k_H_demandPerson hg hB h4 h8 hp)) (hg.s rfl) (hg.i (by decide)) rfl rfl rfl rfl (Nat.le_of_ble_eq_true rfl) (Nat.le_of_ble_eq_true rfl) (by omega) (by omega) ?_
  refine pm_aload_n d_H_remove_5 rfl ?_
  refine pm_iload_n d_H_remove_6 rfl ?_
  refine pm_iload_n d_H_remove_7 rfl ?_
  refine pm_callRv (i := 0) (ci := 0) (rest := []) [pm_I (nI p), pm_I (nI i)] hB d_H_remove_8 hc_H_71 (pm_C_up (show 0 + 1 ≤ d + 29 by omega) (k_H_demandPlace hg hB hI.env.2.1 (wf_l hw hp) (by omega) hi)) (hg.s rfl) (hg.i (by decide)) rfl rfl rfl rfl (Nat.le_of_ble_eq_true rfl) (Nat.le_of_ble_eq_true rfl) (by omega) (by omega) ?_
  refine pm_aload_n d_H_remove_11 rfl ?_
  refine pm_getr d_H_remove_12 hf_H_10 (hg.s rfl) (hg.i (by decide)) rfl (hg.r (by decide) rfl) ?_
  refine pm_iload_n d_H_remove_15 rfl ?_
  refine pm_iload_n d_H_remove_16 rfl ?_
  refine pm_callR (i := 1) (ci := 1) (rest := []) [pm_I (nI p), pm_I (nI i)] hB d_H_remove_17 hc_H_74 (k_W_otherAt hg hI.env.2.1 (by omega) hi (by omega)) (hg.s rfl) (hg.i (by decide)) rfl rfl rfl rfl (Nat.le_of_ble_eq_true rfl) (Nat.le_of_ble_eq_true rfl) (by omega) (by omega) ?_
  refine pm_istore_n d_H_remove_20 (by decide) ?_
  refine pm_aload_n d_H_remove_21 rfl ?_
  refine pm_getr d_H_remove_22 hf_H_10 (hg.s rfl) (hg.i (by decide)) rfl (hg.r (by decide) rfl) ?_
  refine pm_iload_n d_H_remove_25 rfl ?_
  refine pm_iload_n d_H_remove_26 rfl ?_
  refine pm_callWp (i := 1) (ci := 1) (rest := []) [pm_I (nI p), pm_I (nI i)] hB d_H_remove_27 hc_H_77 (pm_C_up (show 0 + 2 ≤ d + 29 by omega) (c_W_cut hg hB hw hp hI.2.1 hi)) (hg.s rfl) (hg.i (by decide)) rfl rfl rfl rfl (Nat.le_of_ble_eq_true rfl) (Nat.le_of_ble_eq_true rfl) (by omega) (by omega) (fun v27 σ₁ hv27 hq27 => ?_)
  obtain ⟨rfl, h1, h2⟩ := hq27
  show pm_Y b _ km_H_remove 30 true [some (pm_R 0), some (pm_I (nI p)), some (pm_I (nI i)), some (pm_I (nI ((L p).getD i 0)))] [] g σ₁ τ 0 0 0 0 _
  refine pm_aload_n d_H_remove_30 rfl ?_
  refine pm_getr d_H_remove_31 hf_H_21 (hg.s rfl) (hg.i (by decide)) rfl (hg.r (by decide) rfl) ?_
  refine pm_iload_n d_H_remove_34 rfl ?_
  refine pm_iload_n d_H_remove_35 rfl ?_
  refine pm_callWp (i := 30) (ci := 2) (rest := []) [pm_I (nI p), pm_I (nI ((L p).getD i 0))] hB d_H_remove_36 hc_H_80 (pm_C_up (show 0 + 1 ≤ d + 29 by omega) (k_D_part hg hB (rm_wf hw hp hi) h1.2.2.2 (D_same hI.2.2.2.1 (fun x => h2 31 x (by omega))) hI.m (by omega) (wf_b hw hp i))) (hg.s rfl) (hg.i (by decide)) rfl rfl rfl rfl (Nat.le_of_ble_eq_true rfl) (Nat.le_of_ble_eq_true rfl) (by omega) (by omega) (fun v36 σ₂ hv36 hq36 => ?_)
  obtain ⟨rfl, h3, h5⟩ := hq36
  show pm_Y b _ km_H_remove 39 true [some (pm_R 0), some (pm_I (nI p)), some (pm_I (nI i)), some (pm_I (nI ((L p).getD i 0)))] [] g σ₂ τ 0 0 0 0 _
  refine pm_iload_n d_H_remove_39 rfl ?_
  exact pm_ireturn d_H_remove_40 rfl (fun _ => rfl) (Nat.le_refl _) (Nat.le_refl _) ⟨⟨rfl, CI_remove hI hp hi h1 h2 h3 h5⟩, rfl⟩
theorem k_H_move (hg : pm_gok 48 g) (hB : pm_base b) (hI : CI_ n ch L dm σ) (hp : p < n) (hi : i < (L p).length) (hj : j < (L p).length) : pm_C b (d + 30) km_H_move [pm_R 0, pm_I (nI p), pm_I (nI i), pm_I (nI j)] g σ τ 0 0 (pm_Wp (fun v σ' => v = some (nI ((L p).getD i 0)) ∧ CI_ n (ch + 1) (gw_up L p (mv_list (L p) i j)) dm σ' ∧ hfr_ σ σ') τ) := by
  have h4 := hI.env.1
  have hw := hI.w
  have h8 := hw.1
  have h7 := wf_l hw hp
  have hw2 := mv_wf hw hp hi hj
  show pm_Y b (d + 29 + 1) km_H_move 0 false [some (pm_R 0), some (pm_I (nI p)), some (pm_I (nI i)), some (pm_I (nI j))] [] g σ τ 0 0 0 0 _
  refine pm_aload_n d_H_move_0 rfl ?_
  refine pm_iload_n d_H_move_1 rfl ?_
  refine pm_callRv (i := 0) (ci := 0) (rest := []) [pm_I (nI p)] hB d_H_move_2 hc_H_68 (pm_C_up (show 0 + 1 ≤ d + 29 by omega) (k_H_demandPerson hg hB h4 h8 hp)) (hg.s rfl) (hg.i (by decide)) rfl rfl rfl rfl (Nat.le_of_ble_eq_true rfl) (Nat.le_of_ble_eq_true rfl) (by omega) (by omega) ?_
  refine pm_aload_n d_H_move_5 rfl ?_
  refine pm_iload_n d_H_move_6 rfl ?_
  refine pm_iload_n d_H_move_7 rfl ?_
  refine pm_callRv (i := 0) (ci := 0) (rest := []) [pm_I (nI p), pm_I (nI i)] hB d_H_move_8 hc_H_71 (pm_C_up (show 0 + 1 ≤ d + 29 by omega) (k_H_demandPlace hg hB hI.env.2.1 (wf_l hw hp) (by omega) hi)) (hg.s rfl) (hg.i (by decide)) rfl rfl rfl rfl (Nat.le_of_ble_eq_true rfl) (Nat.le_of_ble_eq_true rfl) (by omega) (by omega) ?_
  refine pm_aload_n d_H_move_11 rfl ?_
  refine pm_iload_n d_H_move_12 rfl ?_
  refine pm_iload_n d_H_move_13 rfl ?_
  refine pm_callRv (i := 0) (ci := 0) (rest := []) [pm_I (nI p), pm_I (nI j)] hB d_H_move_14 hc_H_71 (pm_C_up (show 0 + 1 ≤ d + 29 by omega) (k_H_demandPlace hg hB hI.env.2.1 (wf_l hw hp) (by omega) hj)) (hg.s rfl) (hg.i (by decide)) rfl rfl rfl rfl (Nat.le_of_ble_eq_true rfl) (Nat.le_of_ble_eq_true rfl) (by omega) (by omega) ?_
  refine pm_aload_n d_H_move_17 rfl ?_
  refine pm_getr d_H_move_18 hf_H_10 (hg.s rfl) (hg.i (by decide)) rfl (hg.r (by decide) rfl) ?_
  refine pm_iload_n d_H_move_21 rfl ?_
  refine pm_iload_n d_H_move_22 rfl ?_
  refine pm_iload_n d_H_move_23 rfl ?_
  refine pm_callWp (i := 1) (ci := 1) (rest := []) [pm_I (nI p), pm_I (nI i), pm_I (nI j)] hB d_H_move_24 hc_H_83 (pm_C_up (show 0 + 2 ≤ d + 29 by omega) (c_W_shift hg hB hw hp hI.2.1 hi hj)) (hg.s rfl) (hg.i (by decide)) rfl rfl rfl rfl (Nat.le_of_ble_eq_true rfl) (Nat.le_of_ble_eq_true rfl) (by omega) (by omega) (fun v24 σ₁ hv24 hq24 => ?_)
  obtain ⟨rfl, h1, h2⟩ := hq24
  show pm_Y b _ km_H_move 27 true [some (pm_R 0), some (pm_I (nI p)), some (pm_I (nI i)), some (pm_I (nI j))] [] g σ₁ τ 0 0 0 0 _
  refine pm_aload_n d_H_move_27 rfl ?_
  refine pm_getr d_H_move_28 hf_H_10 (hg.s rfl) (hg.i (by decide)) rfl (hg.r (by decide) rfl) ?_
  refine pm_iload_n d_H_move_31 rfl ?_
  refine pm_iload_n d_H_move_32 rfl ?_
  refine pm_callR (i := 1) (ci := 1) (rest := []) [pm_I (nI p), pm_I (nI j)] hB d_H_move_33 hc_H_74 (by
    have h9 := k_W_otherAt (b := b) (d := d + 29) (τ := τ) (q := j) hg h1.2.2.1 (show p < 8 by omega) (by rw [gw_up_self, mv_len]; exact hj) (by omega)
    rw [gw_up_self, mv_get hj, mv_at_to] at h9
    exact h9) (hg.s rfl) (hg.i (by decide)) rfl rfl rfl rfl (Nat.le_of_ble_eq_true rfl) (Nat.le_of_ble_eq_true rfl) (by omega) (by omega) ?_
  exact pm_ireturn d_H_move_36 rfl (fun _ => rfl) (Nat.le_refl _) (Nat.le_refl _) ⟨⟨rfl, CI_lists hI hw2 h1 h2 (md_up hw hw2 hI.2.2.1 (fun x hx => (mv_mem hi hj x).mpr hx)), fun c x hc => h2 c x (by omega)⟩, rfl⟩
theorem k_H_pair (hg : pm_gok 48 g) (hB : pm_base b) (hI : CI_ n ch L dm σ) (hp : p < n) (hq : q < n) (hne : p ≠ q) (hr : rh_rk L p q < 8) : pm_C b (d + 30) km_H_pair [pm_R 0, pm_I (nI p), pm_I (nI q)] g σ τ 0 0 (pm_Wp (fun v σ' => v = some (nI (cb_ (fun l h => wb_ L l h (jn_ dm p q l) (jn_ dm p q h)) n n)) ∧ CI_ n ch L (jn_ dm p q) σ' ∧ hfr_ σ σ') τ) := by
  have h4 := hI.env.1
  have hw := hI.w
  have h8 := hw.1
  have hm2 := md_jn hw hI.2.2.1 hp hq hne hr
  show pm_Y b (d + 29 + 1) km_H_pair 0 false [some (pm_R 0), some (pm_I (nI p)), some (pm_I (nI q))] [] g σ τ 0 0 0 0 _
  refine pm_aload_n d_H_pair_0 rfl ?_
  refine pm_iload_n d_H_pair_1 rfl ?_
  refine pm_iload_n d_H_pair_2 rfl ?_
  refine pm_callRv (i := 0) (ci := 0) (rest := []) [pm_I (nI p), pm_I (nI q)] hB d_H_pair_3 hc_H_50 (pm_C_up (show 0 + 2 ≤ d + 29 by omega) (k_H_demandPersons hg hB h4 h8 hp hq)) (hg.s rfl) (hg.i (by decide)) rfl rfl rfl rfl (Nat.le_of_ble_eq_true rfl) (Nat.le_of_ble_eq_true rfl) (by omega) (by omega) ?_
  refine pm_iload_n d_H_pair_6 rfl ?_
  refine pm_iload_n d_H_pair_7 rfl ?_
  refine pm_icmp_ne_t 19 d_H_pair_8 rfl (fun e => hne ((nI_eq (by omega) (by omega)).mp e)) ?_
  refine pm_aload_n d_H_pair_19 rfl ?_
  refine pm_getr d_H_pair_20 hf_H_10 (hg.s rfl) (hg.i (by decide)) rfl (hg.r (by decide) rfl) ?_
  refine pm_iload_n d_H_pair_23 rfl ?_
  refine pm_iload_n d_H_pair_24 rfl ?_
  refine pm_callR (i := 1) (ci := 1) (rest := []) [pm_I (nI p), pm_I (nI q)] hB d_H_pair_25 hc_H_90 (k_W_arePossible hg hw hI.env.2.2 (by omega) (by omega)) (hg.s rfl) (hg.i (by decide)) rfl rfl rfl rfl (Nat.le_of_ble_eq_true rfl) (Nat.le_of_ble_eq_true rfl) (by omega) (by omega) ?_
  refine pm_if_ne_t 39 d_H_pair_28 rfl (by rw [decide_eq_true hr]; decide) ?_
  refine pm_aload_n d_H_pair_39 rfl ?_
  refine pm_getr d_H_pair_40 hf_H_21 (hg.s rfl) (hg.i (by decide)) rfl (hg.r (by decide) rfl) ?_
  refine pm_iload_n d_H_pair_43 rfl ?_
  refine pm_iload_n d_H_pair_44 rfl ?_
  refine pm_callWp (i := 30) (ci := 2) (rest := []) [pm_I (nI p), pm_I (nI q)] hB d_H_pair_45 hc_H_94 (pm_C_up (show 0 + 1 ≤ d + 29 by omega) (k_D_join hg hB hI.2.2.2.1 hI.m (by omega) (by omega))) (hg.s rfl) (hg.i (by decide)) rfl rfl rfl rfl (Nat.le_of_ble_eq_true rfl) (Nat.le_of_ble_eq_true rfl) (by omega) (by omega) (fun v45 σ₁ hv45 hq45 => ?_)
  obtain ⟨rfl, h1, h2⟩ := hq45
  show pm_Y b _ km_H_pair 48 true [some (pm_R 0), some (pm_I (nI p)), some (pm_I (nI q))] [] g σ₁ τ 0 0 0 0 _
  refine pm_aload_n d_H_pair_48 rfl ?_
  refine pm_getr d_H_pair_49 hf_H_21 (hg.s rfl) (hg.i (by decide)) rfl (hg.r (by decide) rfl) ?_
  refine pm_callR (i := 30) (ci := 2) (rest := []) [] hB d_H_pair_52 hc_H_97 (pm_C_up (show 0 + 1 ≤ d + 29 by omega) (k_D_countBlocking hg hB hw ((h2 1 4 (by omega)).trans h4) (env_of hI.env (fun c x hc => h2 c x (by omega))).2.2 h1 (fun p hp => (hm2.1 p hp).1))) (hg.s rfl) (hg.i (by decide)) rfl rfl rfl rfl (Nat.le_of_ble_eq_true rfl) (Nat.le_of_ble_eq_true rfl) (by omega) (by omega) ?_
  exact pm_ireturn d_H_pair_55 rfl (fun _ => rfl) (Nat.le_refl _) (Nat.le_refl _) ⟨⟨rfl, CI_draft hI h1 h2 hm2, fun c x hc => h2 c x (by omega)⟩, rfl⟩
theorem k_H_size (hg : pm_gok 48 g) (hB : pm_base b) (hI : CI_ n ch L dm σ) : pm_C b (d + 30) km_H_size [pm_R 0] g σ τ 0 0 (pm_Rd (nI n) σ τ) := by
  have h4 := hI.env.1
  have hw := hI.w
  have h8 := hw.1
  show pm_Y b (d + 29 + 1) km_H_size 0 false [some (pm_R 0)] [] g σ τ 0 0 0 0 _
  refine pm_aload_n d_H_size_0 rfl ?_
  refine pm_getr d_H_size_1 hf_H_10 (hg.s rfl) (hg.i (by decide)) rfl (hg.r (by decide) rfl) ?_
  refine pm_callR (i := 1) (ci := 1) (rest := []) [] hB d_H_size_4 hc_H_46 (k_W_count hg h4) (hg.s rfl) (hg.i (by decide)) rfl rfl rfl rfl (Nat.le_of_ble_eq_true rfl) (Nat.le_of_ble_eq_true rfl) (by omega) (by omega) ?_
  exact pm_ireturn d_H_size_7 rfl (fun h => h) (Nat.le_refl _) (Nat.le_refl _) ⟨rfl, rfl, rfl⟩
theorem k_H_blocking (hg : pm_gok 48 g) (hB : pm_base b) (hI : CI_ n ch L dm σ) : pm_C b (d + 30) km_H_blocking [pm_R 0] g σ τ 0 0 (pm_Rd (nI (cb_ (fun l h => wb_ L l h (dm l) (dm h)) n n)) σ τ) := by
  have h4 := hI.env.1
  have hw := hI.w
  have h8 := hw.1
  show pm_Y b (d + 29 + 1) km_H_blocking 0 false [some (pm_R 0)] [] g σ τ 0 0 0 0 _
  refine pm_aload_n d_H_blocking_0 rfl ?_
  refine pm_getr d_H_blocking_1 hf_H_21 (hg.s rfl) (hg.i (by decide)) rfl (hg.r (by decide) rfl) ?_
  refine pm_callR (i := 30) (ci := 2) (rest := []) [] hB d_H_blocking_4 hc_H_97 (pm_C_up (show 0 + 1 ≤ d + 29 by omega) (k_D_countBlocking hg hB hw h4 hI.env.2.2 hI.2.2.2.1 hI.m)) (hg.s rfl) (hg.i (by decide)) rfl rfl rfl rfl (Nat.le_of_ble_eq_true rfl) (Nat.le_of_ble_eq_true rfl) (by omega) (by omega) ?_
  exact pm_ireturn d_H_blocking_7 rfl (fun h => h) (Nat.le_refl _) (Nat.le_refl _) ⟨rfl, rfl, rfl⟩
theorem k_H_astray (hg : pm_gok 48 g) (hB : pm_base b) (hI : CI_ n ch L dm σ) : pm_C b (d + 30) km_H_astray [pm_R 0] g σ τ 0 0 (pm_Rd (nI 0) σ τ) := by
  have h4 := hI.env.1
  have hw := hI.w
  have h8 := hw.1
  show pm_Y b (d + 29 + 1) km_H_astray 0 false [some (pm_R 0)] [] g σ τ 0 0 0 0 _
  refine pm_aload_n d_H_astray_0 rfl ?_
  refine pm_getr d_H_astray_1 hf_H_21 (hg.s rfl) (hg.i (by decide)) rfl (hg.r (by decide) rfl) ?_
  refine pm_callR (i := 30) (ci := 2) (rest := []) [] hB d_H_astray_4 hc_H_133 (pm_C_up (show 0 + 2 ≤ d + 29 by omega) (k_D_countAstray hg hB hw h4 hI.env.2.2 hI.2.2.2.1 hI.2.2.1)) (hg.s rfl) (hg.i (by decide)) rfl rfl rfl rfl (Nat.le_of_ble_eq_true rfl) (Nat.le_of_ble_eq_true rfl) (by omega) (by omega) ?_
  exact pm_ireturn d_H_astray_7 rfl (fun h => h) (Nat.le_refl _) (Nat.le_refl _) ⟨rfl, rfl, rfl⟩
theorem k_H_partner (hg : pm_gok 48 g) (hB : pm_base b) (hI : CI_ n ch L dm σ) (hp : p < n) : pm_C b (d + 30) km_H_partner [pm_R 0, pm_I (nI p)] g σ τ 0 0 (pm_Rd (nI (dm p)) σ τ) := by
  have h4 := hI.env.1
  have hw := hI.w
  have h8 := hw.1
  show pm_Y b (d + 29 + 1) km_H_partner 0 false [some (pm_R 0), some (pm_I (nI p))] [] g σ τ 0 0 0 0 _
  refine pm_aload_n d_H_partner_0 rfl ?_
  refine pm_iload_n d_H_partner_1 rfl ?_
  refine pm_callRv (i := 0) (ci := 0) (rest := []) [pm_I (nI p)] hB d_H_partner_2 hc_H_68 (pm_C_up (show 0 + 1 ≤ d + 29 by omega) (k_H_demandPerson hg hB h4 h8 hp)) (hg.s rfl) (hg.i (by decide)) rfl rfl rfl rfl (Nat.le_of_ble_eq_true rfl) (Nat.le_of_ble_eq_true rfl) (by omega) (by omega) ?_
  refine pm_aload_n d_H_partner_5 rfl ?_
  refine pm_getr d_H_partner_6 hf_H_21 (hg.s rfl) (hg.i (by decide)) rfl (hg.r (by decide) rfl) ?_
  refine pm_iload_n d_H_partner_9 rfl ?_
  refine pm_callR (i := 30) (ci := 2) (rest := []) [pm_I (nI p)] hB d_H_partner_10 hc_H_100 (k_D_mateOf hg hI.2.2.2.1 (by omega)) (hg.s rfl) (hg.i (by decide)) rfl rfl rfl rfl (Nat.le_of_ble_eq_true rfl) (Nat.le_of_ble_eq_true rfl) (by omega) (by omega) ?_
  exact pm_ireturn d_H_partner_13 rfl (fun h => h) (Nat.le_refl _) (Nat.le_refl _) ⟨rfl, rfl, rfl⟩
theorem k_H_place (hg : pm_gok 48 g) (hB : pm_base b) (hI : CI_ n ch L dm σ) (hp : p < n) (hq : q < n) : pm_C b (d + 30) km_H_place [pm_R 0, pm_I (nI p), pm_I (nI q)] g σ τ 0 0 (pm_Rd (pl_ L p q) σ τ) := by
  have h4 := hI.env.1
  have hw := hI.w
  have h8 := hw.1
  show pm_Y b (d + 29 + 1) km_H_place 0 false [some (pm_R 0), some (pm_I (nI p)), some (pm_I (nI q))] [] g σ τ 0 0 0 0 _
  refine pm_aload_n d_H_place_0 rfl ?_
  refine pm_iload_n d_H_place_1 rfl ?_
  refine pm_iload_n d_H_place_2 rfl ?_
  refine pm_callRv (i := 0) (ci := 0) (rest := []) [pm_I (nI p), pm_I (nI q)] hB d_H_place_3 hc_H_50 (pm_C_up (show 0 + 2 ≤ d + 29 by omega) (k_H_demandPersons hg hB h4 h8 hp hq)) (hg.s rfl) (hg.i (by decide)) rfl rfl rfl rfl (Nat.le_of_ble_eq_true rfl) (Nat.le_of_ble_eq_true rfl) (by omega) (by omega) ?_
  refine pm_aload_n d_H_place_6 rfl ?_
  refine pm_getr d_H_place_7 hf_H_10 (hg.s rfl) (hg.i (by decide)) rfl (hg.r (by decide) rfl) ?_
  refine pm_iload_n d_H_place_10 rfl ?_
  refine pm_iload_n d_H_place_11 rfl ?_
  refine pm_callR (i := 1) (ci := 1) (rest := []) [pm_I (nI p), pm_I (nI q)] hB d_H_place_12 hc_H_54 (k_W_placeOf hg hI.env.2.1 (by omega) (by omega)) (hg.s rfl) (hg.i (by decide)) rfl rfl rfl rfl (Nat.le_of_ble_eq_true rfl) (Nat.le_of_ble_eq_true rfl) (by omega) (by omega) ?_
  exact pm_ireturn d_H_place_15 rfl (fun h => h) (Nat.le_refl _) (Nat.le_refl _) ⟨rfl, rfl, rfl⟩
theorem k_H_at (hg : pm_gok 48 g) (hB : pm_base b) (hI : CI_ n ch L dm σ) (hp : p < n) (hi : i < (L p).length) : pm_C b (d + 30) km_H_at [pm_R 0, pm_I (nI p), pm_I (nI i)] g σ τ 0 0 (pm_Rd (nI ((L p).getD i 0)) σ τ) := by
  have h4 := hI.env.1
  have hw := hI.w
  have h8 := hw.1
  have h7 := wf_l hw hp
  show pm_Y b (d + 29 + 1) km_H_at 0 false [some (pm_R 0), some (pm_I (nI p)), some (pm_I (nI i))] [] g σ τ 0 0 0 0 _
  refine pm_aload_n d_H_at_0 rfl ?_
  refine pm_iload_n d_H_at_1 rfl ?_
  refine pm_callRv (i := 0) (ci := 0) (rest := []) [pm_I (nI p)] hB d_H_at_2 hc_H_68 (pm_C_up (show 0 + 1 ≤ d + 29 by omega) (k_H_demandPerson hg hB h4 h8 hp)) (hg.s rfl) (hg.i (by decide)) rfl rfl rfl rfl (Nat.le_of_ble_eq_true rfl) (Nat.le_of_ble_eq_true rfl) (by omega) (by omega) ?_
  refine pm_iload_n d_H_at_5 rfl ?_
  refine pm_if_ge_t 17 d_H_at_6 rfl (Int32.not_lt.mp (nI_nn (by omega))) ?_
  refine pm_iload_n d_H_at_17 rfl ?_
  refine pm_aload_n d_H_at_18 rfl ?_
  refine pm_getr d_H_at_19 hf_H_10 (hg.s rfl) (hg.i (by decide)) rfl (hg.r (by decide) rfl) ?_
  refine pm_iload_n d_H_at_22 rfl ?_
  refine pm_callR (i := 1) (ci := 1) (rest := [pm_I (nI i)]) [pm_I (nI p)] hB d_H_at_23 hc_H_64 (k_W_length hg hI.env.2.1 (by omega)) (hg.s rfl) (hg.i (by decide)) rfl rfl rfl rfl (Nat.le_of_ble_eq_true rfl) (Nat.le_of_ble_eq_true rfl) (by omega) (by omega) ?_
  refine pm_icmp_ge_f 41 d_H_at_26 rfl (fun z => by have := (nI_leI (by omega) (by omega)).mp z; omega) ?_
  refine pm_aload_n d_H_at_29 rfl ?_
  refine pm_getr d_H_at_30 hf_H_10 (hg.s rfl) (hg.i (by decide)) rfl (hg.r (by decide) rfl) ?_
  refine pm_iload_n d_H_at_33 rfl ?_
  refine pm_iload_n d_H_at_34 rfl ?_
  refine pm_callR (i := 1) (ci := 1) (rest := []) [pm_I (nI p), pm_I (nI i)] hB d_H_at_35 hc_H_74 (k_W_otherAt hg hI.env.2.1 (by omega) hi (by omega)) (hg.s rfl) (hg.i (by decide)) rfl rfl rfl rfl (Nat.le_of_ble_eq_true rfl) (Nat.le_of_ble_eq_true rfl) (by omega) (by omega) ?_
  refine pm_goto 42 d_H_at_38 rfl ?_
  exact pm_ireturn d_H_at_42 rfl (fun h => h) (Nat.le_refl _) (Nat.le_refl _) ⟨rfl, rfl, rfl⟩
theorem k_H_at2 (hg : pm_gok 48 g) (hB : pm_base b) (hI : CI_ n ch L dm σ) (hp : p < n) (h0 : ¬ x < 0) (hx : nI (L p).length ≤ x) : pm_C b (d + 30) km_H_at [pm_R 0, pm_I (nI p), pm_I x] g σ τ 0 0 (pm_Rd (-1) σ τ) := by
  have h4 := hI.env.1
  have hw := hI.w
  have h8 := hw.1
  show pm_Y b (d + 29 + 1) km_H_at 0 false [some (pm_R 0), some (pm_I (nI p)), some (pm_I x)] [] g σ τ 0 0 0 0 _
  refine pm_aload_n d_H_at_0 rfl ?_
  refine pm_iload_n d_H_at_1 rfl ?_
  refine pm_callRv (i := 0) (ci := 0) (rest := []) [pm_I (nI p)] hB d_H_at_2 hc_H_68 (pm_C_up (show 0 + 1 ≤ d + 29 by omega) (k_H_demandPerson hg hB h4 h8 hp)) (hg.s rfl) (hg.i (by decide)) rfl rfl rfl rfl (Nat.le_of_ble_eq_true rfl) (Nat.le_of_ble_eq_true rfl) (by omega) (by omega) ?_
  refine pm_iload_n d_H_at_5 rfl ?_
  refine pm_if_ge_t 17 d_H_at_6 rfl (Int32.not_lt.mp h0) ?_
  refine pm_iload_n d_H_at_17 rfl ?_
  refine pm_aload_n d_H_at_18 rfl ?_
  refine pm_getr d_H_at_19 hf_H_10 (hg.s rfl) (hg.i (by decide)) rfl (hg.r (by decide) rfl) ?_
  refine pm_iload_n d_H_at_22 rfl ?_
  refine pm_callR (i := 1) (ci := 1) (rest := [pm_I x]) [pm_I (nI p)] hB d_H_at_23 hc_H_64 (k_W_length hg hI.env.2.1 (by omega)) (hg.s rfl) (hg.i (by decide)) rfl rfl rfl rfl (Nat.le_of_ble_eq_true rfl) (Nat.le_of_ble_eq_true rfl) (by omega) (by omega) ?_
  refine pm_icmp_ge_t 41 d_H_at_26 rfl hx ?_
  refine pm_iconst' (-1) d_H_at_41 (by decide) ?_
  exact pm_ireturn d_H_at_42 rfl (fun h => h) (Nat.le_refl _) (Nat.le_refl _) ⟨rfl, rfl, rfl⟩
theorem wb_pos (hw : rh_wf n L) (hp : p < n) {x y : Nat} (h : wb_ L p q x y = true) (hx : rh_rk L p x ≤ 8) : rh_rk L p q < 8 := by
  unfold wb_ at h
  simp only [Bool.and_eq_true, decide_eq_true_eq] at h
  omega
theorem md_sf (hw : rh_wf n L) (h : md_ n L dm) {r : Option (Nat × Nat)} (hr : fp_ (fun l h => wb_ L l h (dm l) (dm h)) n r) : md_ n L (sf_d dm r) := by
  cases r with
  | none => exact h
  | some lh =>
    obtain ⟨l, k⟩ := lh
    obtain ⟨h1, h2, h3, -⟩ := hr
    have h8 := hw.1
    refine md_jn hw h (by omega) h2 (by omega) (wb_pos hw (by omega) h3 ?_)
    by_cases e : dm l = l
    · rw [e, rh_rk_self]; exact Nat.le_refl 8
    · have := (h.2 l (by omega) e).2.2
      omega
theorem k_H_satisfy (hg : pm_gok 48 g) (hB : pm_base b) (hI : CI_ n ch L dm σ) : pm_C b (d + 30) km_H_satisfy [pm_R 0] g σ τ 0 0 (pm_Wp (fun v σ' => ∃ r, fp_ (fun l h => wb_ L l h (dm l) (dm h)) n r ∧ v = some (sf_v r) ∧ CI_ n ch L (sf_d dm r) σ' ∧ hfr_ σ σ') τ) := by
  have h4 := hI.env.1
  have hw := hI.w
  have h8 := hw.1
  show pm_Y b (d + 29 + 1) km_H_satisfy 0 false [some (pm_R 0)] [] g σ τ 0 0 0 0 _
  refine pm_aload_n d_H_satisfy_0 rfl ?_
  refine pm_getr d_H_satisfy_1 hf_H_21 (hg.s rfl) (hg.i (by decide)) rfl (hg.r (by decide) rfl) ?_
  refine pm_callWp (i := 30) (ci := 2) (rest := []) [] hB d_H_satisfy_4 hc_H_103 (pm_C_up (show 0 + 2 ≤ d + 29 by omega) (k_D_joinFirstBlocking hg hB hw h4 hI.env.2.2 hI.2.2.2.1 hI.m)) (hg.s rfl) (hg.i (by decide)) rfl rfl rfl rfl (Nat.le_of_ble_eq_true rfl) (Nat.le_of_ble_eq_true rfl) (by omega) (by omega) (fun v4 σ₁ hv4 hq4 => ?_)
  obtain ⟨r, h1, rfl, h2, h3⟩ := hq4
  show pm_Y b _ km_H_satisfy 7 true [some (pm_R 0)] [pm_I (sf_v r)] g σ₁ τ 0 0 0 0 _
  exact pm_ireturn d_H_satisfy_7 rfl (fun _ => rfl) (Nat.le_refl _) (Nat.le_refl _) ⟨⟨r, h1, rfl, CI_draft hI h2 h3 (md_sf hw hI.2.2.1 h1), fun c x hc => h3 c x (by omega)⟩, rfl⟩
theorem k_H_matchings (hg : pm_gok 48 g) (hB : pm_base b) (hI : CI_ n ch L dm σ) (hc : ch < 2 ^ 31) : pm_C b (d + 30) km_H_matchings [pm_R 0] g σ τ 0 0 (pm_Wp (fun v σ' => v = some (nI (SA_ n L).1) ∧ CI_ n ch L dm σ' ∧ hfr_ σ σ') τ) := by
  have h4 := hI.env.1
  have hw := hI.w
  have h8 := hw.1
  show pm_Y b (d + 29 + 1) km_H_matchings 0 false [some (pm_R 0)] [] g σ τ 0 0 0 0 _
  refine pm_aload_n d_H_matchings_0 rfl ?_
  refine pm_getr d_H_matchings_1 hf_H_28 (hg.s rfl) (hg.i (by decide)) rfl (hg.r (by decide) rfl) ?_
  refine pm_callWp (i := 32) (ci := 3) (rest := []) [] hB d_H_matchings_4 hc_H_106 (pm_C_up (show 0 + 21 ≤ d + 29 by omega) (k_S_howMany hg hB hw hI.env hI.c hc hI.2.2.2.2.1)) (hg.s rfl) (hg.i (by decide)) rfl rfl rfl rfl (Nat.le_of_ble_eq_true rfl) (Nat.le_of_ble_eq_true rfl) (by omega) (by omega) (fun v4 σ₁ hv4 hq4 => ?_)
  obtain ⟨rfl, h1⟩ := hq4
  show pm_Y b _ km_H_matchings 7 true [some (pm_R 0)] [pm_I (nI (SA_ n L).1)] g σ₁ τ 0 0 0 0 _
  exact pm_ireturn d_H_matchings_7 rfl (fun _ => rfl) (Nat.le_refl _) (Nat.le_refl _) ⟨⟨rfl, CI_sp hI h1⟩, rfl⟩
theorem k_H_matched (hg : pm_gok 48 g) (hB : pm_base b) (hI : CI_ n ch L dm σ) (hc : ch < 2 ^ 31) (hp : p < n) : pm_C b (d + 30) km_H_matched [pm_R 0, pm_I (nI p)] g σ τ 0 0 (pm_Wp (fun v σ' => v = some (if (SA_ n L).1 = 0 then -1 else nI ((SA_ n L).2.2 p)) ∧ CI_ n ch L dm σ' ∧ hfr_ σ σ') τ) := by
  have h4 := hI.env.1
  have hw := hI.w
  have h8 := hw.1
  show pm_Y b (d + 29 + 1) km_H_matched 0 false [some (pm_R 0), some (pm_I (nI p))] [] g σ τ 0 0 0 0 _
  refine pm_aload_n d_H_matched_0 rfl ?_
  refine pm_iload_n d_H_matched_1 rfl ?_
  refine pm_callRv (i := 0) (ci := 0) (rest := []) [pm_I (nI p)] hB d_H_matched_2 hc_H_68 (pm_C_up (show 0 + 1 ≤ d + 29 by omega) (k_H_demandPerson hg hB h4 h8 hp)) (hg.s rfl) (hg.i (by decide)) rfl rfl rfl rfl (Nat.le_of_ble_eq_true rfl) (Nat.le_of_ble_eq_true rfl) (by omega) (by omega) ?_
  refine pm_aload_n d_H_matched_5 rfl ?_
  refine pm_getr d_H_matched_6 hf_H_28 (hg.s rfl) (hg.i (by decide)) rfl (hg.r (by decide) rfl) ?_
  refine pm_iload_n d_H_matched_9 rfl ?_
  refine pm_callWp (i := 32) (ci := 3) (rest := []) [pm_I (nI p)] hB d_H_matched_10 hc_H_109 (pm_C_up (show 0 + 21 ≤ d + 29 by omega) (k_S_mateInFirst hg hB hw hI.env hI.c hc hI.2.2.2.2.1 hp)) (hg.s rfl) (hg.i (by decide)) rfl rfl rfl rfl (Nat.le_of_ble_eq_true rfl) (Nat.le_of_ble_eq_true rfl) (by omega) (by omega) (fun v10 σ₁ hv10 hq10 => ?_)
  obtain ⟨rfl, h1⟩ := hq10
  show pm_Y b _ km_H_matched 13 true [some (pm_R 0), some (pm_I (nI p))] [pm_I (if (SA_ n L).1 = 0 then -1 else nI ((SA_ n L).2.2 p))] g σ₁ τ 0 0 0 0 _
  exact pm_ireturn d_H_matched_13 rfl (fun _ => rfl) (Nat.le_refl _) (Nat.le_refl _) ⟨⟨rfl, CI_sp hI h1⟩, rfl⟩
theorem k_H_together (hg : pm_gok 48 g) (hB : pm_base b) (hI : CI_ n ch L dm σ) (hc : ch < 2 ^ 31) (hp : p < n) (hq : q < n) : pm_C b (d + 30) km_H_together [pm_R 0, pm_I (nI p), pm_I (nI q)] g σ τ 0 0 (pm_Wp (fun v σ' => v = some (nI ((SA_ n L).2.1 p q)) ∧ CI_ n ch L dm σ' ∧ hfr_ σ σ') τ) := by
  have h4 := hI.env.1
  have hw := hI.w
  have h8 := hw.1
  show pm_Y b (d + 29 + 1) km_H_together 0 false [some (pm_R 0), some (pm_I (nI p)), some (pm_I (nI q))] [] g σ τ 0 0 0 0 _
  refine pm_aload_n d_H_together_0 rfl ?_
  refine pm_iload_n d_H_together_1 rfl ?_
  refine pm_iload_n d_H_together_2 rfl ?_
  refine pm_callRv (i := 0) (ci := 0) (rest := []) [pm_I (nI p), pm_I (nI q)] hB d_H_together_3 hc_H_50 (pm_C_up (show 0 + 2 ≤ d + 29 by omega) (k_H_demandPersons hg hB h4 h8 hp hq)) (hg.s rfl) (hg.i (by decide)) rfl rfl rfl rfl (Nat.le_of_ble_eq_true rfl) (Nat.le_of_ble_eq_true rfl) (by omega) (by omega) ?_
  refine pm_aload_n d_H_together_6 rfl ?_
  refine pm_getr d_H_together_7 hf_H_28 (hg.s rfl) (hg.i (by decide)) rfl (hg.r (by decide) rfl) ?_
  refine pm_iload_n d_H_together_10 rfl ?_
  refine pm_iload_n d_H_together_11 rfl ?_
  refine pm_callWp (i := 32) (ci := 3) (rest := []) [pm_I (nI p), pm_I (nI q)] hB d_H_together_12 hc_H_118 (pm_C_up (show 0 + 21 ≤ d + 29 by omega) (k_S_howOften hg hB hw hI.env hI.c hc hI.2.2.2.2.1 (by omega) (by omega))) (hg.s rfl) (hg.i (by decide)) rfl rfl rfl rfl (Nat.le_of_ble_eq_true rfl) (Nat.le_of_ble_eq_true rfl) (by omega) (by omega) (fun v12 σ₁ hv12 hq12 => ?_)
  obtain ⟨rfl, h1⟩ := hq12
  show pm_Y b _ km_H_together 15 true [some (pm_R 0), some (pm_I (nI p)), some (pm_I (nI q))] [pm_I (nI ((SA_ n L).2.1 p q))] g σ₁ τ 0 0 0 0 _
  exact pm_ireturn d_H_together_15 rfl (fun _ => rfl) (Nat.le_refl _) (Nat.le_refl _) ⟨⟨rfl, CI_sp hI h1⟩, rfl⟩
theorem k_H_party (hg : pm_gok 48 g) (hB : pm_base b) (hI : CI_ n ch L dm σ) (hc : ch < 2 ^ 31) (hp : p < n) : pm_C b (d + 30) km_H_party [pm_R 0, pm_I (nI p)] g σ τ 0 0 (pm_Wp (fun v σ' => v = some (nI (od_ n L p)) ∧ CI_ n ch L dm σ' ∧ hfr_ σ σ') τ) := by
  have h4 := hI.env.1
  have hw := hI.w
  have h8 := hw.1
  show pm_Y b (d + 29 + 1) km_H_party 0 false [some (pm_R 0), some (pm_I (nI p))] [] g σ τ 0 0 0 0 _
  refine pm_aload_n d_H_party_0 rfl ?_
  refine pm_iload_n d_H_party_1 rfl ?_
  refine pm_callRv (i := 0) (ci := 0) (rest := []) [pm_I (nI p)] hB d_H_party_2 hc_H_68 (pm_C_up (show 0 + 1 ≤ d + 29 by omega) (k_H_demandPerson hg hB h4 h8 hp)) (hg.s rfl) (hg.i (by decide)) rfl rfl rfl rfl (Nat.le_of_ble_eq_true rfl) (Nat.le_of_ble_eq_true rfl) (by omega) (by omega) ?_
  refine pm_aload_n d_H_party_5 rfl ?_
  refine pm_getr d_H_party_6 hf_H_35 (hg.s rfl) (hg.i (by decide)) rfl (hg.r (by decide) rfl) ?_
  refine pm_iload_n d_H_party_9 rfl ?_
  refine pm_callWp (i := 44) (ci := 4) (rest := []) [pm_I (nI p)] hB d_H_party_10 hc_H_121 (pm_C_up (show 0 + 22 ≤ d + 29 by omega) (k_P_oddSize hg hB hw hI.env hI.c hc hI.2.2.2.2.2 hp)) (hg.s rfl) (hg.i (by decide)) rfl rfl rfl rfl (Nat.le_of_ble_eq_true rfl) (Nat.le_of_ble_eq_true rfl) (by omega) (by omega) (fun v10 σ₁ hv10 hq10 => ?_)
  obtain ⟨rfl, h1⟩ := hq10
  show pm_Y b _ km_H_party 13 true [some (pm_R 0), some (pm_I (nI p))] [pm_I (nI (od_ n L p))] g σ₁ τ 0 0 0 0 _
  exact pm_ireturn d_H_party_13 rfl (fun _ => rfl) (Nat.le_refl _) (Nat.le_refl _) ⟨⟨rfl, CI_pq hI h1⟩, rfl⟩
theorem k_H_next (hg : pm_gok 48 g) (hB : pm_base b) (hI : CI_ n ch L dm σ) (hc : ch < 2 ^ 31) (hp : p < n) : pm_C b (d + 30) km_H_next [pm_R 0, pm_I (nI p)] g σ τ 0 0 (pm_Wp (fun v σ' => v = some (if od_ n L p = 0 then -1 else nI (F_ n L p)) ∧ CI_ n ch L dm σ' ∧ hfr_ σ σ') τ) := by
  have h4 := hI.env.1
  have hw := hI.w
  have h8 := hw.1
  show pm_Y b (d + 29 + 1) km_H_next 0 false [some (pm_R 0), some (pm_I (nI p))] [] g σ τ 0 0 0 0 _
  refine pm_aload_n d_H_next_0 rfl ?_
  refine pm_iload_n d_H_next_1 rfl ?_
  refine pm_callRv (i := 0) (ci := 0) (rest := []) [pm_I (nI p)] hB d_H_next_2 hc_H_68 (pm_C_up (show 0 + 1 ≤ d + 29 by omega) (k_H_demandPerson hg hB h4 h8 hp)) (hg.s rfl) (hg.i (by decide)) rfl rfl rfl rfl (Nat.le_of_ble_eq_true rfl) (Nat.le_of_ble_eq_true rfl) (by omega) (by omega) ?_
  refine pm_aload_n d_H_next_5 rfl ?_
  refine pm_getr d_H_next_6 hf_H_35 (hg.s rfl) (hg.i (by decide)) rfl (hg.r (by decide) rfl) ?_
  refine pm_iload_n d_H_next_9 rfl ?_
  refine pm_callWp (i := 44) (ci := 4) (rest := []) [pm_I (nI p)] hB d_H_next_10 hc_H_124 (pm_C_up (show 0 + 22 ≤ d + 29 by omega) (k_P_follower hg hB hw hI.env hI.c hc hI.2.2.2.2.2 hp)) (hg.s rfl) (hg.i (by decide)) rfl rfl rfl rfl (Nat.le_of_ble_eq_true rfl) (Nat.le_of_ble_eq_true rfl) (by omega) (by omega) (fun v10 σ₁ hv10 hq10 => ?_)
  obtain ⟨rfl, h1⟩ := hq10
  show pm_Y b _ km_H_next 13 true [some (pm_R 0), some (pm_I (nI p))] [pm_I (if od_ n L p = 0 then -1 else nI (F_ n L p))] g σ₁ τ 0 0 0 0 _
  exact pm_ireturn d_H_next_13 rfl (fun _ => rfl) (Nat.le_refl _) (Nat.le_refl _) ⟨⟨rfl, CI_pq hI h1⟩, rfl⟩
theorem k_H_extreme (hg : pm_gok 48 g) (hB : pm_base b) (hI : CI_ n ch L dm σ) (hc : ch < 2 ^ 31) (hp : p < n) : pm_C b (d + 30) km_H_extreme [pm_R 0, pm_I (nI p), pm_I x] g σ τ 0 0 (pm_Wp (fun v σ' => v = some (if x = 0 then oI (best_ n L p) else oI (worst_ n L p)) ∧ CI_ n ch L dm σ' ∧ hfr_ σ σ') τ) := by
  have h4 := hI.env.1
  have hw := hI.w
  have h8 := hw.1
  show pm_Y b (d + 29 + 1) km_H_extreme 0 false [some (pm_R 0), some (pm_I (nI p)), some (pm_I x)] [] g σ τ 0 0 0 0 _
  by_cases z9 : x = 0
  · refine pm_aload_n d_H_extreme_0 rfl ?_
    refine pm_iload_n d_H_extreme_1 rfl ?_
    refine pm_callRv (i := 0) (ci := 0) (rest := []) [pm_I (nI p)] hB d_H_extreme_2 hc_H_68 (pm_C_up (show 0 + 1 ≤ d + 29 by omega) (k_H_demandPerson hg hB h4 h8 hp)) (hg.s rfl) (hg.i (by decide)) rfl rfl rfl rfl (Nat.le_of_ble_eq_true rfl) (Nat.le_of_ble_eq_true rfl) (by omega) (by omega) ?_
    refine pm_iload_n d_H_extreme_5 rfl ?_
    refine pm_if_eq_t 20 d_H_extreme_6 rfl z9 ?_
    refine pm_aload_n d_H_extreme_20 rfl ?_
    refine pm_getr d_H_extreme_21 hf_H_28 (hg.s rfl) (hg.i (by decide)) rfl (hg.r (by decide) rfl) ?_
    refine pm_iload_n d_H_extreme_24 rfl ?_
    refine pm_callWp (i := 32) (ci := 3) (rest := []) [pm_I (nI p)] hB d_H_extreme_25 hc_H_115 (pm_C_up (show 0 + 21 ≤ d + 29 by omega) (k_S_bestMate hg hB hw hI.env hI.c hc hI.2.2.2.2.1 hp)) (hg.s rfl) (hg.i (by decide)) rfl rfl rfl rfl (Nat.le_of_ble_eq_true rfl) (Nat.le_of_ble_eq_true rfl) (by omega) (by omega) (fun v25 σ₁ hv25 hq25 => ?_)
    obtain ⟨rfl, h1⟩ := hq25
    show pm_Y b _ km_H_extreme 28 true [some (pm_R 0), some (pm_I (nI p)), some (pm_I x)] [pm_I (oI (best_ n L p))] g σ₁ τ 0 0 0 0 _
    exact pm_ireturn d_H_extreme_28 rfl (fun _ => rfl) (Nat.le_refl _) (Nat.le_refl _) ⟨⟨by rw [if_pos z9], CI_sp hI h1⟩, rfl⟩
  · refine pm_aload_n d_H_extreme_0 rfl ?_
    refine pm_iload_n d_H_extreme_1 rfl ?_
    refine pm_callRv (i := 0) (ci := 0) (rest := []) [pm_I (nI p)] hB d_H_extreme_2 hc_H_68 (pm_C_up (show 0 + 1 ≤ d + 29 by omega) (k_H_demandPerson hg hB h4 h8 hp)) (hg.s rfl) (hg.i (by decide)) rfl rfl rfl rfl (Nat.le_of_ble_eq_true rfl) (Nat.le_of_ble_eq_true rfl) (by omega) (by omega) ?_
    refine pm_iload_n d_H_extreme_5 rfl ?_
    refine pm_if_eq_f 20 d_H_extreme_6 rfl z9 ?_
    refine pm_aload_n d_H_extreme_9 rfl ?_
    refine pm_getr d_H_extreme_10 hf_H_28 (hg.s rfl) (hg.i (by decide)) rfl (hg.r (by decide) rfl) ?_
    refine pm_iload_n d_H_extreme_13 rfl ?_
    refine pm_callWp (i := 32) (ci := 3) (rest := []) [pm_I (nI p)] hB d_H_extreme_14 hc_H_112 (pm_C_up (show 0 + 21 ≤ d + 29 by omega) (k_S_worstMate hg hB hw hI.env hI.c hc hI.2.2.2.2.1 hp)) (hg.s rfl) (hg.i (by decide)) rfl rfl rfl rfl (Nat.le_of_ble_eq_true rfl) (Nat.le_of_ble_eq_true rfl) (by omega) (by omega) (fun v14 σ₁ hv14 hq14 => ?_)
    obtain ⟨rfl, h1⟩ := hq14
    show pm_Y b _ km_H_extreme 17 true [some (pm_R 0), some (pm_I (nI p)), some (pm_I x)] [pm_I (oI (worst_ n L p))] g σ₁ τ 0 0 0 0 _
    refine pm_goto 28 d_H_extreme_17 rfl ?_
    exact pm_ireturn d_H_extreme_28 rfl (fun _ => rfl) (Nat.le_refl _) (Nat.le_refl _) ⟨⟨by rw [if_neg z9], CI_sp hI h1⟩, rfl⟩
theorem k_H_parties (hg : pm_gok 48 g) (hB : pm_base b) (hI : CI_ n ch L dm σ) (hc : ch < 2 ^ 31) : pm_C b (d + 30) km_H_parties [pm_R 0, pm_I x] g σ τ 0 0 (pm_Wp (fun v σ' => v = some (if x = 0 then nI (oc_ n L 1 n) else nI (oc_ n L 3 n)) ∧ CI_ n ch L dm σ' ∧ hfr_ σ σ') τ) := by
  have h4 := hI.env.1
  have hw := hI.w
  have h8 := hw.1
  show pm_Y b (d + 29 + 1) km_H_parties 0 false [some (pm_R 0), some (pm_I x)] [] g σ τ 0 0 0 0 _
  by_cases z9 : x = 0
  · refine pm_iload_n d_H_parties_0 rfl ?_
    refine pm_if_eq_t 14 d_H_parties_1 rfl z9 ?_
    refine pm_aload_n d_H_parties_14 rfl ?_
    refine pm_getr d_H_parties_15 hf_H_35 (hg.s rfl) (hg.i (by decide)) rfl (hg.r (by decide) rfl) ?_
    refine pm_callWp (i := 44) (ci := 4) (rest := []) [] hB d_H_parties_18 hc_H_130 (pm_C_up (show 0 + 22 ≤ d + 29 by omega) (k_P_countOdd hg hB hw hI.env hI.c hc hI.2.2.2.2.2)) (hg.s rfl) (hg.i (by decide)) rfl rfl rfl rfl (Nat.le_of_ble_eq_true rfl) (Nat.le_of_ble_eq_true rfl) (by omega) (by omega) (fun v18 σ₁ hv18 hq18 => ?_)
    obtain ⟨rfl, h1⟩ := hq18
    show pm_Y b _ km_H_parties 21 true [some (pm_R 0), some (pm_I x)] [pm_I (nI (oc_ n L 1 n))] g σ₁ τ 0 0 0 0 _
    exact pm_ireturn d_H_parties_21 rfl (fun _ => rfl) (Nat.le_refl _) (Nat.le_refl _) ⟨⟨by rw [if_pos z9], CI_pq hI h1⟩, rfl⟩
  · refine pm_iload_n d_H_parties_0 rfl ?_
    refine pm_if_eq_f 14 d_H_parties_1 rfl z9 ?_
    refine pm_aload_n d_H_parties_4 rfl ?_
    refine pm_getr d_H_parties_5 hf_H_35 (hg.s rfl) (hg.i (by decide)) rfl (hg.r (by decide) rfl) ?_
    refine pm_callWp (i := 44) (ci := 4) (rest := []) [] hB d_H_parties_8 hc_H_127 (pm_C_up (show 0 + 22 ≤ d + 29 by omega) (k_P_countOddRings hg hB hw hI.env hI.c hc hI.2.2.2.2.2)) (hg.s rfl) (hg.i (by decide)) rfl rfl rfl rfl (Nat.le_of_ble_eq_true rfl) (Nat.le_of_ble_eq_true rfl) (by omega) (by omega) (fun v8 σ₁ hv8 hq8 => ?_)
    obtain ⟨rfl, h1⟩ := hq8
    show pm_Y b _ km_H_parties 11 true [some (pm_R 0), some (pm_I x)] [pm_I (nI (oc_ n L 3 n))] g σ₁ τ 0 0 0 0 _
    refine pm_goto 21 d_H_parties_11 rfl ?_
    exact pm_ireturn d_H_parties_21 rfl (fun _ => rfl) (Nat.le_refl _) (Nat.le_refl _) ⟨⟨by rw [if_neg z9], CI_pq hI h1⟩, rfl⟩
end H2
