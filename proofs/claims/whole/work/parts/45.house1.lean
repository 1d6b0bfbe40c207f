/-! the house's own methods -/
theorem nI_nn {k : Nat} (h : k < 2 ^ 31) : ¬ nI k < 0 := by
  have h1 := mt (nI_ltI h (show 0 < 2 ^ 31 by decide)).mp (Nat.not_lt_zero k)
  exact h1
/-- out of bounds -/
abbrev ob_ (n : Nat) (x : Int32) : Prop := x < 0 ∨ nI n ≤ x
theorem iv_in {n : Nat} (hn : n < 2 ^ 31) {x : Int32} (h : ¬ ob_ n x) : ∃ p, p < n ∧ x = nI p := by
  unfold ob_ at h
  have h1 : ¬ x < 0 := fun z => h (Or.inl z)
  have h2 : ¬ nI n ≤ x := fun z => h (Or.inr z)
  rw [Int32.lt_iff_toInt_lt] at h1
  rw [Int32.le_iff_toInt_le, nI_toInt hn] at h2
  have h0 : (0 : Int32).toInt = 0 := rfl
  rw [h0] at h1
  refine ⟨x.toInt.toNat, by omega, ?_⟩
  apply Int32.toInt_inj.mp
  rw [nI_toInt (by omega)]
  omega
theorem ob_not {n p : Nat} (hn : n < 2 ^ 31) (h : p < n) : ¬ ob_ n (nI p) := by
  intro z
  rcases z with z | z
  · exact nI_nn (by omega) z
  · have := (nI_leI hn (by omega)).mp z
    omega
theorem ob_nlt {n : Nat} {x : Int32} (h : nI n ≤ x) : ¬ x < nI n := by
  rw [Int32.le_iff_toInt_le] at h
  rw [Int32.lt_iff_toInt_lt]
  omega
section H1
variable {b : pB} {g : pG} {σ : pI} {τ : pJ} {d n ch p q i j : Nat} {x y z : Int32} {L : Nat → List Nat} {dm : Nat → Nat}
theorem k_H_demandPerson (hg : pm_gok 48 g) (hB : pm_base b) (h4 : σ 1 4 = nI n) (hn : n ≤ 8) (hp : p < n) : pm_C b (d + 1) km_H_demandPerson [pm_R 0, pm_I (nI p)] g σ τ 0 0 (pm_Rv σ τ) := by
  show pm_Y b (d + 1) km_H_demandPerson 0 false [some (pm_R 0), some (pm_I (nI p))] [] g σ τ 0 0 0 0 _
  refine pm_iload_n d_H_demandPerson_0 rfl ?_
  refine pm_if_lt_f 15 d_H_demandPerson_1 rfl (nI_nn (by omega)) ?_
  refine pm_iload_n d_H_demandPerson_4 rfl ?_
  refine pm_aload_n d_H_demandPerson_5 rfl ?_
  refine pm_getr d_H_demandPerson_6 hf_H_10 (hg.s rfl) (hg.i (by decide)) rfl (hg.r (by decide) rfl) ?_
  refine pm_callR (i := 1) (ci := 1) (rest := [pm_I (nI p)]) [] hB d_H_demandPerson_9 hc_H_46 (k_W_count hg h4) (hg.s rfl) (hg.i (by decide)) rfl rfl rfl rfl (Nat.le_of_ble_eq_true rfl) (Nat.le_of_ble_eq_true rfl) (by omega) (by omega) ?_
  refine pm_icmp_lt_t 23 d_H_demandPerson_12 rfl ((nI_ltI (by omega) (by omega)).mpr hp) ?_
  exact pm_return d_H_demandPerson_23 rfl (fun h => h) (Nat.le_refl _) (Nat.le_refl _) ⟨rfl, rfl, rfl⟩
theorem x_H_demandPerson (hg : pm_gok 48 g) (hB : pm_base b) (hX : pm_baseX b) (h4 : σ 1 4 = nI n) (hx : ob_ n x) : pm_C b (d + 1) km_H_demandPerson [pm_R 0, pm_I x] g σ τ 1 6 (.inr (.inl "java/lang/IndexOutOfBoundsException")) := by
  show pm_Y b (d + 1) km_H_demandPerson 0 false [some (pm_R 0), some (pm_I x)] [] g σ τ 0 0 1 6 _
  by_cases e : x < 0
  · have hx := e
    refine pm_iload_n d_H_demandPerson_0 rfl ?_
    refine pm_if_lt_t 15 d_H_demandPerson_1 rfl hx ?_
    exact pm_throw hX d_H_demandPerson_15 d_H_demandPerson_18 d_H_demandPerson_19 d_H_demandPerson_22 hx_H_87 rfl (Nat.le_of_ble_eq_true rfl) (by omega) (by omega)
  · have hx := hx.resolve_left e
    refine pm_iload_n d_H_demandPerson_0 rfl ?_
    refine pm_if_lt_f 15 d_H_demandPerson_1 rfl e ?_
    refine pm_iload_n d_H_demandPerson_4 rfl ?_
    refine pm_aload_n d_H_demandPerson_5 rfl ?_
    refine pm_getr d_H_demandPerson_6 hf_H_10 (hg.s rfl) (hg.i (by decide)) rfl (hg.r (by decide) rfl) ?_
    refine pm_callR (i := 1) (ci := 1) (rest := [pm_I x]) [] hB d_H_demandPerson_9 hc_H_46 (k_W_count hg h4) (hg.s rfl) (hg.i (by decide)) rfl rfl rfl rfl (Nat.le_of_ble_eq_true rfl) (Nat.le_of_ble_eq_true rfl) (by omega) (by omega) ?_
    refine pm_icmp_lt_f 23 d_H_demandPerson_12 rfl (ob_nlt hx) ?_
    exact pm_throw hX d_H_demandPerson_15 d_H_demandPerson_18 d_H_demandPerson_19 d_H_demandPerson_22 hx_H_87 rfl (Nat.le_of_ble_eq_true rfl) (by omega) (by omega)
theorem k_H_demandPlace (hg : pm_gok 48 g) (hB : pm_base b) (hL : ci_L L σ) (h7 : (L p).length ≤ 7) (hp8 : p < 8) (hi : i < (L p).length) : pm_C b (d + 1) km_H_demandPlace [pm_R 0, pm_I (nI p), pm_I (nI i)] g σ τ 0 0 (pm_Rv σ τ) := by
  show pm_Y b (d + 1) km_H_demandPlace 0 false [some (pm_R 0), some (pm_I (nI p)), some (pm_I (nI i))] [] g σ τ 0 0 0 0 _
  refine pm_iload_n d_H_demandPlace_0 rfl ?_
  refine pm_if_lt_f 16 d_H_demandPlace_1 rfl (nI_nn (by omega)) ?_
  refine pm_iload_n d_H_demandPlace_4 rfl ?_
  refine pm_aload_n d_H_demandPlace_5 rfl ?_
  refine pm_getr d_H_demandPlace_6 hf_H_10 (hg.s rfl) (hg.i (by decide)) rfl (hg.r (by decide) rfl) ?_
  refine pm_iload_n d_H_demandPlace_9 rfl ?_
  refine pm_callR (i := 1) (ci := 1) (rest := [pm_I (nI i)]) [pm_I (nI p)] hB d_H_demandPlace_10 hc_H_64 (k_W_length hg hL hp8) (hg.s rfl) (hg.i (by decide)) rfl rfl rfl rfl (Nat.le_of_ble_eq_true rfl) (Nat.le_of_ble_eq_true rfl) (by omega) (by omega) ?_
  refine pm_icmp_lt_t 24 d_H_demandPlace_13 rfl ((nI_ltI (by omega) (by omega)).mpr hi) ?_
  exact pm_return d_H_demandPlace_24 rfl (fun h => h) (Nat.le_refl _) (Nat.le_refl _) ⟨rfl, rfl, rfl⟩
theorem x_H_demandPlace (hg : pm_gok 48 g) (hB : pm_base b) (hX : pm_baseX b) (hL : ci_L L σ) (hp8 : p < 8) (hx : ob_ (L p).length x) : pm_C b (d + 1) km_H_demandPlace [pm_R 0, pm_I (nI p), pm_I x] g σ τ 1 6 (.inr (.inl "java/lang/IndexOutOfBoundsException")) := by
  show pm_Y b (d + 1) km_H_demandPlace 0 false [some (pm_R 0), some (pm_I (nI p)), some (pm_I x)] [] g σ τ 0 0 1 6 _
  by_cases e : x < 0
  · have hx := e
    refine pm_iload_n d_H_demandPlace_0 rfl ?_
    refine pm_if_lt_t 16 d_H_demandPlace_1 rfl hx ?_
    exact pm_throw hX d_H_demandPlace_16 d_H_demandPlace_19 d_H_demandPlace_20 d_H_demandPlace_23 hx_H_87 rfl (Nat.le_of_ble_eq_true rfl) (by omega) (by omega)
  · have hx := hx.resolve_left e
    refine pm_iload_n d_H_demandPlace_0 rfl ?_
    refine pm_if_lt_f 16 d_H_demandPlace_1 rfl e ?_
    refine pm_iload_n d_H_demandPlace_4 rfl ?_
    refine pm_aload_n d_H_demandPlace_5 rfl ?_
    refine pm_getr d_H_demandPlace_6 hf_H_10 (hg.s rfl) (hg.i (by decide)) rfl (hg.r (by decide) rfl) ?_
    refine pm_iload_n d_H_demandPlace_9 rfl ?_
    refine pm_callR (i := 1) (ci := 1) (rest := [pm_I x]) [pm_I (nI p)] hB d_H_demandPlace_10 hc_H_64 (k_W_length hg hL hp8) (hg.s rfl) (hg.i (by decide)) rfl rfl rfl rfl (Nat.le_of_ble_eq_true rfl) (Nat.le_of_ble_eq_true rfl) (by omega) (by omega) ?_
    refine pm_icmp_lt_f 24 d_H_demandPlace_13 rfl (ob_nlt hx) ?_
    exact pm_throw hX d_H_demandPlace_16 d_H_demandPlace_19 d_H_demandPlace_20 d_H_demandPlace_23 hx_H_87 rfl (Nat.le_of_ble_eq_true rfl) (by omega) (by omega)
theorem k_H_demandPersons (hg : pm_gok 48 g) (hB : pm_base b) (h4 : σ 1 4 = nI n) (hn : n ≤ 8) (hp : p < n) (hq : q < n) : pm_C b (d + 2) km_H_demandPersons [pm_R 0, pm_I (nI p), pm_I (nI q)] g σ τ 0 0 (pm_Rv σ τ) := by
  show pm_Y b (d + 1 + 1) km_H_demandPersons 0 false [some (pm_R 0), some (pm_I (nI p)), some (pm_I (nI q))] [] g σ τ 0 0 0 0 _
  refine pm_aload_n d_H_demandPersons_0 rfl ?_
  refine pm_iload_n d_H_demandPersons_1 rfl ?_
  refine pm_callRv (i := 0) (ci := 0) (rest := []) [pm_I (nI p)] hB d_H_demandPersons_2 hc_H_68 (k_H_demandPerson hg hB h4 hn hp) (hg.s rfl) (hg.i (by decide)) rfl rfl rfl rfl (Nat.le_of_ble_eq_true rfl) (Nat.le_of_ble_eq_true rfl) (by omega) (by omega) ?_
  refine pm_aload_n d_H_demandPersons_5 rfl ?_
  refine pm_iload_n d_H_demandPersons_6 rfl ?_
  refine pm_callRv (i := 0) (ci := 0) (rest := []) [pm_I (nI q)] hB d_H_demandPersons_7 hc_H_68 (k_H_demandPerson hg hB h4 hn hq) (hg.s rfl) (hg.i (by decide)) rfl rfl rfl rfl (Nat.le_of_ble_eq_true rfl) (Nat.le_of_ble_eq_true rfl) (by omega) (by omega) ?_
  exact pm_return d_H_demandPersons_10 rfl (fun h => h) (Nat.le_refl _) (Nat.le_refl _) ⟨rfl, rfl, rfl⟩
theorem x_H_demandPersons (hg : pm_gok 48 g) (hB : pm_base b) (hX : pm_baseX b) (h4 : σ 1 4 = nI n) (hn : n ≤ 8) (hx : ob_ n x ∨ ob_ n y) : pm_C b (d + 2) km_H_demandPersons [pm_R 0, pm_I x, pm_I y] g σ τ 1 6 (.inr (.inl "java/lang/IndexOutOfBoundsException")) := by
  show pm_Y b (d + 1 + 1) km_H_demandPersons 0 false [some (pm_R 0), some (pm_I x), some (pm_I y)] [] g σ τ 0 0 1 6 _
  by_cases e : ob_ n x
  · refine pm_aload_n d_H_demandPersons_0 rfl ?_
    refine pm_iload_n d_H_demandPersons_1 rfl ?_
    exact pm_callVT (i := 0) (ci := 0) (rest := []) (vs := [pm_I x]) hB d_H_demandPersons_2 hc_H_68 (x_H_demandPerson hg hB hX h4 e) (hg.s rfl) (hg.i (by decide)) rfl rfl rfl rfl rfl (Nat.le_of_ble_eq_true rfl) (Nat.le_of_ble_eq_true rfl) (by omega) (by omega)
  · obtain ⟨p, hp, rfl⟩ := iv_in (show n < 2 ^ 31 by omega) e
    refine pm_aload_n d_H_demandPersons_0 rfl ?_
    refine pm_iload_n d_H_demandPersons_1 rfl ?_
    refine pm_callRv (i := 0) (ci := 0) (rest := []) [pm_I (nI p)] hB d_H_demandPersons_2 hc_H_68 (k_H_demandPerson hg hB h4 hn hp) (hg.s rfl) (hg.i (by decide)) rfl rfl rfl rfl (Nat.le_of_ble_eq_true rfl) (Nat.le_of_ble_eq_true rfl) (by omega) (by omega) ?_
    refine pm_aload_n d_H_demandPersons_5 rfl ?_
    refine pm_iload_n d_H_demandPersons_6 rfl ?_
    exact pm_callVT (i := 0) (ci := 0) (rest := []) (vs := [pm_I y]) hB d_H_demandPersons_7 hc_H_68 (x_H_demandPerson hg hB hX h4 (hx.resolve_left e)) (hg.s rfl) (hg.i (by decide)) rfl rfl rfl rfl rfl (Nat.le_of_ble_eq_true rfl) (Nat.le_of_ble_eq_true rfl) (by omega) (by omega)
end H1
