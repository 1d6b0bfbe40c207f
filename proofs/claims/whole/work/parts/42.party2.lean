/-! parties: their sizes; how many are odd -/
theorem pm_iremN {b : pB} {d : Nat} {k : pK} {pc : Nat} {f : Bool} {lo : List (Option pV)} {st : List pV} {g : pG} {σ : pI} {τ : pJ} {cu su mc ms : Nat} {E : pE} {x y : Nat} (hd : decode k.2.1 pc = .ok (.irem, 1)) (hx : x < 2 ^ 31) (h0 : 0 < y) (hy : y < 2 ^ 31) (K : pm_Y b d k (pc + 1) f lo (pm_I (nI (x % y)) :: st) g σ τ cu su mc ms E) : pm_Y b d k pc f lo (pm_I (nI y) :: pm_I (nI x) :: st) g σ τ cu su mc ms E := by
  rw [← pk_rem hx h0 hy] at K
  exact pm_irem hd (nI_ne0 h0 hy) K
noncomputable def PM_ (n : Nat) (L : Nat → List Nat) : List Nat := ((rh_ext L n []).filter (rh_pt n L)).headD []
noncomputable def F_ (n : Nat) (L : Nat → List Nat) (p : Nat) : Nat := (PM_ n L).getD p 0
theorem PM_pt {n : Nat} {L : Nat → List Nat} (hw : rh_wf n L) : rh_PT n L (PM_ n L) := by
  obtain ⟨m, t, h⟩ := rh_pt_ex hw
  unfold PM_
  rw [h]
  have hm : m ∈ (rh_ext L n []).filter (rh_pt n L) := by rw [h]; exact List.mem_cons_self
  exact rh_pt_iff.mp (List.mem_filter.mp hm).2
theorem F_lt {n : Nat} {L : Nat → List Nat} (hw : rh_wf n L) : ∀ p, p < n → F_ n L p < n := fun p hp => ((PM_pt hw).1 p hp).2
theorem F_inj {n : Nat} {L : Nat → List Nat} (hw : rh_wf n L) : ∀ p q, p < n → q < n → F_ n L p = F_ n L q → p = q := fun p q hp hq h => (PM_pt hw).2.1 p q hp hq h
theorem PM_search {n : Nat} {L : Nat → List Nat} (hw : rh_wf n L) : ∃ fo le, ps_search n L (rh_rk L) n 0 (fun _ => none) (fun _ => none) = some (fo, le) ∧ ∀ p, p < n → fo p = some (F_ n L p) := by
  have h := ps_all hw
  obtain ⟨m, t, hm⟩ := rh_pt_ex hw
  have e : PM_ n L = m := by unfold PM_; rw [hm]; rfl
  rw [hm] at h
  obtain ⟨fo, le, h1, h2⟩ := h
  refine ⟨fo, le, h1, fun p hp => ?_⟩
  rw [h2 p hp]
  unfold F_
  rw [e]
noncomputable def sz_ (n : Nat) (L : Nat → List Nat) (p : Nat) : Nat := Classical.epsilon fun k => cy_is (F_ n L) p k
theorem sz_is {n : Nat} {L : Nat → List Nat} (hw : rh_wf n L) {p : Nat} (hp : p < n) : cy_is (F_ n L) p (sz_ n L p) ∧ sz_ n L p ≤ n := by
  obtain ⟨k, h1, h2⟩ := cy_ex (F_lt hw) (F_inj hw) hp
  have h3 : cy_is (F_ n L) p (sz_ n L p) := Classical.epsilon_spec (p := fun k => cy_is (F_ n L) p k) ⟨k, h2⟩
  exact ⟨h3, by rw [cy_one h3 h2]; exact h1⟩
noncomputable def od_ (n : Nat) (L : Nat → List Nat) (p : Nat) : Nat := if sz_ n L p % 2 = 1 then sz_ n L p else 0
/-- p is the least of an odd party of at least s -/
noncomputable def ls_ (n : Nat) (L : Nat → List Nat) (s p : Nat) : Nat := @ite _ (sz_ n L p % 2 = 1 ∧ cy_least (F_ n L) p (sz_ n L p) ∧ s ≤ sz_ n L p) (Classical.propDecidable _) 1 0
noncomputable def oc_ (n : Nat) (L : Nat → List Nat) (s i : Nat) : Nat := ex_sum (ls_ n L s) i
theorem ls_1 {n : Nat} {L : Nat → List Nat} {s p : Nat} (h : sz_ n L p % 2 = 1 ∧ cy_least (F_ n L) p (sz_ n L p) ∧ s ≤ sz_ n L p) : ls_ n L s p = 1 := by unfold ls_; exact if_pos h
theorem ls_0 {n : Nat} {L : Nat → List Nat} {s p : Nat} (h : ¬ (sz_ n L p % 2 = 1 ∧ cy_least (F_ n L) p (sz_ n L p) ∧ s ≤ sz_ n L p)) : ls_ n L s p = 0 := by unfold ls_; exact if_neg h
def ci_F (n : Nat) (F : Nat → Nat) (σ : pI) : Prop := ∀ p, p < n → σ 45 p = nI (F p)
section P2
variable {b : pB} {g : pG} {σ : pI} {τ : pJ} {d p n : Nat} {L : Nat → List Nat}
theorem l_P_sizeRound_9 (hg : pm_gok 48 g) (hw : rh_wf n L) (hF : ci_F n (F_ n L) σ) (hp : p < n) : ∀ (m s : Nat), s + m = 9 → 1 ≤ s → s ≤ 8 → (∀ j, 1 ≤ j → j < s → cy_it (F_ n L) j p ≠ p) → pm_Y b d km_P_sizeRound 9 false [some (pm_R 44), some (pm_I (nI p)), some (pm_I (nI s)), some (pm_I (nI (cy_it (F_ n L) s p)))] [] g σ τ 0 0 0 0 (pm_Rd (nI (sz_ n L p)) σ τ)
  | 0, s, hm, h1, h8s, hI => by omega
  | m + 1, s, hm, h1, h8s, hI => by
    have h8 := hw.1
    have hp8 : p < 8 := by omega
    have hcy := cy_it_lt (F_lt hw) hp s
    refine pm_iload_n d_P_sizeRound_9 rfl ?_
    refine pm_iload_n d_P_sizeRound_10 rfl ?_
    refine pm_icmp_eqN 33 d_P_sizeRound_11 rfl (by omega) (by omega) (fun c11 => ?_) (fun c11 => ?_)
    · refine pm_iload_n d_P_sizeRound_33 rfl ?_
      exact pm_ireturn d_P_sizeRound_34 rfl (fun h => h) (Nat.le_refl _) (Nat.le_refl _) ⟨by rw [cy_one (sz_is hw hp).1 ⟨h1, c11, hI⟩], rfl, rfl⟩
    · refine pm_iload_n d_P_sizeRound_14 rfl ?_
      refine pm_bipush' (nI 8) d_P_sizeRound_15 (by decide) ?_
      refine pm_icmp_geN 33 d_P_sizeRound_17 rfl (by omega) (by omega) (fun c17 => ?_) (fun c17 => ?_)
      · refine pm_iload_n d_P_sizeRound_33 rfl ?_
        exact pm_ireturn d_P_sizeRound_34 rfl (fun h => h) (Nat.le_refl _) (Nat.le_refl _) ⟨by
        have hs := (sz_is hw hp).1
        have hk := (sz_is hw hp).2
        have h9 : s ≤ sz_ n L p := Nat.le_of_not_lt fun z => hI _ hs.1 z hs.2.1
        rw [show sz_ n L p = s by omega], rfl, rfl⟩
      · refine pm_aload_n d_P_sizeRound_20 rfl ?_
        refine pm_getr d_P_sizeRound_21 hf_P_9 (hg.s rfl) (hg.i (by decide)) rfl (hg.r (by decide) rfl) ?_
        refine pm_iload_n d_P_sizeRound_24 rfl ?_
        refine pm_iaload' (cy_it (F_ n L) s p) (nI (F_ n L (cy_it (F_ n L) s p))) d_P_sizeRound_25 (hg.s rfl) (hg.i (by decide)) rfl (by have := cy_it_lt (F_lt hw) hp s; omega) (by decide) (hF _ (cy_it_lt (F_lt hw) hp s)) ?_
        refine pm_istore_n d_P_sizeRound_26 (by decide) ?_
        refine pm_iinc' (nI (s + 1)) d_P_sizeRound_27 (by decide) rfl (pm_inc _) ?_
        refine pm_goto 9 d_P_sizeRound_30 rfl ?_
        -- at 9: lo=[some (pm_R 44), some (pm_I (nI p)), some (pm_I (nI (s + 1))), some (pm_I (nI (F_ n L (cy_it (F_ n L) s p))))] st=[]
        exact l_P_sizeRound_9 hg hw hF hp m (s + 1) (by omega) (by omega) (by omega) (fun j h1 h2 => by
        by_cases e : j = s
        · rw [e]; exact c11
        · exact hI j h1 (by omega))
theorem k_P_sizeRound (hg : pm_gok 48 g) (hw : rh_wf n L) (hF : ci_F n (F_ n L) σ) (hp : p < n) : pm_C b d km_P_sizeRound [pm_R 44, pm_I (nI p)] g σ τ 0 0 (pm_Rd (nI (sz_ n L p)) σ τ) := by
  have h8 := hw.1
  have hp8 : p < 8 := by omega
  show pm_Y b d km_P_sizeRound 0 false [some (pm_R 44), some (pm_I (nI p)), none, none] [] g σ τ 0 0 0 0 _
  refine pm_iconst' (nI 1) d_P_sizeRound_0 (by decide) ?_
  refine pm_istore_n d_P_sizeRound_1 (by decide) ?_
  refine pm_aload_n d_P_sizeRound_2 rfl ?_
  refine pm_getr d_P_sizeRound_3 hf_P_9 (hg.s rfl) (hg.i (by decide)) rfl (hg.r (by decide) rfl) ?_
  refine pm_iload_n d_P_sizeRound_6 rfl ?_
  refine pm_iaload' p (nI (F_ n L p)) d_P_sizeRound_7 (hg.s rfl) (hg.i (by decide)) rfl hp8 (by decide) (hF p hp) ?_
  refine pm_istore_n d_P_sizeRound_8 (by decide) ?_
  -- at 9: lo=[some (pm_R 44), some (pm_I (nI p)), some (pm_I (nI 1)), some (pm_I (nI (F_ n L p)))] st=[]
  exact l_P_sizeRound_9 hg hw hF hp 8 1 rfl (by omega) (by omega) (fun j h1 h2 => by omega)
/-- odd and rings, as they are counted -/
def cp_ (σ₀ : pI) (x y : Nat) (σ : pI) : Prop := σ 44 4 = nI x ∧ σ 44 5 = nI y ∧ ∀ c i, ¬ (c = 44 ∧ (i = 4 ∨ i = 5)) → σ c i = σ₀ c i
theorem k_P_countParty {x y : Nat} (hg : pm_gok 48 g) (hw : rh_wf n L) (hF : ci_F n (F_ n L) σ) (hp : p < n) (hodd : sz_ n L p % 2 = 1) (hx : σ 44 4 = nI x) (hy : σ 44 5 = nI y) : pm_C b d km_P_countParty [pm_R 44, pm_I (nI p), pm_I (nI (sz_ n L p))] g σ τ 0 0 (pm_Wp (fun v σ' => v = none ∧ cp_ σ (x + ls_ n L 1 p) (y + ls_ n L 3 p) σ') τ) := by
  have h8 := hw.1
  have hp8 : p < 8 := by omega
  have hsz := (sz_is hw hp).1
  have hszn := (sz_is hw hp).2
  have hsz1 := hsz.1
  show pm_Y b d km_P_countParty 0 false [some (pm_R 44), some (pm_I (nI p)), some (pm_I (nI (sz_ n L p))), none, none] [] g σ τ 0 0 0 0 _
  refine pm_iload_n d_P_countParty_0 rfl ?_
  refine pm_istore_n d_P_countParty_1 (by decide) ?_
  refine pm_iconst' (nI 1) d_P_countParty_2 (by decide) ?_
  refine pm_istore d_P_countParty_3 (by decide) ?_
  refine pm_flag ?_
  refine pm_for (sz_ n L p - 1) (fun s (_ : Unit) => pm_Y b d km_P_countParty 5 true [some (pm_R 44), some (pm_I (nI p)), some (pm_I (nI (sz_ n L p))), some (pm_I (nI (cy_it (F_ n L) s p))), some (pm_I (nI (s + 1)))] [] g σ τ 0 0 0 0 (pm_Wp (fun v σ' => v = none ∧ cp_ σ (x + ls_ n L 1 p) (y + ls_ n L 3 p) σ') τ)) (fun s _ => ∀ j, 1 ≤ j → j ≤ s → p < cy_it (F_ n L) j p) (fun s _ hs hI ih => ?_) (fun _ hI => ?_) (sz_ n L p - 1) 0 () (by omega) (fun j h1 h2 => by omega)
  · have hcy := cy_it_lt (F_lt hw) hp s
    have hcy2 := F_lt hw _ hcy
    refine pm_iload d_P_countParty_5 rfl ?_
    refine pm_iload_n d_P_countParty_7 rfl ?_
    refine pm_icmp_ge_f 30 d_P_countParty_8 rfl (by rw [nI_leI (by omega) (by omega)]; omega) ?_
    refine pm_aload_n d_P_countParty_11 rfl ?_
    refine pm_getr d_P_countParty_12 hf_P_9 (hg.s rfl) (hg.i (by decide)) rfl (hg.r (by decide) rfl) ?_
    refine pm_iload_n d_P_countParty_15 rfl ?_
    refine pm_iaload' (cy_it (F_ n L) s p) (nI (F_ n L (cy_it (F_ n L) s p))) d_P_countParty_16 (hg.s rfl) (hg.i (by decide)) rfl (by omega) (by decide) (hF _ hcy) ?_
    refine pm_istore_n d_P_countParty_17 (by decide) ?_
    refine pm_iload_n d_P_countParty_18 rfl ?_
    refine pm_iload_n d_P_countParty_19 rfl ?_
    refine pm_icmp_geN 24 d_P_countParty_20 rfl (by omega) (by omega) (fun c20 => ?_) (fun c20 => ?_)
    · refine pm_iinc' (nI ((s + 1) + 1)) d_P_countParty_24 (by decide) rfl (pm_inc _) ?_
      refine pm_goto 5 d_P_countParty_27 rfl ?_
      -- at 5: lo=[some (pm_R 44), some (pm_I (nI p)), some (pm_I (nI (sz_ n L p))), some (pm_I (nI (F_ n L (cy_it (F_ n L) s p)))), some (pm_I (nI ((s + 1) + 1)))] st=[]
      exact ih () (fun j h1 h2 => by
        by_cases e : j = s + 1
        · subst e
          have h9 := hsz.2.2 (s + 1) (by omega) (by omega)
          have h9 : F_ n L (cy_it (F_ n L) s p) ≠ p := h9
          show p < F_ n L (cy_it (F_ n L) s p)
          omega
        · exact hI j h1 (by omega))
    · exact pm_return d_P_countParty_23 rfl (fun _ => rfl) (Nat.le_refl _) (Nat.le_refl _) ⟨⟨rfl, by
      have hno : ¬ cy_least (F_ n L) p (sz_ n L p) := fun z => by
        have h9 := z (s + 1) (by omega) (by omega)
        have h9 : p < F_ n L (cy_it (F_ n L) s p) := h9
        omega
      rw [ls_0 (fun z => hno z.2.1), ls_0 (fun z => hno z.2.1)]
      exact ⟨hx, hy, fun _ _ _ => rfl⟩⟩, rfl⟩
  · have hls : cy_least (F_ n L) p (sz_ n L p) := fun j h1 h2 => hI j h1 (by omega)
    rw [show sz_ n L p - 1 + 1 = sz_ n L p by omega]
    generalize some (pm_I (nI (cy_it (F_ n L) (sz_ n L p - 1) p))) = l3
    refine pm_iload d_P_countParty_5 rfl ?_
    refine pm_iload_n d_P_countParty_7 rfl ?_
    refine pm_icmp_ge_t 30 d_P_countParty_8 rfl (by rw [nI_leI (by omega) (by omega)]; omega) ?_
    refine pm_aload_n d_P_countParty_30 rfl ?_
    refine pm_dup d_P_countParty_31 rfl ?_
    refine pm_geti' (nI x) d_P_countParty_32 hf_P_32 (hg.s rfl) (hg.i (by decide)) rfl hx ?_
    refine pm_iconst' (nI 1) d_P_countParty_35 (by decide) ?_
    refine pm_iaddN d_P_countParty_36 ?_
    refine pm_puti d_P_countParty_37 hp_P_32 (hg.s rfl) (hg.i (by decide)) rfl ?_
    refine pm_iload_n d_P_countParty_40 rfl ?_
    refine pm_iconst' (nI 3) d_P_countParty_41 (by decide) ?_
    refine pm_icmp_ltN 55 d_P_countParty_42 rfl (by omega) (by omega) (fun c42 => ?_) (fun c42 => ?_)
    · exact pm_return d_P_countParty_55 rfl (fun _ => rfl) (Nat.le_refl _) (Nat.le_refl _) ⟨⟨rfl, by
        rw [ls_1 ⟨hodd, hls, by omega⟩, ls_0 (fun z => by omega)]
        exact ⟨pm_up_at, by rw [pm_up_ne (by omega)]; exact hy, fun c i h => pm_up_ne (by omega)⟩⟩, rfl⟩
    · refine pm_aload_n d_P_countParty_45 rfl ?_
      refine pm_dup d_P_countParty_46 rfl ?_
      refine pm_geti' (nI y) d_P_countParty_47 hf_P_35 (hg.s rfl) (hg.i (by decide)) rfl (by rw [pm_up_ne (by omega)]; exact hy) ?_
      refine pm_iconst' (nI 1) d_P_countParty_50 (by decide) ?_
      refine pm_iaddN d_P_countParty_51 ?_
      refine pm_puti d_P_countParty_52 hp_P_35 (hg.s rfl) (hg.i (by decide)) rfl ?_
      exact pm_return d_P_countParty_55 rfl (fun _ => rfl) (Nat.le_refl _) (Nat.le_refl _) ⟨⟨rfl, by
        rw [ls_1 ⟨hodd, hls, by omega⟩, ls_1 ⟨hodd, hls, by omega⟩]
        exact ⟨by rw [pm_up_ne (by omega), pm_up_at], pm_up_at, fun c i h => by rw [pm_up_ne (by omega), pm_up_ne (by omega)]⟩⟩, rfl⟩
def ma_ (n : Nat) (L : Nat → List Nat) (σ₀ : pI) (i : Nat) (σ : pI) : Prop := (∀ p, p < i → σ 47 p = nI (od_ n L p)) ∧ (∀ p, i ≤ p → σ 47 p = σ₀ 47 p) ∧ σ 44 4 = nI (oc_ n L 1 i) ∧ σ 44 5 = nI (oc_ n L 3 i) ∧ ∀ c x, c ≠ 47 → ¬ (c = 44 ∧ (x = 4 ∨ x = 5)) → σ c x = σ₀ c x
theorem k_P_measureAll (hg : pm_gok 48 g) (hB : pm_base b) (hw : rh_wf n L) (h4 : σ 1 4 = nI n) (hF : ci_F n (F_ n L) σ) (h0 : ∀ p, p < 8 → σ 47 p = nI 0) (hx : σ 44 4 = nI 0) (hy : σ 44 5 = nI 0) : pm_C b (d + 1) km_P_measureAll [pm_R 44] g σ τ 0 0 (pm_Wp (fun v σ' => v = none ∧ ma_ n L σ n σ') τ) := by
  have h8 := hw.1
  show pm_Y b (d + 1) km_P_measureAll 0 false [some (pm_R 44), none, none] [] g σ τ 0 0 0 0 _
  refine pm_iconst' (nI 0) d_P_measureAll_0 (by decide) ?_
  refine pm_istore_n d_P_measureAll_1 (by decide) ?_
  refine pm_flag ?_
  refine pm_for n (fun i σ₂ => ∀ l2 : Option pV, pm_Y b (d + 1) km_P_measureAll 2 true [some (pm_R 44), some (pm_I (nI i)), l2] [] g σ₂ τ 0 0 0 0 (pm_Wp (fun v σ' => v = none ∧ ma_ n L σ n σ') τ)) (ma_ n L σ) (fun i σ₂ hi hI ih l2 => ?_) (fun σ₂ hI l2 => ?_) n 0 σ (by omega) ⟨fun p hp => absurd hp (Nat.not_lt_zero p), fun _ _ => rfl, hx, hy, fun _ _ _ _ => rfl⟩ none
  · have h4' : σ₂ 1 4 = nI n := by rw [hI.2.2.2.2 1 4 (by omega) (by omega)]; exact h4
    have hF2 : ci_F n (F_ n L) σ₂ := fun p hp => by rw [hI.2.2.2.2 45 p (by omega) (by omega)]; exact hF p hp
    have hszn := (sz_is hw hi).2
    refine pm_iload_n d_P_measureAll_2 rfl ?_
    refine pm_aload_n d_P_measureAll_3 rfl ?_
    refine pm_getr d_P_measureAll_4 hf_P_25 (hg.s rfl) (hg.i (by decide)) rfl (hg.r (by decide) rfl) ?_
    refine pm_callR (i := 1) (ci := 1) (rest := [pm_I (nI i)]) [] hB d_P_measureAll_7 hc_P_51 (k_W_count hg h4') (hg.s rfl) (hg.i (by decide)) rfl rfl rfl rfl (Nat.le_of_ble_eq_true rfl) (Nat.le_of_ble_eq_true rfl) (by omega) (by omega) ?_
    refine pm_icmp_ge_f 45 d_P_measureAll_10 rfl (by rw [nI_leI (by omega) (by omega)]; omega) ?_
    refine pm_aload_n d_P_measureAll_13 rfl ?_
    refine pm_iload_n d_P_measureAll_14 rfl ?_
    refine pm_callR (i := 44) (ci := 4) (rest := []) [pm_I (nI i)] hB d_P_measureAll_15 hc_P_80 (k_P_sizeRound hg hw hF2 hi) (hg.s rfl) (hg.i (by decide)) rfl rfl rfl rfl (Nat.le_of_ble_eq_true rfl) (Nat.le_of_ble_eq_true rfl) (by omega) (by omega) ?_
    refine pm_istore_n d_P_measureAll_18 (by decide) ?_
    refine pm_iload_n d_P_measureAll_19 rfl ?_
    refine pm_iconst' (nI 2) d_P_measureAll_20 (by decide) ?_
    refine pm_iremN d_P_measureAll_21 (by omega) (by omega) (by omega) ?_
    refine pm_iconst' (nI 1) d_P_measureAll_22 (by decide) ?_
    refine pm_icmp_neN 39 d_P_measureAll_23 rfl (by omega) (by omega) (fun c23 => ?_) (fun c23 => ?_)
    · refine pm_iinc' (nI (i + 1)) d_P_measureAll_39 (by decide) rfl (pm_inc _) ?_
      refine pm_goto 2 d_P_measureAll_42 rfl ?_
      -- at 2: lo=[some (pm_R 44), some (pm_I (nI (i + 1))), some (pm_I (nI (sz_ n L i)))] st=[]
      exact ih _ ⟨fun p hp => by
        by_cases e : p = i
        · subst e
          rw [hI.2.1 p (Nat.le_refl _), h0 p (by omega)]
          unfold od_
          rw [if_neg c23]
        · exact hI.1 p (by omega), fun p hp => hI.2.1 p (by omega), by rw [hI.2.2.1]; show nI (oc_ n L 1 i) = nI (oc_ n L 1 i + ls_ n L 1 i); rw [ls_0 (fun z => c23 z.1)]; rfl, by rw [hI.2.2.2.1]; show nI (oc_ n L 3 i) = nI (oc_ n L 3 i + ls_ n L 3 i); rw [ls_0 (fun z => c23 z.1)]; rfl, hI.2.2.2.2⟩ _
    · refine pm_aload_n d_P_measureAll_26 rfl ?_
      refine pm_getr d_P_measureAll_27 hf_P_18 (hg.s rfl) (hg.i (by decide)) rfl (hg.r (by decide) rfl) ?_
      refine pm_iload_n d_P_measureAll_30 rfl ?_
      refine pm_iload_n d_P_measureAll_31 rfl ?_
      refine pm_iastore i d_P_measureAll_32 (hg.s rfl) (hg.i (by decide)) rfl (by omega) (by decide) ?_
      refine pm_aload_n d_P_measureAll_33 rfl ?_
      refine pm_iload_n d_P_measureAll_34 rfl ?_
      refine pm_iload_n d_P_measureAll_35 rfl ?_
      have hF3 : ci_F n (F_ n L) (pm_up σ₂ 47 i (nI (sz_ n L i))) := fun p hp => by rw [pm_up_ne (by omega)]; exact hF2 p hp
      have h44 : (pm_up σ₂ 47 i (nI (sz_ n L i))) 44 4 = nI (oc_ n L 1 i) := by rw [pm_up_ne (by omega)]; exact hI.2.2.1
      have h45 : (pm_up σ₂ 47 i (nI (sz_ n L i))) 44 5 = nI (oc_ n L 3 i) := by rw [pm_up_ne (by omega)]; exact hI.2.2.2.1
      refine pm_callWp (i := 44) (ci := 4) (rest := []) [pm_I (nI i), pm_I (nI (sz_ n L i))] hB d_P_measureAll_36 hc_P_83 (k_P_countParty (x := oc_ n L 1 i) (y := oc_ n L 3 i) hg hw hF3 hi c23 h44 h45) (hg.s rfl) (hg.i (by decide)) rfl rfl rfl rfl (Nat.le_of_ble_eq_true rfl) (Nat.le_of_ble_eq_true rfl) (by omega) (by omega) (fun v36 σ₃ hv36 hq36 => ?_)
      obtain ⟨rfl, hcp⟩ := hq36
      show pm_Y b _ km_P_measureAll 39 true [some (pm_R 44), some (pm_I (nI i)), some (pm_I (nI (sz_ n L i)))] [] g σ₃ τ 0 0 0 0 _
      refine pm_iinc' (nI (i + 1)) d_P_measureAll_39 (by decide) rfl (pm_inc _) ?_
      refine pm_goto 2 d_P_measureAll_42 rfl ?_
      -- at 2: lo=[some (pm_R 44), some (pm_I (nI (i + 1))), some (pm_I (nI (sz_ n L i)))] st=[]
      exact ih _ ⟨fun p hp => by
        rw [hcp.2.2 47 p (by omega)]
        by_cases e : p = i
        · subst e; rw [pm_up_at]; unfold od_; rw [if_pos c23]
        · rw [pm_up_ne (by omega)]; exact hI.1 p (by omega), fun p hp => by rw [hcp.2.2 47 p (by omega), pm_up_ne (by omega)]; exact hI.2.1 p (by omega), hcp.1, hcp.2.1, fun c x h1 h2 => by rw [hcp.2.2 c x h2, pm_up_ne (by omega)]; exact hI.2.2.2.2 c x h1 h2⟩ _
  · have h4' : σ₂ 1 4 = nI n := by rw [hI.2.2.2.2 1 4 (by omega) (by omega)]; exact h4
    refine pm_iload_n d_P_measureAll_2 rfl ?_
    refine pm_aload_n d_P_measureAll_3 rfl ?_
    refine pm_getr d_P_measureAll_4 hf_P_25 (hg.s rfl) (hg.i (by decide)) rfl (hg.r (by decide) rfl) ?_
    refine pm_callR (i := 1) (ci := 1) (rest := [pm_I (nI n)]) [] hB d_P_measureAll_7 hc_P_51 (k_W_count hg h4') (hg.s rfl) (hg.i (by decide)) rfl rfl rfl rfl (Nat.le_of_ble_eq_true rfl) (Nat.le_of_ble_eq_true rfl) (by omega) (by omega) ?_
    refine pm_icmp_ge_t 45 d_P_measureAll_10 rfl (by rw [nI_leI (by omega) (by omega)]; omega) ?_
    exact pm_return d_P_measureAll_45 rfl (fun _ => rfl) (Nat.le_refl _) (Nat.le_refl _) ⟨⟨rfl, hI⟩, rfl⟩
end P2
