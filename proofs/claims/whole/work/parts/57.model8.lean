/-! the other side: what is learned -/
theorem gr_at0 {n : Nat} {L : Nat → List Nat} (w : Nat → Nat) : gr_ n L (fun _ => none) w 0 = rh_ext L n [] := by
  unfold gr_
  by_cases h : 0 < n
  · rw [if_pos h, ← gw_begin h rfl]
    show rh_ext L n [] ++ [] = _
    rw [List.append_nil]
  · have e : n = 0 := by omega
    subst e
    rw [if_neg h]
    rfl
def i0_ (σ₀ : pI) (i : Nat) (σ : pI) : Prop := (∀ k, k < i → σ 58 k = -1 ∧ σ 57 k = -1) ∧ ∀ c x, c ≠ 57 → c ≠ 58 → σ c x = σ₀ c x
theorem i0_s {σ₀ σ : pI} {i : Nat} (h : i0_ σ₀ i σ) : i0_ σ₀ (i + 1) (pm_up (pm_up σ 58 i (-1)) 57 i (-1)) := by
  refine ⟨fun k hk => ?_, fun c x h1 h2 => by rw [pm_up_ne (by omega), pm_up_ne (by omega)]; exact h.2 c x h1 h2⟩
  by_cases e : k = i
  · subst e; exact ⟨by rw [pm_up_ne (by omega), pm_up_at], pm_up_at⟩
  · have := h.1 k (by omega)
    exact ⟨by rw [pm_up_ne (by omega), pm_up_ne (by omega)]; exact this.1, by rw [pm_up_ne (by omega), pm_up_ne (by omega)]; exact this.2⟩
def rf_ (n : Nat) (L : Nat → List Nat) (σ₀ : pI) (i : Nat) (σ : pI) : Prop := (∀ p q, p < i → q < n → σ 59 (8 * p + q) = nI (rn_ (rh_rk L p q))) ∧ ∀ c x, c ≠ 59 → σ c x = σ₀ c x
def rr_ (L : Nat → List Nat) (σ₀ : pI) (p j : Nat) (σ : pI) : Prop := (∀ q, q < j → σ 59 (8 * p + q) = nI (rn_ (rh_rk L p q))) ∧ ∀ c x, ¬ (c = 59 ∧ 8 * p ≤ x ∧ x < 8 * p + 8) → σ c x = σ₀ c x
theorem rr_s {L : Nat → List Nat} {σ₀ σ : pI} {p j v : Nat} (h : rr_ L σ₀ p j σ) (hj : j < 8) (hv : v = rn_ (rh_rk L p j)) : rr_ L σ₀ p (j + 1) (pm_up σ 59 (8 * p + j) (nI v)) := by
  refine ⟨fun q hq => ?_, fun c x h1 => by rw [pm_up_ne (by omega)]; exact h.2 c x h1⟩
  by_cases e : q = j
  · rw [e, pm_up_at, hv]
  · rw [pm_up_ne (by omega)]; exact h.1 q (by omega)
theorem rn_8 {L : Nat → List Nat} (p : Nat) : 50 = rn_ (rh_rk L p p) := by rw [rh_rk_self]; rfl
theorem rn_in {n : Nat} {L : Nat → List Nat} (hw : rh_wf n L) {p q : Nat} (hp : p < n) (h : q ∈ L p ∧ p ∈ L q) : (L p).idxOf q = rn_ (rh_rk L p q) := by
  have h1 := (rh_rk_lt hw hp).mpr h
  have h2 : p ≠ q := fun z => ((hw.2.1 p hp).2 q h.1).2 z.symm
  have h3 : rh_rk L p q = (L p).idxOf q := by unfold rh_rk; rw [if_neg h2, if_pos h]
  unfold rn_
  rw [if_pos h1, h3]
theorem rn_out {L : Nat → List Nat} {p q : Nat} (h2 : p ≠ q) (h : ¬ (q ∈ L p ∧ p ∈ L q)) : 99 = rn_ (rh_rk L p q) := by
  have h3 : rh_rk L p q = 9 := by unfold rh_rk; rw [if_neg h2, if_neg h]
  rw [h3]; rfl
def ml_ (n : Nat) (L : Nat → List Nat) (σ : pI) : Prop := mA_ n (SA_ n L) σ ∧ (∀ p, p < n → σ 55 p = nI (od_ n L p)) ∧ (∀ p, p < n → σ 54 p = if od_ n L p = 0 then -1 else nI (F_ n L p)) ∧ σ 48 11 = nI (oc_ n L 1 n) ∧ σ 48 12 = nI (oc_ n L 3 n)
def lfr_ (σ₀ σ : pI) : Prop := ∀ c x, (c < 52 ∧ ¬ (c = 48 ∧ 5 ≤ x)) ∨ 60 ≤ c → σ c x = σ₀ c x
theorem od_0 {n : Nat} {L : Nat → List Nat} (hw : rh_wf n L) {p : Nat} (hp : p < n) : od_ n L p = 0 ↔ ¬ sz_ n L p % 2 = 1 := by
  have := (sz_is hw hp).1.1
  unfold od_
  by_cases e : sz_ n L p % 2 = 1
  · rw [if_pos e]; omega
  · rw [if_neg e]; exact ⟨fun _ => e, fun _ => rfl⟩
theorem tp_od {n : Nat} {L : Nat → List Nat} {σ : pI} (hw : rh_wf n L) (h : tp_ (F_ n L) (sz_ n L) n σ) : (∀ p, p < n → σ 55 p = nI (od_ n L p)) ∧ ∀ p, p < n → σ 54 p = if od_ n L p = 0 then -1 else nI (F_ n L p) :=
  ⟨fun p hp => (h p hp).1, fun p hp => by
    rw [(h p hp).2]
    by_cases e : sz_ n L p % 2 = 1
    · rw [if_pos e, if_neg (fun z => (od_0 hw hp).mp z e)]
    · rw [if_neg e, if_pos ((od_0 hw hp).mpr e)]⟩
section M8
variable {b : pB} {g : pG} {σ : pI} {τ : pJ} {d n i : Nat} {L : Nat → List Nat}
theorem k_M_goThrough_1 (hg : pm_gok 61 g) (hB : pm_base b) (hw : rh_wf n L) (hM : mi_ n L σ) (hR : mr_ n L σ) (hA : mA_ n A0_ σ) : pm_C b (d + 6) km_M_goThrough [pm_R 48, pm_I (nI 1)] g σ τ 0 0 (pm_Wp (fun v σ' => v = none ∧ mA_ n (SA_ n L) σ' ∧ ∀ c x, c ≠ 52 → c ≠ 53 → c ≠ 56 → c ≠ 57 → c ≠ 58 → ¬ (c = 48 ∧ x = 6) → σ' c x = σ c x) τ) := by
  have h8 := hw.1
  show pm_Y b (d + 5 + 1) km_M_goThrough 0 false [some (pm_R 48), some (pm_I (nI 1)), none, none, none] [] g σ τ 0 0 0 0 _
  refine pm_iconst' (nI 0) d_M_goThrough_0 (by decide) ?_
  refine pm_istore_n d_M_goThrough_1 (by decide) ?_
  refine pm_iconst' (nI 0) d_M_goThrough_2 (by decide) ?_
  refine pm_istore_n d_M_goThrough_3 (by decide) ?_
  refine pm_iconst' (nI 0) d_M_goThrough_4 (by decide) ?_
  refine pm_istore d_M_goThrough_5 (by decide) ?_
  -- at 7: lo=[some (pm_R 48), some (pm_I (nI 1)), some (pm_I (nI 0)), some (pm_I (nI 0)), some (pm_I (nI 0))] st=[]
  refine pm_flag ?_
  refine pm_for n (fun i σ₁ => pm_Y b (d + 5 + 1) km_M_goThrough 7 true [some (pm_R 48), some (pm_I (nI 1)), some (pm_I (nI 0)), some (pm_I (nI 0)), some (pm_I (nI i))] [] g σ₁ τ 0 0 0 0 (pm_Wp (fun v σ' => v = none ∧ mA_ n (SA_ n L) σ' ∧ ∀ c x, c ≠ 52 → c ≠ 53 → c ≠ 56 → c ≠ 57 → c ≠ 58 → ¬ (c = 48 ∧ x = 6) → σ' c x = σ c x) τ)) (i0_ σ) (fun i σ₁ hi hI ih => ?_) (fun σ₁ hI => ?_) n 0 σ (by omega) ⟨fun k hk => absurd hk (Nat.not_lt_zero k), fun _ _ _ _ => rfl⟩
  · skip
    refine pm_iload d_M_goThrough_7 rfl ?_
    refine pm_aload_n d_M_goThrough_9 rfl ?_
    refine pm_geti' (nI n) d_M_goThrough_10 hf_M_47 (hg.s rfl) (hg.i (by decide)) rfl ((hI.2 48 1 (by omega) (by omega)).trans hM.1) ?_
    refine pm_icmp_ge_f 38 d_M_goThrough_13 rfl (by rw [nI_leI (by omega) (by omega)]; omega) ?_
    refine pm_aload_n d_M_goThrough_16 rfl ?_
    refine pm_getr d_M_goThrough_17 hf_M_37 (hg.s rfl) (hg.i (by decide)) rfl (hg.r (by decide) rfl) ?_
    refine pm_iload d_M_goThrough_20 rfl ?_
    refine pm_iconst' (-1) d_M_goThrough_22 (by decide) ?_
    refine pm_iastore i d_M_goThrough_23 (hg.s rfl) (hg.i (by decide)) rfl (by omega) (by decide) ?_
    refine pm_aload_n d_M_goThrough_24 rfl ?_
    refine pm_getr d_M_goThrough_25 hf_M_34 (hg.s rfl) (hg.i (by decide)) rfl (hg.r (by decide) rfl) ?_
    refine pm_iload d_M_goThrough_28 rfl ?_
    refine pm_iconst' (-1) d_M_goThrough_30 (by decide) ?_
    refine pm_iastore i d_M_goThrough_31 (hg.s rfl) (hg.i (by decide)) rfl (by omega) (by decide) ?_
    refine pm_iinc' (nI (i + 1)) d_M_goThrough_32 (by decide) rfl (pm_inc _) ?_
    refine pm_goto 7 d_M_goThrough_35 rfl ?_
    -- at 7: lo=[some (pm_R 48), some (pm_I (nI 1)), some (pm_I (nI 0)), some (pm_I (nI 0)), some (pm_I (nI (i + 1)))] st=[]
    exact ih _ (i0_s hI)
  · skip
    refine pm_iload d_M_goThrough_7 rfl ?_
    refine pm_aload_n d_M_goThrough_9 rfl ?_
    refine pm_geti' (nI n) d_M_goThrough_10 hf_M_47 (hg.s rfl) (hg.i (by decide)) rfl ((hI.2 48 1 (by omega) (by omega)).trans hM.1) ?_
    refine pm_icmp_ge_t 38 d_M_goThrough_13 rfl (by rw [nI_leI (by omega) (by omega)]; omega) ?_
    -- at 38: lo=[some (pm_R 48), some (pm_I (nI 1)), some (pm_I (nI 0)), some (pm_I (nI 0)), some (pm_I (nI n))] st=[]
    exact g1_main (σ₀ := σ) hg hB hw hM hR _ 0 (fun _ => none) (fun _ => 0) (fun _ => none) A0_ σ₁ (Nat.le_refl _) (Nat.zero_le n) ⟨fun c x e1 e2 e3 e4 e5 e6 => hI.2 c x e4 e5, fun x hx => (hI.1 x hx).2, fun x hx => (hI.1 x hx).1, ⟨(hI.2 48 6 (by omega) (by omega)).trans hA.1, fun p q hp hq => (hI.2 52 _ (by omega) (by omega)).trans (hA.2.1 p q hp hq), fun z => absurd z (Nat.lt_irrefl 0)⟩, fun r hr hs => by (cases hs), fun r hr => absurd hr (Nat.not_lt_zero r), fun _ _ => rfl, fun r c hc => by (cases hc), Or.inl ⟨rfl, fun r hr => absurd hr (Nat.not_lt_zero r), fun x y => ⟨fun z => by (cases z), fun ⟨r, hr, _⟩ => absurd hr (Nat.not_lt_zero r)⟩⟩, by rw [gr_at0]; rfl⟩ _
theorem k_M_goThrough_0 (hg : pm_gok 61 g) (hB : pm_base b) (hw : rh_wf n L) (hM : mi_ n L σ) (hR : mr_ n L σ) : pm_C b (d + 6) km_M_goThrough [pm_R 48, pm_I (nI 0)] g σ τ 0 0 (pm_Wp (fun v σ' => v = none ∧ (∀ r, r < n → σ' 56 r = nI (F_ n L r)) ∧ tp_ (F_ n L) (sz_ n L) n σ' ∧ ∀ c x, c ≠ 54 → c ≠ 55 → c ≠ 56 → c ≠ 57 → c ≠ 58 → σ' c x = σ c x) τ) := by
  have h8 := hw.1
  show pm_Y b (d + 5 + 1) km_M_goThrough 0 false [some (pm_R 48), some (pm_I (nI 0)), none, none, none] [] g σ τ 0 0 0 0 _
  refine pm_iconst' (nI 0) d_M_goThrough_0 (by decide) ?_
  refine pm_istore_n d_M_goThrough_1 (by decide) ?_
  refine pm_iconst' (nI 0) d_M_goThrough_2 (by decide) ?_
  refine pm_istore_n d_M_goThrough_3 (by decide) ?_
  refine pm_iconst' (nI 0) d_M_goThrough_4 (by decide) ?_
  refine pm_istore d_M_goThrough_5 (by decide) ?_
  -- at 7: lo=[some (pm_R 48), some (pm_I (nI 0)), some (pm_I (nI 0)), some (pm_I (nI 0)), some (pm_I (nI 0))] st=[]
  refine pm_flag ?_
  refine pm_for n (fun i σ₁ => pm_Y b (d + 5 + 1) km_M_goThrough 7 true [some (pm_R 48), some (pm_I (nI 0)), some (pm_I (nI 0)), some (pm_I (nI 0)), some (pm_I (nI i))] [] g σ₁ τ 0 0 0 0 (pm_Wp (fun v σ' => v = none ∧ (∀ r, r < n → σ' 56 r = nI (F_ n L r)) ∧ tp_ (F_ n L) (sz_ n L) n σ' ∧ ∀ c x, c ≠ 54 → c ≠ 55 → c ≠ 56 → c ≠ 57 → c ≠ 58 → σ' c x = σ c x) τ)) (i0_ σ) (fun i σ₁ hi hI ih => ?_) (fun σ₁ hI => ?_) n 0 σ (by omega) ⟨fun k hk => absurd hk (Nat.not_lt_zero k), fun _ _ _ _ => rfl⟩
  · skip
    refine pm_iload d_M_goThrough_7 rfl ?_
    refine pm_aload_n d_M_goThrough_9 rfl ?_
    refine pm_geti' (nI n) d_M_goThrough_10 hf_M_47 (hg.s rfl) (hg.i (by decide)) rfl ((hI.2 48 1 (by omega) (by omega)).trans hM.1) ?_
    refine pm_icmp_ge_f 38 d_M_goThrough_13 rfl (by rw [nI_leI (by omega) (by omega)]; omega) ?_
    refine pm_aload_n d_M_goThrough_16 rfl ?_
    refine pm_getr d_M_goThrough_17 hf_M_37 (hg.s rfl) (hg.i (by decide)) rfl (hg.r (by decide) rfl) ?_
    refine pm_iload d_M_goThrough_20 rfl ?_
    refine pm_iconst' (-1) d_M_goThrough_22 (by decide) ?_
    refine pm_iastore i d_M_goThrough_23 (hg.s rfl) (hg.i (by decide)) rfl (by omega) (by decide) ?_
    refine pm_aload_n d_M_goThrough_24 rfl ?_
    refine pm_getr d_M_goThrough_25 hf_M_34 (hg.s rfl) (hg.i (by decide)) rfl (hg.r (by decide) rfl) ?_
    refine pm_iload d_M_goThrough_28 rfl ?_
    refine pm_iconst' (-1) d_M_goThrough_30 (by decide) ?_
    refine pm_iastore i d_M_goThrough_31 (hg.s rfl) (hg.i (by decide)) rfl (by omega) (by decide) ?_
    refine pm_iinc' (nI (i + 1)) d_M_goThrough_32 (by decide) rfl (pm_inc _) ?_
    refine pm_goto 7 d_M_goThrough_35 rfl ?_
    -- at 7: lo=[some (pm_R 48), some (pm_I (nI 0)), some (pm_I (nI 0)), some (pm_I (nI 0)), some (pm_I (nI (i + 1)))] st=[]
    exact ih _ (i0_s hI)
  · skip
    refine pm_iload d_M_goThrough_7 rfl ?_
    refine pm_aload_n d_M_goThrough_9 rfl ?_
    refine pm_geti' (nI n) d_M_goThrough_10 hf_M_47 (hg.s rfl) (hg.i (by decide)) rfl ((hI.2 48 1 (by omega) (by omega)).trans hM.1) ?_
    refine pm_icmp_ge_t 38 d_M_goThrough_13 rfl (by rw [nI_leI (by omega) (by omega)]; omega) ?_
    -- at 38: lo=[some (pm_R 48), some (pm_I (nI 0)), some (pm_I (nI 0)), some (pm_I (nI 0)), some (pm_I (nI n))] st=[]
    exact g0_main (σ₀ := σ) hg hB hw hM hR _ 0 (fun _ => none) (fun _ => 0) (fun _ => none) σ₁ (Nat.le_refl _) (Nat.zero_le n) ⟨fun c x e1 e2 e3 e4 e5 => hI.2 c x e4 e5, fun x hx => (hI.1 x hx).2, fun x hx => (hI.1 x hx).1, fun r hr hs => by (cases hs), fun r hr => absurd hr (Nat.not_lt_zero r), fun _ _ => rfl, fun r c hc => by (cases hc), Or.inl ⟨rfl, fun r hr => absurd hr (Nat.not_lt_zero r), fun x y => ⟨fun z => by (cases z), fun h => absurd h.1 (Nat.not_lt_zero y)⟩⟩, by rw [gr_at0]⟩ _
theorem l_M_learn_25 {σ₁ : pI} {p : Nat} {E : pE} (hg : pm_gok 61 g) (hB : pm_base b) (hw : rh_wf n L) (hM : mi_ n L σ₁) (hp : p < n) {l3 : Option pV} (K : ∀ σ₂, rr_ L σ₁ p n σ₂ → pm_Y b (d + 7) km_M_learn 80 true [some (pm_R 48), some (pm_I (nI p)), some (pm_I (nI n)), l3] [] g σ₂ τ 0 0 0 0 E) : pm_Y b (d + 7) km_M_learn 25 true [some (pm_R 48), some (pm_I (nI p)), some (pm_I (nI 0)), l3] [] g σ₁ τ 0 0 0 0 E := by
  have h8 := hw.1
  refine pm_for n (fun j σ₂ => pm_Y b (d + 7) km_M_learn 25 true [some (pm_R 48), some (pm_I (nI p)), some (pm_I (nI j)), l3] [] g σ₂ τ 0 0 0 0 E) (rr_ L σ₁ p) (fun j σ₂ hj hI ih => ?_) (fun σ₂ hI => ?_) n 0 σ₁ (by omega) ⟨fun q hq => absurd hq (Nat.not_lt_zero q), fun _ _ _ => rfl⟩
  · by_cases e : p = j
    · skip
      refine pm_iload_n d_M_learn_25 rfl ?_
      refine pm_aload_n d_M_learn_26 rfl ?_
      refine pm_geti' (nI n) d_M_learn_27 hf_M_47 (hg.s rfl) (hg.i (by decide)) rfl ((hI.2 48 1 (by omega)).trans hM.1) ?_
      refine pm_icmp_ge_f 80 d_M_learn_30 rfl (by rw [nI_leI (by omega) (by omega)]; omega) ?_
      refine pm_aload_n d_M_learn_33 rfl ?_
      refine pm_getr d_M_learn_34 hf_M_40 (hg.s rfl) (hg.i (by decide)) rfl (hg.r (by decide) rfl) ?_
      refine pm_bipush' (nI 8) d_M_learn_37 (by decide) ?_
      refine pm_iload_n d_M_learn_39 rfl ?_
      refine pm_imulN d_M_learn_40 ?_
      refine pm_iload_n d_M_learn_41 rfl ?_
      refine pm_iaddN d_M_learn_42 ?_
      refine pm_iload_n d_M_learn_43 rfl ?_
      refine pm_iload_n d_M_learn_44 rfl ?_
      refine pm_icmp_ne_f 53 d_M_learn_45 rfl (by rw [e]) ?_
      refine pm_bipush' (nI 50) d_M_learn_48 (by decide) ?_
      refine pm_goto 73 d_M_learn_50 rfl ?_
      refine pm_iastore ((8 * p) + j) d_M_learn_73 (hg.s rfl) (hg.i (by decide)) rfl (by omega) (by decide) ?_
      refine pm_iinc' (nI (j + 1)) d_M_learn_74 (by decide) rfl (pm_inc _) ?_
      refine pm_goto 25 d_M_learn_77 rfl ?_
      -- at 25: lo=[some (pm_R 48), some (pm_I (nI p)), some (pm_I (nI (j + 1))), l3] st=[]
      exact ih _ (rr_s hI (by omega) (by rw [← e]; exact rn_8 p))
    · by_cases e2 : j ∈ L p ∧ p ∈ L j
      · skip
        refine pm_iload_n d_M_learn_25 rfl ?_
        refine pm_aload_n d_M_learn_26 rfl ?_
        refine pm_geti' (nI n) d_M_learn_27 hf_M_47 (hg.s rfl) (hg.i (by decide)) rfl ((hI.2 48 1 (by omega)).trans hM.1) ?_
        refine pm_icmp_ge_f 80 d_M_learn_30 rfl (by rw [nI_leI (by omega) (by omega)]; omega) ?_
        refine pm_aload_n d_M_learn_33 rfl ?_
        refine pm_getr d_M_learn_34 hf_M_40 (hg.s rfl) (hg.i (by decide)) rfl (hg.r (by decide) rfl) ?_
        refine pm_bipush' (nI 8) d_M_learn_37 (by decide) ?_
        refine pm_iload_n d_M_learn_39 rfl ?_
        refine pm_imulN d_M_learn_40 ?_
        refine pm_iload_n d_M_learn_41 rfl ?_
        refine pm_iaddN d_M_learn_42 ?_
        refine pm_iload_n d_M_learn_43 rfl ?_
        refine pm_iload_n d_M_learn_44 rfl ?_
        refine pm_icmp_ne_t 53 d_M_learn_45 rfl (fun z => e ((nI_eq (by omega) (by omega)).mp z)) ?_
        refine pm_aload_n d_M_learn_53 rfl ?_
        refine pm_iload_n d_M_learn_54 rfl ?_
        refine pm_iload_n d_M_learn_55 rfl ?_
        refine pm_callR (i := 48) (ci := 5) (rest := [pm_I (nI ((8 * p) + j)), pm_R 59]) [pm_I (nI p), pm_I (nI j)] hB d_M_learn_56 hc_M_54 (pm_C_up (show 0 + 1 ≤ d + 6 by omega) (k_M_mayBe hg hB hw (mi_of hM (hI.2 48 1 (by omega)) (fun c x hc => hI.2 c x (by omega))) hp hj)) (hg.s rfl) (hg.i (by decide)) rfl rfl rfl rfl (Nat.le_of_ble_eq_true rfl) (Nat.le_of_ble_eq_true rfl) (by omega) (by omega) ?_
        refine pm_if_eq_f 71 d_M_learn_59 rfl (by rw [decide_eq_true e2]; decide) ?_
        refine pm_aload_n d_M_learn_62 rfl ?_
        refine pm_iload_n d_M_learn_63 rfl ?_
        refine pm_iload_n d_M_learn_64 rfl ?_
        refine pm_callR (i := 48) (ci := 5) (rest := [pm_I (nI ((8 * p) + j)), pm_R 59]) [pm_I (nI p), pm_I (nI j)] hB d_M_learn_65 hc_M_50 (k_M_placeIn hg hB hw (mi_of hM (hI.2 48 1 (by omega)) (fun c x hc => hI.2 c x (by omega))) hp (by omega) e2.1) (hg.s rfl) (hg.i (by decide)) rfl rfl rfl rfl (Nat.le_of_ble_eq_true rfl) (Nat.le_of_ble_eq_true rfl) (by omega) (by omega) ?_
        refine pm_goto 73 d_M_learn_68 rfl ?_
        refine pm_iastore ((8 * p) + j) d_M_learn_73 (hg.s rfl) (hg.i (by decide)) rfl (by omega) (by decide) ?_
        refine pm_iinc' (nI (j + 1)) d_M_learn_74 (by decide) rfl (pm_inc _) ?_
        refine pm_goto 25 d_M_learn_77 rfl ?_
        -- at 25: lo=[some (pm_R 48), some (pm_I (nI p)), some (pm_I (nI (j + 1))), l3] st=[]
        exact ih _ (rr_s hI (by omega) (rn_in hw hp e2))
      · skip
        refine pm_iload_n d_M_learn_25 rfl ?_
        refine pm_aload_n d_M_learn_26 rfl ?_
        refine pm_geti' (nI n) d_M_learn_27 hf_M_47 (hg.s rfl) (hg.i (by decide)) rfl ((hI.2 48 1 (by omega)).trans hM.1) ?_
        refine pm_icmp_ge_f 80 d_M_learn_30 rfl (by rw [nI_leI (by omega) (by omega)]; omega) ?_
        refine pm_aload_n d_M_learn_33 rfl ?_
        refine pm_getr d_M_learn_34 hf_M_40 (hg.s rfl) (hg.i (by decide)) rfl (hg.r (by decide) rfl) ?_
        refine pm_bipush' (nI 8) d_M_learn_37 (by decide) ?_
        refine pm_iload_n d_M_learn_39 rfl ?_
        refine pm_imulN d_M_learn_40 ?_
        refine pm_iload_n d_M_learn_41 rfl ?_
        refine pm_iaddN d_M_learn_42 ?_
        refine pm_iload_n d_M_learn_43 rfl ?_
        refine pm_iload_n d_M_learn_44 rfl ?_
        refine pm_icmp_ne_t 53 d_M_learn_45 rfl (fun z => e ((nI_eq (by omega) (by omega)).mp z)) ?_
        refine pm_aload_n d_M_learn_53 rfl ?_
        refine pm_iload_n d_M_learn_54 rfl ?_
        refine pm_iload_n d_M_learn_55 rfl ?_
        refine pm_callR (i := 48) (ci := 5) (rest := [pm_I (nI ((8 * p) + j)), pm_R 59]) [pm_I (nI p), pm_I (nI j)] hB d_M_learn_56 hc_M_54 (pm_C_up (show 0 + 1 ≤ d + 6 by omega) (k_M_mayBe hg hB hw (mi_of hM (hI.2 48 1 (by omega)) (fun c x hc => hI.2 c x (by omega))) hp hj)) (hg.s rfl) (hg.i (by decide)) rfl rfl rfl rfl (Nat.le_of_ble_eq_true rfl) (Nat.le_of_ble_eq_true rfl) (by omega) (by omega) ?_
        refine pm_if_eq_t 71 d_M_learn_59 rfl (by rw [decide_eq_false e2]; rfl) ?_
        refine pm_bipush' (nI 99) d_M_learn_71 (by decide) ?_
        refine pm_iastore ((8 * p) + j) d_M_learn_73 (hg.s rfl) (hg.i (by decide)) rfl (by omega) (by decide) ?_
        refine pm_iinc' (nI (j + 1)) d_M_learn_74 (by decide) rfl (pm_inc _) ?_
        refine pm_goto 25 d_M_learn_77 rfl ?_
        -- at 25: lo=[some (pm_R 48), some (pm_I (nI p)), some (pm_I (nI (j + 1))), l3] st=[]
        exact ih _ (rr_s hI (by omega) (rn_out e e2))
  · skip
    refine pm_iload_n d_M_learn_25 rfl ?_
    refine pm_aload_n d_M_learn_26 rfl ?_
    refine pm_geti' (nI n) d_M_learn_27 hf_M_47 (hg.s rfl) (hg.i (by decide)) rfl ((hI.2 48 1 (by omega)).trans hM.1) ?_
    refine pm_icmp_ge_t 80 d_M_learn_30 rfl (by rw [nI_leI (by omega) (by omega)]; omega) ?_
    -- at 80: lo=[some (pm_R 48), some (pm_I (nI p)), some (pm_I (nI n)), l3] st=[]
    exact K σ₂ hI
theorem l_M_learn_15 {E : pE} (hg : pm_gok 61 g) (hB : pm_base b) (hw : rh_wf n L) (hM : mi_ n L σ) (K : ∀ σ₁, rf_ n L σ n σ₁ → ∀ l2 l3 : Option pV, pm_Y b (d + 7) km_M_learn 86 true [some (pm_R 48), some (pm_I (nI n)), l2, l3] [] g σ₁ τ 0 0 0 0 E) : pm_Y b (d + 7) km_M_learn 15 true [some (pm_R 48), some (pm_I (nI 0)), none, none] [] g σ τ 0 0 0 0 E := by
  have h8 := hw.1
  refine pm_for n (fun p σ₁ => ∀ l2 l3 : Option pV, pm_Y b (d + 7) km_M_learn 15 true [some (pm_R 48), some (pm_I (nI p)), l2, l3] [] g σ₁ τ 0 0 0 0 E) (rf_ n L σ) (fun p σ₁ hp hI ih l2 l3 => ?_) (fun σ₁ hI l2 l3 => ?_) n 0 σ (by omega) ⟨fun a c ha => absurd ha (Nat.not_lt_zero a), fun _ _ _ => rfl⟩ none none
  · skip
    refine pm_iload_n d_M_learn_15 rfl ?_
    refine pm_aload_n d_M_learn_16 rfl ?_
    refine pm_geti' (nI n) d_M_learn_17 hf_M_47 (hg.s rfl) (hg.i (by decide)) rfl ((hI.2 48 1 (by omega)).trans hM.1) ?_
    refine pm_icmp_ge_f 86 d_M_learn_20 rfl (by rw [nI_leI (by omega) (by omega)]; omega) ?_
    refine pm_iconst' (nI 0) d_M_learn_23 (by decide) ?_
    refine pm_istore_n d_M_learn_24 (by decide) ?_
    -- at 25: lo=[some (pm_R 48), some (pm_I (nI p)), some (pm_I (nI 0)), l3] st=[]
    refine l_M_learn_25 hg hB hw (mi_of hM (hI.2 48 1 (by omega)) (fun c x hc => hI.2 c x (by omega))) hp (fun σ₂ hr => ?_)
    refine pm_iinc' (nI (p + 1)) d_M_learn_80 (by decide) rfl (pm_inc _) ?_
    refine pm_goto 15 d_M_learn_83 rfl ?_
    exact ih σ₂ ⟨fun a c ha hc => by
      by_cases e : a = p
      · rw [e]; exact hr.1 c hc
      · rw [hr.2 59 _ (by omega)]; exact hI.1 a c (by omega) hc, fun c x hc => (hr.2 c x (by omega)).trans (hI.2 c x hc)⟩ _ _
  · skip
    refine pm_iload_n d_M_learn_15 rfl ?_
    refine pm_aload_n d_M_learn_16 rfl ?_
    refine pm_geti' (nI n) d_M_learn_17 hf_M_47 (hg.s rfl) (hg.i (by decide)) rfl ((hI.2 48 1 (by omega)).trans hM.1) ?_
    refine pm_icmp_ge_t 86 d_M_learn_20 rfl (by rw [nI_leI (by omega) (by omega)]; omega) ?_
    -- at 86: lo=[some (pm_R 48), some (pm_I (nI n)), l2, l3] st=[]
    exact K σ₁ hI _ _
theorem l_M_learn_93 {E : pE} {l2 l3 : Option pV} (hg : pm_gok 61 g) (K : ∀ σ₁ : pI, ((∀ k, k < 64 → σ₁ 52 k = nI 0) ∧ ∀ c x, c ≠ 52 → σ₁ c x = σ c x) → pm_Y b (d + 7) km_M_learn 112 true [some (pm_R 48), some (pm_I (nI 64)), l2, l3] [] g σ₁ τ 0 0 0 0 E) : pm_Y b (d + 7) km_M_learn 93 true [some (pm_R 48), some (pm_I (nI 0)), l2, l3] [] g σ τ 0 0 0 0 E := by
  refine pm_for 64 (fun i σ₁ => pm_Y b (d + 7) km_M_learn 93 true [some (pm_R 48), some (pm_I (nI i)), l2, l3] [] g σ₁ τ 0 0 0 0 E) (fun i σ₁ => (∀ k, k < i → σ₁ 52 k = nI 0) ∧ ∀ c x, c ≠ 52 → σ₁ c x = σ c x) (fun i σ₁ hi hI ih => ?_) (fun σ₁ hI => ?_) 64 0 σ rfl ⟨fun k hk => absurd hk (Nat.not_lt_zero k), fun _ _ _ => rfl⟩
  · skip
    refine pm_iload_n d_M_learn_93 rfl ?_
    refine pm_bipush' (nI 64) d_M_learn_94 (by decide) ?_
    refine pm_icmp_ge_f 112 d_M_learn_96 rfl (by rw [nI_leI (by omega) (by omega)]; omega) ?_
    refine pm_aload_n d_M_learn_99 rfl ?_
    refine pm_getr d_M_learn_100 hf_M_19 (hg.s rfl) (hg.i (by decide)) rfl (hg.r (by decide) rfl) ?_
    refine pm_iload_n d_M_learn_103 rfl ?_
    refine pm_iconst' (nI 0) d_M_learn_104 (by decide) ?_
    refine pm_iastore i d_M_learn_105 (hg.s rfl) (hg.i (by decide)) rfl (by omega) (by decide) ?_
    refine pm_iinc' (nI (i + 1)) d_M_learn_106 (by decide) rfl (pm_inc _) ?_
    refine pm_goto 93 d_M_learn_109 rfl ?_
    -- at 93: lo=[some (pm_R 48), some (pm_I (nI (i + 1))), l2, l3] st=[]
    exact ih _ ⟨fun k hk => by
      by_cases e : k = i
      · rw [e, pm_up_at]
      · rw [pm_up_ne (by omega)]; exact hI.1 k (by omega), fun c x hc => by rw [pm_up_ne (by omega)]; exact hI.2 c x hc⟩
  · skip
    refine pm_iload_n d_M_learn_93 rfl ?_
    refine pm_bipush' (nI 64) d_M_learn_94 (by decide) ?_
    refine pm_icmp_ge_t 112 d_M_learn_96 rfl (by decide) ?_
    -- at 112: lo=[some (pm_R 48), some (pm_I (nI 64)), l2, l3] st=[]
    exact K σ₁ hI
end M8
