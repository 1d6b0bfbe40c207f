/-! the stable matchings: reckon, and what is asked -/
def A0_ : rh_A := (0, fun _ _ => 0, fun _ => 0)
noncomputable def SA_ (n : Nat) (L : Nat → List Nat) : rh_A := rh_fold n A0_ ((rh_ext L n []).filter (rh_sm n L))
theorem SA_cs {n : Nat} {L : Nat → List Nat} (hw : rh_wf n L) : cs_search n L (rh_rk L) n 0 (fun _ => none) A0_ = SA_ n L := cs_all hw A0_
theorem SA_le {n : Nat} {L : Nat → List Nat} (hw : rh_wf n L) : (SA_ n L).1 ≤ 43046721 := by
  rw [← SA_cs hw]
  have h1 := cs_le (n := n) (rk := rh_rk L) (wf_len hw) n 0 (fun _ => none) A0_
  have h2 : 9 ^ n ≤ 9 ^ 8 := Nat.pow_le_pow_right (by decide) hw.1
  have h3 : (9 : Nat) ^ 8 = 43046721 := by decide
  have h4 : A0_.1 = 0 := rfl
  omega
/-- what is kept: reckoned at r, and if that is now, it is right -/
def sc_ (n ch : Nat) (L : Nat → List Nat) (σ : pI) : Prop := ∃ r : Option Nat, σ 32 5 = oI r ∧ (∀ x, r = some x → x ≤ ch) ∧ (r = some ch → ci_A n (SA_ n L) σ)
def sfr_ (σ₀ σ : pI) : Prop := ∀ c x, ¬ (32 ≤ c ∧ c < 44) → σ c x = σ₀ c x
def sp_ (n ch : Nat) (L : Nat → List Nat) (σ₀ σ : pI) : Prop := ci_A n (SA_ n L) σ ∧ σ 32 5 = nI ch ∧ sfr_ σ₀ σ
theorem sp_sc {n ch : Nat} {L : Nat → List Nat} {σ₀ σ : pI} (h : sp_ n ch L σ₀ σ) : sc_ n ch L σ := ⟨some ch, h.2.1, fun x hx => by cases hx; exact Nat.le_refl _, fun _ => h.1⟩
theorem sfr_.lo {σ₀ σ : pI} (h : sfr_ σ₀ σ) : ∀ c x, c < 30 → σ c x = σ₀ c x := fun c x hc => h c x (by omega)
def rc_row (σ₀ : pI) (p j : Nat) (σ : pI) : Prop := (∀ q, q < j → σ (36 + p) q = nI 0) ∧ ∀ c x, c ≠ 36 + p → σ c x = σ₀ c x
def rc_I (ch : Nat) (σ₀ : pI) (i : Nat) (σ : pI) : Prop := σ 32 4 = nI 0 ∧ σ 32 5 = nI ch ∧ (∀ p, p < i → σ 33 p = -1 ∧ ∀ q, q < 8 → σ (36 + p) q = nI 0) ∧ sfr_ σ₀ σ
section S3
variable {b : pB} {g : pG} {σ : pI} {τ : pJ} {d p q n ch : Nat} {L : Nat → List Nat}
theorem l_S_reckon_48 (hg : pm_gok 48 g) (hp : p < 8) {σ₁ : pI} {E : pE} (K : ∀ σ', rc_row σ₁ p 8 σ' → pm_Y b d km_S_reckon 69 true [some (pm_R 32), some (pm_I (nI p)), some (pm_I (nI 8))] [] g σ' τ 0 0 0 0 E) : pm_Y b d km_S_reckon 48 true [some (pm_R 32), some (pm_I (nI p)), some (pm_I (nI 0))] [] g σ₁ τ 0 0 0 0 E := by
  refine pm_for 8 (fun j σ₂ => pm_Y b d km_S_reckon 48 true [some (pm_R 32), some (pm_I (nI p)), some (pm_I (nI j))] [] g σ₂ τ 0 0 0 0 E) (rc_row σ₁ p) (fun j σ₂ hj hI ih => ?_) (fun σ₂ hI => ?_) 8 0 σ₁ rfl ⟨fun q hq => absurd hq (Nat.not_lt_zero q), fun _ _ _ => rfl⟩
  · refine pm_iload_n d_S_reckon_48 rfl ?_
    refine pm_bipush' (nI 8) d_S_reckon_49 (by decide) ?_
    refine pm_icmp_ge_f 69 d_S_reckon_51 rfl (by rw [nI_leI (by omega) (by omega)]; omega) ?_
    refine pm_aload_n d_S_reckon_54 rfl ?_
    refine pm_getr d_S_reckon_55 hf_S_20 (hg.s rfl) (hg.i (by decide)) rfl (hg.r (by decide) rfl) ?_
    refine pm_iload_n d_S_reckon_58 rfl ?_
    refine pm_aaload p d_S_reckon_59 (hg.s rfl) (hg.i (by decide)) rfl hp (by decide) (hg.r (by decide) (sr_35 hp)) ?_
    refine pm_iload_n d_S_reckon_60 rfl ?_
    refine pm_iconst' (nI 0) d_S_reckon_61 (by decide) ?_
    refine pm_iastore j d_S_reckon_62 (hg.s (sh_36 _ hp)) (hg.i (by have := (hp : p < 8); omega)) rfl hj (by decide) ?_
    refine pm_iinc' (nI (j + 1)) d_S_reckon_63 (by decide) rfl (pm_inc _) ?_
    refine pm_goto 48 d_S_reckon_66 rfl ?_
    -- at 48: lo=[some (pm_R 32), some (pm_I (nI p)), some (pm_I (nI (j + 1)))] st=[]
    exact ih _ ⟨fun q hq => by
      by_cases e : q = j
      · subst e; rw [pm_up_at]
      · rw [pm_up_ne (by omega)]; exact hI.1 q (by omega), fun c x hc => by rw [pm_up_ne (by omega)]; exact hI.2 c x hc⟩
  · refine pm_iload_n d_S_reckon_48 rfl ?_
    refine pm_bipush' (nI 8) d_S_reckon_49 (by decide) ?_
    refine pm_icmp_ge_t 69 d_S_reckon_51 rfl (by decide) ?_
    exact K σ₂ hI
theorem rc_step {σ₀ σ₂ σ₃ : pI} (h : rc_I ch σ₀ p σ₂) (hr : rc_row (pm_up σ₂ 33 p (-1)) p 8 σ₃) (hp : p < 8) : rc_I ch σ₀ (p + 1) σ₃ := by
  obtain ⟨h1, h2, h3, h4⟩ := h
  obtain ⟨r1, r2⟩ := hr
  refine ⟨by rw [r2 32 4 (by omega), pm_up_ne (by omega)]; exact h1, by rw [r2 32 5 (by omega), pm_up_ne (by omega)]; exact h2, fun a ha => ?_, fun c x hc => by rw [r2 c x (by omega), pm_up_ne (by omega)]; exact h4 c x hc⟩
  by_cases e : a = p
  · subst e
    exact ⟨by rw [r2 33 a (by omega), pm_up_at], r1⟩
  · refine ⟨by rw [r2 33 a (by omega), pm_up_ne (by omega)]; exact (h3 a (by omega)).1, fun q hq => ?_⟩
    rw [r2 (36 + a) q (by omega), pm_up_ne (by omega)]
    exact (h3 a (by omega)).2 q hq
theorem rc_A {σ₀ σ₂ : pI} (h : rc_I ch σ₀ 8 σ₂) : ci_A n A0_ σ₂ := ⟨h.1, fun p q hp hq => (h.2.2.1 p hp).2 q hq, fun z => absurd z (Nat.lt_irrefl 0)⟩
theorem rc_T {σ₀ σ₂ : pI} (h : rc_I ch σ₀ 8 σ₂) : ci_T 33 (fun _ => none) σ₂ := fun a ha => (h.2.2.1 a ha).1
theorem rc_end {σ₀ σ₂ σ₃ : pI} (hw : rh_wf n L) (h : rc_I ch σ₀ 8 σ₂) (hA : ci_A n (cs_search n L (rh_rk L) n 0 (fun _ => none) A0_) σ₃) (hf : st_fr σ₂ σ₃) : sp_ n ch L σ₀ σ₃ := by
  rw [SA_cs hw] at hA
  exact ⟨hA, by rw [hf 32 5 (by omega) (by omega) (by omega) (by omega)]; exact h.2.1, fun c x hc => by rw [hf c x (by omega) (by omega) (by omega) (by omega)]; exact h.2.2.2 c x hc⟩
theorem l_S_reckon_33 (hg : pm_gok 48 g) (hB : pm_base b) (hw : rh_wf n L) (hE : env_ n L σ) {σ₁ : pI} (h0 : rc_I ch σ 0 σ₁) (l2 : Option pV) : pm_Y b (d + 19 + 1) km_S_reckon 33 true [some (pm_R 32), some (pm_I (nI 0)), l2] [] g σ₁ τ 0 0 0 0 (pm_Wp (fun v σ' => v = none ∧ sp_ n ch L σ σ') τ) := by
  have h8 := hw.1
  have hbd : A0_.1 + 9 ^ n ≤ 43046721 := by
    have h2 : 9 ^ n ≤ 9 ^ 8 := Nat.pow_le_pow_right (by decide) hw.1
    have h3 : (9 : Nat) ^ 8 = 43046721 := by decide
    have h4 : A0_.1 = 0 := rfl
    omega
  refine pm_for 8 (fun p σ₂ => ∀ l2 : Option pV, pm_Y b (d + 19 + 1) km_S_reckon 33 true [some (pm_R 32), some (pm_I (nI p)), l2] [] g σ₂ τ 0 0 0 0 (pm_Wp (fun v σ' => v = none ∧ sp_ n ch L σ σ') τ)) (rc_I ch σ) (fun p σ₂ hp hI ih l2 => ?_) (fun σ₂ hI l2 => ?_) 8 0 σ₁ rfl h0 l2
  · refine pm_iload_n d_S_reckon_33 rfl ?_
    refine pm_bipush' (nI 8) d_S_reckon_34 (by decide) ?_
    refine pm_icmp_ge_f 75 d_S_reckon_36 rfl (by rw [nI_leI (by omega) (by omega)]; omega) ?_
    refine pm_aload_n d_S_reckon_39 rfl ?_
    refine pm_getr d_S_reckon_40 hf_S_9 (hg.s rfl) (hg.i (by decide)) rfl (hg.r (by decide) rfl) ?_
    refine pm_iload_n d_S_reckon_43 rfl ?_
    refine pm_iconst' (-1) d_S_reckon_44 (by decide) ?_
    refine pm_iastore p d_S_reckon_45 (hg.s rfl) (hg.i (by decide)) rfl hp (by decide) ?_
    refine pm_iconst' (nI 0) d_S_reckon_46 (by decide) ?_
    refine pm_istore_n d_S_reckon_47 (by decide) ?_
    -- at 48: lo=[some (pm_R 32), some (pm_I (nI p)), some (pm_I (nI 0))] st=[]
    refine l_S_reckon_48 hg hp (fun σ₃ hr => ?_)
    refine pm_iinc' (nI (p + 1)) d_S_reckon_69 (by decide) rfl (pm_inc _) ?_
    refine pm_goto 33 d_S_reckon_72 rfl ?_
    -- at 33: lo=[some (pm_R 32), some (pm_I (nI (p + 1))), some (pm_I (nI 8))] st=[]
    exact ih _ (rc_step hI hr hp) _
  · refine pm_iload_n d_S_reckon_33 rfl ?_
    refine pm_bipush' (nI 8) d_S_reckon_34 (by decide) ?_
    refine pm_icmp_ge_t 75 d_S_reckon_36 rfl (by decide) ?_
    refine pm_aload_n d_S_reckon_75 rfl ?_
    refine pm_iconst' (nI 0) d_S_reckon_76 (by decide) ?_
    refine pm_callWp (i := 32) (ci := 3) (rest := []) [pm_I (nI 0)] hB d_S_reckon_77 hc_S_51 (pm_C_up (show 0 + 2 * n + 3 ≤ d + 19 by omega) (k_S_search hg hB hw n 0 (fun _ => none) A0_ _ (Nat.zero_add n) (env_of hE hI.2.2.2.lo) (rc_T hI) (rc_A hI) ⟨fun a ha => absurd ha (Nat.not_lt_zero a), fun a c hc => by cases hc⟩ hbd)) (hg.s rfl) (hg.i (by decide)) rfl rfl rfl rfl (Nat.le_of_ble_eq_true rfl) (Nat.le_of_ble_eq_true rfl) (by omega) (by omega) (fun v77 σ₃ hv77 hq77 => ?_)
    obtain ⟨rfl, hT3, hA3, hf3⟩ := hq77
    show pm_Y b _ km_S_reckon 80 true [some (pm_R 32), some (pm_I (nI 8)), l2] [] g σ₃ τ 0 0 0 0 _
    exact pm_return d_S_reckon_80 rfl (fun _ => rfl) (Nat.le_refl _) (Nat.le_refl _) ⟨⟨rfl, rc_end hw hI hA3 hf3⟩, rfl⟩
theorem k_S_reckon (hg : pm_gok 48 g) (hB : pm_base b) (hw : rh_wf n L) (hE : env_ n L σ) (hch : σ 1 5 = nI ch) (hc : ch < 2 ^ 31) (hs : sc_ n ch L σ) : pm_C b (d + 20) km_S_reckon [pm_R 32] g σ τ 0 0 (pm_Wp (fun v σ' => v = none ∧ sp_ n ch L σ σ') τ) := by
  show pm_Y b (d + 19 + 1) km_S_reckon 0 false [some (pm_R 32), none, none] [] g σ τ 0 0 0 0 _
  obtain ⟨r, hr, hle, hok⟩ := hs
  by_cases e : r = some ch
  · subst e
    have hok := hok rfl
    have hr : σ 32 5 = nI ch := hr
    refine pm_aload_n d_S_reckon_0 rfl ?_
    refine pm_geti' (nI ch) d_S_reckon_1 hf_S_23 (hg.s rfl) (hg.i (by decide)) rfl hr ?_
    refine pm_aload_n d_S_reckon_4 rfl ?_
    refine pm_getr d_S_reckon_5 hf_S_27 (hg.s rfl) (hg.i (by decide)) rfl (hg.r (by decide) rfl) ?_
    refine pm_callR (i := 1) (ci := 1) (rest := [pm_I (nI ch)]) [] hB d_S_reckon_8 hc_S_47 (k_W_changes hg hch) (hg.s rfl) (hg.i (by decide)) rfl rfl rfl rfl (Nat.le_of_ble_eq_true rfl) (Nat.le_of_ble_eq_true rfl) (by omega) (by omega) ?_
    refine pm_icmp_ne_f 15 d_S_reckon_11 rfl rfl ?_
    exact pm_return d_S_reckon_14 rfl (fun _ => rfl) (Nat.le_refl _) (Nat.le_refl _) ⟨⟨rfl, hok, hr, fun _ _ _ => rfl⟩, rfl⟩
  · have hne : ¬ σ 32 5 = nI ch := by
      rw [hr]
      cases r with
      | none => exact fun z => nI_m1 hc z.symm
      | some x =>
        intro z
        have hx := hle x rfl
        exact e (by rw [(nI_eq (by omega) hc).mp z])
    refine pm_aload_n d_S_reckon_0 rfl ?_
    refine pm_geti d_S_reckon_1 hf_S_23 (hg.s rfl) (hg.i (by decide)) rfl ?_
    refine pm_aload_n d_S_reckon_4 rfl ?_
    refine pm_getr d_S_reckon_5 hf_S_27 (hg.s rfl) (hg.i (by decide)) rfl (hg.r (by decide) rfl) ?_
    refine pm_callR (i := 1) (ci := 1) (rest := [pm_I (σ 32 5)]) [] hB d_S_reckon_8 hc_S_47 (k_W_changes hg hch) (hg.s rfl) (hg.i (by decide)) rfl rfl rfl rfl (Nat.le_of_ble_eq_true rfl) (Nat.le_of_ble_eq_true rfl) (by omega) (by omega) ?_
    refine pm_icmp_ne_t 15 d_S_reckon_11 rfl hne ?_
    refine pm_aload_n d_S_reckon_15 rfl ?_
    refine pm_aload_n d_S_reckon_16 rfl ?_
    refine pm_getr d_S_reckon_17 hf_S_27 (hg.s rfl) (hg.i (by decide)) rfl (hg.r (by decide) rfl) ?_
    refine pm_callR (i := 1) (ci := 1) (rest := [pm_R 32]) [] hB d_S_reckon_20 hc_S_47 (k_W_changes hg hch) (hg.s rfl) (hg.i (by decide)) rfl rfl rfl rfl (Nat.le_of_ble_eq_true rfl) (Nat.le_of_ble_eq_true rfl) (by omega) (by omega) ?_
    refine pm_puti d_S_reckon_23 hp_S_23 (hg.s rfl) (hg.i (by decide)) rfl ?_
    refine pm_aload_n d_S_reckon_26 rfl ?_
    refine pm_iconst' (nI 0) d_S_reckon_27 (by decide) ?_
    refine pm_puti d_S_reckon_28 hp_S_34 (hg.s rfl) (hg.i (by decide)) rfl ?_
    refine pm_iconst' (nI 0) d_S_reckon_31 (by decide) ?_
    refine pm_istore_n d_S_reckon_32 (by decide) ?_
    -- at 33: lo=[some (pm_R 32), some (pm_I (nI 0)), none] st=[]
    exact l_S_reckon_33 hg hB hw hE ⟨pm_up_at, by rw [pm_up_ne (by omega), pm_up_at], fun p hp => absurd hp (Nat.not_lt_zero p), fun c x hc => by rw [pm_up_ne (by omega), pm_up_ne (by omega)]⟩ none
theorem k_S_howMany (hg : pm_gok 48 g) (hB : pm_base b) (hw : rh_wf n L) (hE : env_ n L σ) (hch : σ 1 5 = nI ch) (hc : ch < 2 ^ 31) (hs : sc_ n ch L σ) : pm_C b (d + 21) km_S_howMany [pm_R 32] g σ τ 0 0 (pm_Wp (fun v σ' => v = some (nI (SA_ n L).1) ∧ sp_ n ch L σ σ') τ) := by
  have h8 := hw.1
  show pm_Y b (d + 20 + 1) km_S_howMany 0 false [some (pm_R 32)] [] g σ τ 0 0 0 0 _
  refine pm_aload_n d_S_howMany_0 rfl ?_
  refine pm_callWp (i := 32) (ci := 3) (rest := []) [] hB d_S_howMany_1 hc_S_31 (k_S_reckon hg hB hw hE hch hc hs) (hg.s rfl) (hg.i (by decide)) rfl rfl rfl rfl (Nat.le_of_ble_eq_true rfl) (Nat.le_of_ble_eq_true rfl) (by omega) (by omega) (fun v1 σ₁ hv1 hq1 => ?_)
  obtain ⟨rfl, hp1⟩ := hq1
  show pm_Y b _ km_S_howMany 4 true [some (pm_R 32)] [] g σ₁ τ 0 0 0 0 _
  refine pm_aload_n d_S_howMany_4 rfl ?_
  refine pm_geti' (nI ((SA_ n L).1)) d_S_howMany_5 hf_S_34 (hg.s rfl) (hg.i (by decide)) rfl hp1.1.1 ?_
  exact pm_ireturn d_S_howMany_8 rfl (fun _ => rfl) (Nat.le_refl _) (Nat.le_refl _) ⟨⟨rfl, hp1⟩, rfl⟩
theorem k_S_howOften (hg : pm_gok 48 g) (hB : pm_base b) (hw : rh_wf n L) (hE : env_ n L σ) (hch : σ 1 5 = nI ch) (hc : ch < 2 ^ 31) (hs : sc_ n ch L σ) (hp : p < 8) (hq : q < 8) : pm_C b (d + 21) km_S_howOften [pm_R 32, pm_I (nI p), pm_I (nI q)] g σ τ 0 0 (pm_Wp (fun v σ' => v = some (nI ((SA_ n L).2.1 p q)) ∧ sp_ n ch L σ σ') τ) := by
  have h8 := hw.1
  show pm_Y b (d + 20 + 1) km_S_howOften 0 false [some (pm_R 32), some (pm_I (nI p)), some (pm_I (nI q))] [] g σ τ 0 0 0 0 _
  refine pm_aload_n d_S_howOften_0 rfl ?_
  refine pm_callWp (i := 32) (ci := 3) (rest := []) [] hB d_S_howOften_1 hc_S_31 (k_S_reckon hg hB hw hE hch hc hs) (hg.s rfl) (hg.i (by decide)) rfl rfl rfl rfl (Nat.le_of_ble_eq_true rfl) (Nat.le_of_ble_eq_true rfl) (by omega) (by omega) (fun v1 σ₁ hv1 hq1 => ?_)
  obtain ⟨rfl, hp1⟩ := hq1
  show pm_Y b _ km_S_howOften 4 true [some (pm_R 32), some (pm_I (nI p)), some (pm_I (nI q))] [] g σ₁ τ 0 0 0 0 _
  refine pm_aload_n d_S_howOften_4 rfl ?_
  refine pm_getr d_S_howOften_5 hf_S_20 (hg.s rfl) (hg.i (by decide)) rfl (hg.r (by decide) rfl) ?_
  refine pm_iload_n d_S_howOften_8 rfl ?_
  refine pm_aaload p d_S_howOften_9 (hg.s rfl) (hg.i (by decide)) rfl hp (by decide) (hg.r (by decide) (sr_35 hp)) ?_
  refine pm_iload_n d_S_howOften_10 rfl ?_
  refine pm_iaload' q (nI ((SA_ n L).2.1 p q)) d_S_howOften_11 (hg.s (sh_36 _ hp)) (hg.i (by have := (hp : p < 8); omega)) rfl hq (by decide) (hp1.1.2.1 p q hp hq) ?_
  exact pm_ireturn d_S_howOften_12 rfl (fun _ => rfl) (Nat.le_refl _) (Nat.le_refl _) ⟨⟨rfl, hp1⟩, rfl⟩
theorem k_S_mateInFirst (hg : pm_gok 48 g) (hB : pm_base b) (hw : rh_wf n L) (hE : env_ n L σ) (hch : σ 1 5 = nI ch) (hc : ch < 2 ^ 31) (hs : sc_ n ch L σ) (hp : p < n) : pm_C b (d + 21) km_S_mateInFirst [pm_R 32, pm_I (nI p)] g σ τ 0 0 (pm_Wp (fun v σ' => v = some (if (SA_ n L).1 = 0 then -1 else nI ((SA_ n L).2.2 p)) ∧ sp_ n ch L σ σ') τ) := by
  have h8 := hw.1
  have hle := SA_le hw
  show pm_Y b (d + 20 + 1) km_S_mateInFirst 0 false [some (pm_R 32), some (pm_I (nI p))] [] g σ τ 0 0 0 0 _
  refine pm_aload_n d_S_mateInFirst_0 rfl ?_
  refine pm_callWp (i := 32) (ci := 3) (rest := []) [] hB d_S_mateInFirst_1 hc_S_31 (k_S_reckon hg hB hw hE hch hc hs) (hg.s rfl) (hg.i (by decide)) rfl rfl rfl rfl (Nat.le_of_ble_eq_true rfl) (Nat.le_of_ble_eq_true rfl) (by omega) (by omega) (fun v1 σ₁ hv1 hq1 => ?_)
  obtain ⟨rfl, hp1⟩ := hq1
  show pm_Y b _ km_S_mateInFirst 4 true [some (pm_R 32), some (pm_I (nI p))] [] g σ₁ τ 0 0 0 0 _
  refine pm_aload_n d_S_mateInFirst_4 rfl ?_
  refine pm_geti' (nI ((SA_ n L).1)) d_S_mateInFirst_5 hf_S_34 (hg.s rfl) (hg.i (by decide)) rfl hp1.1.1 ?_
  by_cases z : (SA_ n L).1 = 0
  · have z9 : nI (SA_ n L).1 = 0 := by rw [z]; rfl
    refine pm_if_ne_f 15 d_S_mateInFirst_8 rfl z9 ?_
    refine pm_iconst' (-1) d_S_mateInFirst_11 (by decide) ?_
    refine pm_goto 21 d_S_mateInFirst_12 rfl ?_
    exact pm_ireturn d_S_mateInFirst_21 rfl (fun _ => rfl) (Nat.le_refl _) (Nat.le_refl _) ⟨⟨by rw [if_pos z], hp1⟩, rfl⟩
  · have z9 : ¬ nI (SA_ n L).1 = 0 := nI_ne0 (by omega) (by omega)
    refine pm_if_ne_t 15 d_S_mateInFirst_8 rfl z9 ?_
    refine pm_aload_n d_S_mateInFirst_15 rfl ?_
    refine pm_getr d_S_mateInFirst_16 hf_S_15 (hg.s rfl) (hg.i (by decide)) rfl (hg.r (by decide) rfl) ?_
    refine pm_iload_n d_S_mateInFirst_19 rfl ?_
    refine pm_iaload' p (nI ((SA_ n L).2.2 p)) d_S_mateInFirst_20 (hg.s rfl) (hg.i (by decide)) rfl (by omega) (by decide) (hp1.1.2.2 (by omega) p hp) ?_
    exact pm_ireturn d_S_mateInFirst_21 rfl (fun _ => rfl) (Nat.le_refl _) (Nat.le_refl _) ⟨⟨by rw [if_neg z], hp1⟩, rfl⟩
end S3
