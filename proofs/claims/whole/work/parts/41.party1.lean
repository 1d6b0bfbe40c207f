/-! partitions: the search for the first one -/
def pfr_ (σ₀ σ : pI) : Prop := ∀ c x, c ≠ 45 → c ≠ 46 → σ c x = σ₀ c x
theorem pfr_.lo {σ₀ σ : pI} (h : pfr_ σ₀ σ) : ∀ c x, c < 30 → σ c x = σ₀ c x := fun c x hc => h c x (by omega) (by omega)
theorem pfr_.tr {σ₀ σ₁ σ₂ : pI} (h : pfr_ σ₀ σ₁) (h' : pfr_ σ₁ σ₂) : pfr_ σ₀ σ₂ := fun c x a1 a2 => (h' c x a1 a2).trans (h c x a1 a2)
def pf1 (r : Option ps_S) (fo : Nat → Option Nat) : Nat → Option Nat := match r with
  | some x => x.1
  | none => fo
def pf2 (r : Option ps_S) (le : Nat → Option Nat) : Nat → Option Nat := match r with
  | some x => x.2
  | none => le
def pk_ok (p : Nat) (fo le : Nat → Option Nat) : Prop := (∀ a c, fo a = some c → c < 8) ∧ (∀ a c, le a = some c → c < 8) ∧ ∀ a, p ≤ a → fo a = none
abbrev qe_ (r : Option ps_S) (fo le : Nat → Option Nat) (σ : pI) (τ : pJ) : pE := pm_Wp (fun v σ' => v = some (bI r.isSome) ∧ ci_T 45 (pf1 r fo) σ' ∧ ci_T 46 (pf2 r le) σ' ∧ pfr_ σ σ') τ
theorem U_back {t : Nat → Option Nat} {p q : Nat} (hp : t p = none) : cs_up (cs_up t p (some q)) p none = t := by
  funext a
  unfold cs_up
  by_cases e : a = p
  · rw [if_pos e, e, hp]
  · rw [if_neg e, if_neg e]
theorem pk_next {p q : Nat} {fo le : Nat → Option Nat} (h : pk_ok p fo le) (hp : p < 8) (hq : q < 8) : pk_ok (p + 1) (cs_up fo p (some q)) (cs_up le q (some p)) := by
  refine ⟨fun a c hc => ?_, fun a c hc => ?_, fun a ha => ?_⟩
  · unfold cs_up at hc
    by_cases e : a = p
    · rw [if_pos e] at hc; cases hc; exact hq
    · rw [if_neg e] at hc; exact h.1 a c hc
  · unfold cs_up at hc
    by_cases e : a = q
    · rw [if_pos e] at hc; cases hc; exact hp
    · rw [if_neg e] at hc; exact h.2.1 a c hc
  · unfold cs_up
    rw [if_neg (by omega)]
    exact h.2.2 a (by omega)
section P1
variable {b : pB} {g : pG} {τ : pJ} {n : Nat} {L : Nat → List Nat}
theorem k_P_keepsOrder {d p : Nat} {fo le : Nat → Option Nat} {σ : pI} (hg : pm_gok 48 g) (hB : pm_base b) (hw : rh_wf n L) (hS : ci_S L σ) (hp : p < 8) (hf : ci_T 45 fo σ) (hl : ci_T 46 le σ) (hfb : ∀ a c, fo a = some c → c < 8) (hlb : ∀ a c, le a = some c → c < 8) : pm_C b (d + 1) km_P_keepsOrder [pm_R 44, pm_I (nI p)] g σ τ 0 0 (pm_Rd (bI (ps_keeps (rh_rk L) p fo le)) σ τ) := by
  show pm_Y b (d + 1) km_P_keepsOrder 0 false [some (pm_R 44), some (pm_I (nI p)), none, none] [] g σ τ 0 0 0 0 _
  cases e1 : fo p with
  | none =>
    cases e2 : le p with
    | none =>
      refine pm_aload_n d_P_keepsOrder_0 rfl ?_
      refine pm_getr d_P_keepsOrder_1 hf_P_9 (hg.s rfl) (hg.i (by decide)) rfl (hg.r (by decide) rfl) ?_
      refine pm_iload_n d_P_keepsOrder_4 rfl ?_
      refine pm_iaload' p (-1) d_P_keepsOrder_5 (hg.s rfl) (hg.i (by decide)) rfl hp (by decide) (by rw [hf p hp, e1]; rfl) ?_
      refine pm_istore_n d_P_keepsOrder_6 (by decide) ?_
      refine pm_aload_n d_P_keepsOrder_7 rfl ?_
      refine pm_getr d_P_keepsOrder_8 hf_P_15 (hg.s rfl) (hg.i (by decide)) rfl (hg.r (by decide) rfl) ?_
      refine pm_iload_n d_P_keepsOrder_11 rfl ?_
      refine pm_iaload' p (-1) d_P_keepsOrder_12 (hg.s rfl) (hg.i (by decide)) rfl hp (by decide) (by rw [hl p hp, e2]; rfl) ?_
      refine pm_istore_n d_P_keepsOrder_13 (by decide) ?_
      refine pm_iload_n d_P_keepsOrder_14 rfl ?_
      refine pm_iconst' (-1) d_P_keepsOrder_15 (by decide) ?_
      refine pm_icmp_eq_t 37 d_P_keepsOrder_16 rfl rfl ?_
      refine pm_iconst' (nI 1) d_P_keepsOrder_37 (by decide) ?_
      refine pm_goto 42 d_P_keepsOrder_38 rfl ?_
      exact pm_zreturn d_P_keepsOrder_42 rfl (Or.inr rfl) (fun h => h) (Nat.le_refl _) (Nat.le_refl _) ⟨by unfold ps_keeps; rw [e1]; rfl, rfl, rfl⟩
    | some y =>
      refine pm_aload_n d_P_keepsOrder_0 rfl ?_
      refine pm_getr d_P_keepsOrder_1 hf_P_9 (hg.s rfl) (hg.i (by decide)) rfl (hg.r (by decide) rfl) ?_
      refine pm_iload_n d_P_keepsOrder_4 rfl ?_
      refine pm_iaload' p (-1) d_P_keepsOrder_5 (hg.s rfl) (hg.i (by decide)) rfl hp (by decide) (by rw [hf p hp, e1]; rfl) ?_
      refine pm_istore_n d_P_keepsOrder_6 (by decide) ?_
      refine pm_aload_n d_P_keepsOrder_7 rfl ?_
      refine pm_getr d_P_keepsOrder_8 hf_P_15 (hg.s rfl) (hg.i (by decide)) rfl (hg.r (by decide) rfl) ?_
      refine pm_iload_n d_P_keepsOrder_11 rfl ?_
      refine pm_iaload' p (nI y) d_P_keepsOrder_12 (hg.s rfl) (hg.i (by decide)) rfl hp (by decide) (by rw [hl p hp, e2]; rfl) ?_
      refine pm_istore_n d_P_keepsOrder_13 (by decide) ?_
      refine pm_iload_n d_P_keepsOrder_14 rfl ?_
      refine pm_iconst' (-1) d_P_keepsOrder_15 (by decide) ?_
      refine pm_icmp_eq_t 37 d_P_keepsOrder_16 rfl rfl ?_
      refine pm_iconst' (nI 1) d_P_keepsOrder_37 (by decide) ?_
      refine pm_goto 42 d_P_keepsOrder_38 rfl ?_
      exact pm_zreturn d_P_keepsOrder_42 rfl (Or.inr rfl) (fun h => h) (Nat.le_refl _) (Nat.le_refl _) ⟨by unfold ps_keeps; rw [e1]; rfl, rfl, rfl⟩
  | some x =>
    cases e2 : le p with
    | none =>
      refine pm_aload_n d_P_keepsOrder_0 rfl ?_
      refine pm_getr d_P_keepsOrder_1 hf_P_9 (hg.s rfl) (hg.i (by decide)) rfl (hg.r (by decide) rfl) ?_
      refine pm_iload_n d_P_keepsOrder_4 rfl ?_
      refine pm_iaload' p (nI x) d_P_keepsOrder_5 (hg.s rfl) (hg.i (by decide)) rfl hp (by decide) (by rw [hf p hp, e1]; rfl) ?_
      refine pm_istore_n d_P_keepsOrder_6 (by decide) ?_
      refine pm_aload_n d_P_keepsOrder_7 rfl ?_
      refine pm_getr d_P_keepsOrder_8 hf_P_15 (hg.s rfl) (hg.i (by decide)) rfl (hg.r (by decide) rfl) ?_
      refine pm_iload_n d_P_keepsOrder_11 rfl ?_
      refine pm_iaload' p (-1) d_P_keepsOrder_12 (hg.s rfl) (hg.i (by decide)) rfl hp (by decide) (by rw [hl p hp, e2]; rfl) ?_
      refine pm_istore_n d_P_keepsOrder_13 (by decide) ?_
      refine pm_iload_n d_P_keepsOrder_14 rfl ?_
      refine pm_iconst' (-1) d_P_keepsOrder_15 (by decide) ?_
      refine pm_icmp_eq_f 37 d_P_keepsOrder_16 rfl (nI_m1 (by have := hfb _ _ e1; omega)) ?_
      refine pm_iload_n d_P_keepsOrder_19 rfl ?_
      refine pm_iconst' (-1) d_P_keepsOrder_20 (by decide) ?_
      refine pm_icmp_eq_t 37 d_P_keepsOrder_21 rfl rfl ?_
      refine pm_iconst' (nI 1) d_P_keepsOrder_37 (by decide) ?_
      refine pm_goto 42 d_P_keepsOrder_38 rfl ?_
      exact pm_zreturn d_P_keepsOrder_42 rfl (Or.inr rfl) (fun h => h) (Nat.le_refl _) (Nat.le_refl _) ⟨by unfold ps_keeps; rw [e1, e2]; rfl, rfl, rfl⟩
    | some y =>
      refine pm_aload_n d_P_keepsOrder_0 rfl ?_
      refine pm_getr d_P_keepsOrder_1 hf_P_9 (hg.s rfl) (hg.i (by decide)) rfl (hg.r (by decide) rfl) ?_
      refine pm_iload_n d_P_keepsOrder_4 rfl ?_
      refine pm_iaload' p (nI x) d_P_keepsOrder_5 (hg.s rfl) (hg.i (by decide)) rfl hp (by decide) (by rw [hf p hp, e1]; rfl) ?_
      refine pm_istore_n d_P_keepsOrder_6 (by decide) ?_
      refine pm_aload_n d_P_keepsOrder_7 rfl ?_
      refine pm_getr d_P_keepsOrder_8 hf_P_15 (hg.s rfl) (hg.i (by decide)) rfl (hg.r (by decide) rfl) ?_
      refine pm_iload_n d_P_keepsOrder_11 rfl ?_
      refine pm_iaload' p (nI y) d_P_keepsOrder_12 (hg.s rfl) (hg.i (by decide)) rfl hp (by decide) (by rw [hl p hp, e2]; rfl) ?_
      refine pm_istore_n d_P_keepsOrder_13 (by decide) ?_
      refine pm_iload_n d_P_keepsOrder_14 rfl ?_
      refine pm_iconst' (-1) d_P_keepsOrder_15 (by decide) ?_
      refine pm_icmp_eq_f 37 d_P_keepsOrder_16 rfl (nI_m1 (by have := hfb _ _ e1; omega)) ?_
      refine pm_iload_n d_P_keepsOrder_19 rfl ?_
      refine pm_iconst' (-1) d_P_keepsOrder_20 (by decide) ?_
      refine pm_icmp_eq_f 37 d_P_keepsOrder_21 rfl (nI_m1 (by have := hlb _ _ e2; omega)) ?_
      refine pm_aload_n d_P_keepsOrder_24 rfl ?_
      refine pm_getr d_P_keepsOrder_25 hf_P_25 (hg.s rfl) (hg.i (by decide)) rfl (hg.r (by decide) rfl) ?_
      refine pm_iload_n d_P_keepsOrder_28 rfl ?_
      refine pm_iload_n d_P_keepsOrder_29 rfl ?_
      refine pm_iload_n d_P_keepsOrder_30 rfl ?_
      refine pm_callR (i := 1) (ci := 1) (rest := []) [pm_I (nI p), pm_I (nI y), pm_I (nI x)] hB d_P_keepsOrder_31 hc_P_76 (k_W_prefers hg hw hS hp (hlb _ _ e2) (hfb _ _ e1)) (hg.s rfl) (hg.i (by decide)) rfl rfl rfl rfl (Nat.le_of_ble_eq_true rfl) (Nat.le_of_ble_eq_true rfl) (by omega) (by omega) ?_
      refine pm_if_neB 41 d_P_keepsOrder_34 rfl (fun c34 => ?_) (fun c34 => ?_)
      · refine pm_iconst' (nI 0) d_P_keepsOrder_41 (by decide) ?_
        exact pm_zreturn d_P_keepsOrder_42 rfl (Or.inl rfl) (fun h => h) (Nat.le_refl _) (Nat.le_refl _) ⟨by
          unfold ps_keeps
          rw [e1, e2]
          show _ = some (bI (!decide (rh_rk L p y < rh_rk L p x)))
          rw [c34]
          rfl, rfl, rfl⟩
      · refine pm_iconst' (nI 1) d_P_keepsOrder_37 (by decide) ?_
        refine pm_goto 42 d_P_keepsOrder_38 rfl ?_
        exact pm_zreturn d_P_keepsOrder_42 rfl (Or.inr rfl) (fun h => h) (Nat.le_refl _) (Nat.le_refl _) ⟨by
          unfold ps_keeps
          rw [e1, e2]
          show _ = some (bI (!decide (rh_rk L p y < rh_rk L p x)))
          rw [c34]
          rfl, rfl, rfl⟩
theorem k_P_searchWith {d k p q : Nat} {fo le : Nat → Option Nat} {σ : pI} (hg : pm_gok 48 g) (hB : pm_base b) (hw : rh_wf n L) (hp : p < n) (hq : q < n) (hE : env_ n L σ) (hf : ci_T 45 fo σ) (hl : ci_T 46 le σ) (hr : pk_ok p fo le)
    (hSr : ∀ (fo le : Nat → Option Nat) (σ : pI), env_ n L σ → ci_T 45 fo σ → ci_T 46 le σ → pk_ok (p + 1) fo le → pm_C b (d + 2) km_P_search [pm_R 44, pm_I (nI (p + 1))] g σ τ 0 0 (qe_ (ps_search n L (rh_rk L) k (p + 1) fo le) fo le σ τ)) :
    pm_C b (d + 3) km_P_searchWith [pm_R 44, pm_I (nI p), pm_I (nI q)] g σ τ 0 0 (qe_ (ps_with n (rh_rk L) p fo le (ps_search n L (rh_rk L) k (p + 1)) q) fo le σ τ) := by
  have h8 := hw.1
  have hp8 : p < 8 := by omega
  have hq8 : q < 8 := by omega
  have hE2 : env_ n L (pm_up (pm_up σ 45 p (nI q)) 46 q (nI p)) := env_of hE (fun c x hc => by rw [pm_up_ne (by omega), pm_up_ne (by omega)])
  have hf2 : ci_T 45 (cs_up fo p (some q)) (pm_up (pm_up σ 45 p (nI q)) 46 q (nI p)) := T_of (T_up hf) (fun x => by rw [pm_up_ne (by omega)])
  have hl2 : ci_T 46 (cs_up le q (some p)) (pm_up (pm_up σ 45 p (nI q)) 46 q (nI p)) := T_up (T_of hl (fun x => by rw [pm_up_ne (by omega)]))
  have hr2 := pk_next hr hp8 hq8
  have hfr2 : pfr_ σ (pm_up (pm_up σ 45 p (nI q)) 46 q (nI p)) := fun c x a1 a2 => by rw [pm_up_ne (by omega), pm_up_ne (by omega)]
  show pm_Y b (d + 2 + 1) km_P_searchWith 0 false [some (pm_R 44), some (pm_I (nI p)), some (pm_I (nI q))] [] g σ τ 0 0 0 0 _
  cases e : le q with
  | some y =>
    refine pm_aload_n d_P_searchWith_0 rfl ?_
    refine pm_getr d_P_searchWith_1 hf_P_15 (hg.s rfl) (hg.i (by decide)) rfl (hg.r (by decide) rfl) ?_
    refine pm_iload_n d_P_searchWith_4 rfl ?_
    refine pm_iaload' q (nI y) d_P_searchWith_5 (hg.s rfl) (hg.i (by decide)) rfl hq8 (by decide) (by rw [hl q hq8, e]; rfl) ?_
    refine pm_iconst' (-1) d_P_searchWith_6 (by decide) ?_
    refine pm_icmp_eq_f 12 d_P_searchWith_7 rfl (nI_m1 (by have := hr.2.1 _ _ e; omega)) ?_
    refine pm_iconst' (nI 0) d_P_searchWith_10 (by decide) ?_
    exact pm_zreturn d_P_searchWith_11 rfl (Or.inl rfl) (fun _ => rfl) (Nat.le_refl _) (Nat.le_refl _) ⟨⟨by unfold ps_with; rw [if_pos (by rw [e]; exact fun z => by cases z)]; rfl, by unfold ps_with; rw [if_pos (by rw [e]; exact fun z => by cases z)]; exact ⟨hf, hl, fun _ _ _ _ => rfl⟩⟩, rfl⟩
  | none =>
    have hsw : (ps_keeps (rh_rk L) p (cs_up fo p (some q)) (cs_up le q (some p)) && ps_keeps (rh_rk L) q (cs_up fo p (some q)) (cs_up le q (some p)) && !cs_blk n (rh_rk L) q (cs_up le q (some p))) = true → ps_with n (rh_rk L) p fo le (ps_search n L (rh_rk L) k (p + 1)) q = ps_search n L (rh_rk L) k (p + 1) (cs_up fo p (some q)) (cs_up le q (some p)) := fun z => by
      unfold ps_with
      rw [if_neg (fun z9 => z9 e), if_pos z]
    have hno : (ps_keeps (rh_rk L) p (cs_up fo p (some q)) (cs_up le q (some p)) && ps_keeps (rh_rk L) q (cs_up fo p (some q)) (cs_up le q (some p)) && !cs_blk n (rh_rk L) q (cs_up le q (some p))) = false → ps_with n (rh_rk L) p fo le (ps_search n L (rh_rk L) k (p + 1)) q = none := fun z => by
      unfold ps_with
      rw [if_neg (fun z9 => z9 e), if_neg (by rw [z]; decide)]
    have hbk1 : ∀ {σ₄ : pI}, ci_T 45 (cs_up fo p (some q)) σ₄ → ci_T 45 fo (pm_up (pm_up σ₄ 45 p (-1)) 46 q (-1)) := fun h9 => by
      have h10 := T_dn (a := p) h9
      rw [U_back (hr.2.2 p (Nat.le_refl _))] at h10
      exact T_of h10 (fun x => by rw [pm_up_ne (by omega)])
    have hbk2 : ∀ {σ₄ : pI}, ci_T 46 (cs_up le q (some p)) σ₄ → ci_T 46 le (pm_up (pm_up σ₄ 45 p (-1)) 46 q (-1)) := fun h9 => by
      have h10 := T_dn (a := q) (T_of h9 (fun x => pm_up_ne (σ := _) (i := 45) (j := p) (x := -1) (by omega)))
      rw [U_back e] at h10
      exact h10
    refine pm_aload_n d_P_searchWith_0 rfl ?_
    refine pm_getr d_P_searchWith_1 hf_P_15 (hg.s rfl) (hg.i (by decide)) rfl (hg.r (by decide) rfl) ?_
    refine pm_iload_n d_P_searchWith_4 rfl ?_
    refine pm_iaload' q (-1) d_P_searchWith_5 (hg.s rfl) (hg.i (by decide)) rfl hq8 (by decide) (by rw [hl q hq8, e]; rfl) ?_
    refine pm_iconst' (-1) d_P_searchWith_6 (by decide) ?_
    refine pm_icmp_eq_t 12 d_P_searchWith_7 rfl rfl ?_
    refine pm_aload_n d_P_searchWith_12 rfl ?_
    refine pm_getr d_P_searchWith_13 hf_P_9 (hg.s rfl) (hg.i (by decide)) rfl (hg.r (by decide) rfl) ?_
    refine pm_iload_n d_P_searchWith_16 rfl ?_
    refine pm_iload_n d_P_searchWith_17 rfl ?_
    refine pm_iastore p d_P_searchWith_18 (hg.s rfl) (hg.i (by decide)) rfl hp8 (by decide) ?_
    refine pm_aload_n d_P_searchWith_19 rfl ?_
    refine pm_getr d_P_searchWith_20 hf_P_15 (hg.s rfl) (hg.i (by decide)) rfl (hg.r (by decide) rfl) ?_
    refine pm_iload_n d_P_searchWith_23 rfl ?_
    refine pm_iload_n d_P_searchWith_24 rfl ?_
    refine pm_iastore q d_P_searchWith_25 (hg.s rfl) (hg.i (by decide)) rfl hq8 (by decide) ?_
    refine pm_aload_n d_P_searchWith_26 rfl ?_
    refine pm_iload_n d_P_searchWith_27 rfl ?_
    refine pm_callR (i := 44) (ci := 4) (rest := []) [pm_I (nI p)] hB d_P_searchWith_28 hc_P_69 (k_P_keepsOrder hg hB hw hE2.2.2 hp8 hf2 hl2 hr2.1 hr2.2.1) (hg.s rfl) (hg.i (by decide)) rfl rfl rfl rfl (Nat.le_of_ble_eq_true rfl) (Nat.le_of_ble_eq_true rfl) (by omega) (by omega) ?_
    refine pm_if_eqB 69 d_P_searchWith_31 rfl (fun c31 => ?_) (fun c31 => ?_)
    · refine pm_aload_n d_P_searchWith_69 rfl ?_
      refine pm_getr d_P_searchWith_70 hf_P_9 (hg.s rfl) (hg.i (by decide)) rfl (hg.r (by decide) rfl) ?_
      refine pm_iload_n d_P_searchWith_73 rfl ?_
      refine pm_iconst' (-1) d_P_searchWith_74 (by decide) ?_
      refine pm_iastore p d_P_searchWith_75 (hg.s rfl) (hg.i (by decide)) rfl hp8 (by decide) ?_
      refine pm_aload_n d_P_searchWith_76 rfl ?_
      refine pm_getr d_P_searchWith_77 hf_P_15 (hg.s rfl) (hg.i (by decide)) rfl (hg.r (by decide) rfl) ?_
      refine pm_iload_n d_P_searchWith_80 rfl ?_
      refine pm_iconst' (-1) d_P_searchWith_81 (by decide) ?_
      refine pm_iastore q d_P_searchWith_82 (hg.s rfl) (hg.i (by decide)) rfl hq8 (by decide) ?_
      refine pm_iconst' (nI 0) d_P_searchWith_83 (by decide) ?_
      exact pm_zreturn d_P_searchWith_84 rfl (Or.inl rfl) (fun _ => rfl) (Nat.le_refl _) (Nat.le_refl _) ⟨⟨by rw [hno (by rw [c31]; rfl)]; rfl, by rw [hno (by rw [c31]; rfl)]; exact ⟨hbk1 hf2, hbk2 hl2, fun c x a1 a2 => by rw [pm_up_ne (by omega), pm_up_ne (by omega)]; exact hfr2 c x a1 a2⟩⟩, rfl⟩
    · refine pm_aload_n d_P_searchWith_34 rfl ?_
      refine pm_iload_n d_P_searchWith_35 rfl ?_
      refine pm_callR (i := 44) (ci := 4) (rest := []) [pm_I (nI q)] hB d_P_searchWith_36 hc_P_69 (k_P_keepsOrder hg hB hw hE2.2.2 hq8 hf2 hl2 hr2.1 hr2.2.1) (hg.s rfl) (hg.i (by decide)) rfl rfl rfl rfl (Nat.le_of_ble_eq_true rfl) (Nat.le_of_ble_eq_true rfl) (by omega) (by omega) ?_
      refine pm_if_eqB 69 d_P_searchWith_39 rfl (fun c39 => ?_) (fun c39 => ?_)
      · refine pm_aload_n d_P_searchWith_69 rfl ?_
        refine pm_getr d_P_searchWith_70 hf_P_9 (hg.s rfl) (hg.i (by decide)) rfl (hg.r (by decide) rfl) ?_
        refine pm_iload_n d_P_searchWith_73 rfl ?_
        refine pm_iconst' (-1) d_P_searchWith_74 (by decide) ?_
        refine pm_iastore p d_P_searchWith_75 (hg.s rfl) (hg.i (by decide)) rfl hp8 (by decide) ?_
        refine pm_aload_n d_P_searchWith_76 rfl ?_
        refine pm_getr d_P_searchWith_77 hf_P_15 (hg.s rfl) (hg.i (by decide)) rfl (hg.r (by decide) rfl) ?_
        refine pm_iload_n d_P_searchWith_80 rfl ?_
        refine pm_iconst' (-1) d_P_searchWith_81 (by decide) ?_
        refine pm_iastore q d_P_searchWith_82 (hg.s rfl) (hg.i (by decide)) rfl hq8 (by decide) ?_
        refine pm_iconst' (nI 0) d_P_searchWith_83 (by decide) ?_
        exact pm_zreturn d_P_searchWith_84 rfl (Or.inl rfl) (fun _ => rfl) (Nat.le_refl _) (Nat.le_refl _) ⟨⟨by rw [hno (by rw [c31, c39]; rfl)]; rfl, by rw [hno (by rw [c31, c39]; rfl)]; exact ⟨hbk1 hf2, hbk2 hl2, fun c x a1 a2 => by rw [pm_up_ne (by omega), pm_up_ne (by omega)]; exact hfr2 c x a1 a2⟩⟩, rfl⟩
      · refine pm_aload_n d_P_searchWith_42 rfl ?_
        refine pm_getr d_P_searchWith_43 hf_P_25 (hg.s rfl) (hg.i (by decide)) rfl (hg.r (by decide) rfl) ?_
        refine pm_iload_n d_P_searchWith_46 rfl ?_
        refine pm_aload_n d_P_searchWith_47 rfl ?_
        refine pm_getr d_P_searchWith_48 hf_P_15 (hg.s rfl) (hg.i (by decide)) rfl (hg.r (by decide) rfl) ?_
        refine pm_callR (i := 1) (ci := 1) (rest := []) [pm_I (nI q), pm_R 46] hB d_P_searchWith_51 hc_P_72 (k_W_wouldBlockWithAny (x := p) hg hB hw hE2.1 hE2.2.2 hq8 rfl (hg.i (by decide)) hl2 hr2.2.1 (if_pos rfl)) (hg.s rfl) (hg.i (by decide)) rfl rfl rfl rfl (Nat.le_of_ble_eq_true rfl) (Nat.le_of_ble_eq_true rfl) (by omega) (by omega) ?_
        refine pm_if_neB 69 d_P_searchWith_54 rfl (fun c54 => ?_) (fun c54 => ?_)
        · refine pm_aload_n d_P_searchWith_69 rfl ?_
          refine pm_getr d_P_searchWith_70 hf_P_9 (hg.s rfl) (hg.i (by decide)) rfl (hg.r (by decide) rfl) ?_
          refine pm_iload_n d_P_searchWith_73 rfl ?_
          refine pm_iconst' (-1) d_P_searchWith_74 (by decide) ?_
          refine pm_iastore p d_P_searchWith_75 (hg.s rfl) (hg.i (by decide)) rfl hp8 (by decide) ?_
          refine pm_aload_n d_P_searchWith_76 rfl ?_
          refine pm_getr d_P_searchWith_77 hf_P_15 (hg.s rfl) (hg.i (by decide)) rfl (hg.r (by decide) rfl) ?_
          refine pm_iload_n d_P_searchWith_80 rfl ?_
          refine pm_iconst' (-1) d_P_searchWith_81 (by decide) ?_
          refine pm_iastore q d_P_searchWith_82 (hg.s rfl) (hg.i (by decide)) rfl hq8 (by decide) ?_
          refine pm_iconst' (nI 0) d_P_searchWith_83 (by decide) ?_
          exact pm_zreturn d_P_searchWith_84 rfl (Or.inl rfl) (fun _ => rfl) (Nat.le_refl _) (Nat.le_refl _) ⟨⟨by rw [hno (by rw [c31, c39, c54]; rfl)]; rfl, by rw [hno (by rw [c31, c39, c54]; rfl)]; exact ⟨hbk1 hf2, hbk2 hl2, fun c x a1 a2 => by rw [pm_up_ne (by omega), pm_up_ne (by omega)]; exact hfr2 c x a1 a2⟩⟩, rfl⟩
        · refine pm_aload_n d_P_searchWith_57 rfl ?_
          refine pm_iload_n d_P_searchWith_58 rfl ?_
          refine pm_iconst' (nI 1) d_P_searchWith_59 (by decide) ?_
          refine pm_iaddN d_P_searchWith_60 ?_
          refine pm_callWp (i := 44) (ci := 4) (rest := []) [pm_I (nI (p + 1))] hB d_P_searchWith_61 hc_P_44 (hSr _ _ _ hE2 hf2 hl2 hr2) (hg.s rfl) (hg.i (by decide)) rfl rfl rfl rfl (Nat.le_of_ble_eq_true rfl) (Nat.le_of_ble_eq_true rfl) (by omega) (by omega) (fun v61 σ₃ hv61 hq61 => ?_)
          obtain ⟨rfl, hf3, hl3, hx3⟩ := hq61
          show pm_Y b _ km_P_searchWith 64 true [some (pm_R 44), some (pm_I (nI p)), some (pm_I (nI q))] [pm_I (bI ((ps_search n L (rh_rk L) k (p + 1) (cs_up fo p (some q)) (cs_up le q (some p))).isSome))] g σ₃ τ 0 0 0 0 _
          refine pm_if_eqB 69 d_P_searchWith_64 rfl (fun c64 => ?_) (fun c64 => ?_)
          · refine pm_aload_n d_P_searchWith_69 rfl ?_
            refine pm_getr d_P_searchWith_70 hf_P_9 (hg.s rfl) (hg.i (by decide)) rfl (hg.r (by decide) rfl) ?_
            refine pm_iload_n d_P_searchWith_73 rfl ?_
            refine pm_iconst' (-1) d_P_searchWith_74 (by decide) ?_
            refine pm_iastore p d_P_searchWith_75 (hg.s rfl) (hg.i (by decide)) rfl hp8 (by decide) ?_
            refine pm_aload_n d_P_searchWith_76 rfl ?_
            refine pm_getr d_P_searchWith_77 hf_P_15 (hg.s rfl) (hg.i (by decide)) rfl (hg.r (by decide) rfl) ?_
            refine pm_iload_n d_P_searchWith_80 rfl ?_
            refine pm_iconst' (-1) d_P_searchWith_81 (by decide) ?_
            refine pm_iastore q d_P_searchWith_82 (hg.s rfl) (hg.i (by decide)) rfl hq8 (by decide) ?_
            refine pm_iconst' (nI 0) d_P_searchWith_83 (by decide) ?_
            exact pm_zreturn d_P_searchWith_84 rfl (Or.inl rfl) (fun _ => rfl) (Nat.le_refl _) (Nat.le_refl _) ⟨⟨by rw [hsw (by rw [c31, c39, c54]; rfl)]; rw [c64]; rfl, by
            rw [hsw (by rw [c31, c39, c54]; rfl)]
            cases e9 : ps_search n L (rh_rk L) k (p + 1) (cs_up fo p (some q)) (cs_up le q (some p)) with
            | some r => rw [e9] at c64; cases c64
            | none =>
              rw [e9] at hf3 hl3
              exact ⟨hbk1 hf3, hbk2 hl3, fun c x a1 a2 => by rw [pm_up_ne (by omega), pm_up_ne (by omega)]; exact (hfr2.tr hx3) c x a1 a2⟩⟩, rfl⟩
          · refine pm_iconst' (nI 1) d_P_searchWith_67 (by decide) ?_
            exact pm_zreturn d_P_searchWith_68 rfl (Or.inr rfl) (fun _ => rfl) (Nat.le_refl _) (Nat.le_refl _) ⟨⟨by rw [hsw (by rw [c31, c39, c54]; rfl)]; rw [c64]; rfl, by
            rw [hsw (by rw [c31, c39, c54]; rfl)]
            cases e9 : ps_search n L (rh_rk L) k (p + 1) (cs_up fo p (some q)) (cs_up le q (some p)) with
            | none => rw [e9] at c64; cases c64
            | some r =>
              rw [e9] at hf3 hl3
              exact ⟨hf3, hl3, hfr2.tr hx3⟩⟩, rfl⟩
theorem l_P_search_15 {d k p : Nat} {fo le : Nat → Option Nat} {σ : pI} (hg : pm_gok 48 g) (hB : pm_base b) (hw : rh_wf n L) (hp : p < n) (hE : env_ n L σ) (hf : ci_T 45 fo σ) (hl : ci_T 46 le σ) (hr : pk_ok p fo le) (hSr : ∀ (fo le : Nat → Option Nat) (σ : pI), env_ n L σ → ci_T 45 fo σ → ci_T 46 le σ → pk_ok (p + 1) fo le → pm_C b (d + 2 * k + 2 + 2) km_P_search [pm_R 44, pm_I (nI (p + 1))] g σ τ 0 0 (qe_ (ps_search n L (rh_rk L) k (p + 1) fo le) fo le σ τ)) (l3 : Option pV) : pm_Y b (d + 2 * k + 5 + 1) km_P_search 15 true [some (pm_R 44), some (pm_I (nI p)), some (pm_I (nI 0)), l3] [] g σ τ 0 0 0 0 (qe_ (ps_search n L (rh_rk L) (k + 1) p fo le) fo le σ τ) := by
  have h8 := hw.1
  have hp8 : p < 8 := by omega
  have hl7 := wf_l hw hp
  have hlb := wf_b hw hp
  have hps : ps_search n L (rh_rk L) (k + 1) p fo le = ps_first n (rh_rk L) p fo le (ps_search n L (rh_rk L) k (p + 1)) (L p) := rfl
  refine pm_for (L p).length (fun i σ₂ => ∀ l3 : Option pV, pm_Y b (d + 2 * k + 5 + 1) km_P_search 15 true [some (pm_R 44), some (pm_I (nI p)), some (pm_I (nI i)), l3] [] g σ₂ τ 0 0 0 0 (qe_ (ps_search n L (rh_rk L) (k + 1) p fo le) fo le σ τ)) (fun i σ₂ => ps_first n (rh_rk L) p fo le (ps_search n L (rh_rk L) k (p + 1)) (L p) = ps_first n (rh_rk L) p fo le (ps_search n L (rh_rk L) k (p + 1)) ((L p).drop i) ∧ ci_T 45 fo σ₂ ∧ ci_T 46 le σ₂ ∧ pfr_ σ σ₂) (fun i σ₂ hi hI ih l3 => ?_) (fun σ₂ hI l3 => ?_) (L p).length 0 σ (by omega) ⟨rfl, hf, hl, fun _ _ _ _ => rfl⟩ l3
  · obtain ⟨hI0, hf2, hl2, hx2⟩ := hI
    have hE2 : env_ n L σ₂ := env_of hE hx2.lo
    have hqm : (L p).getD i 0 ∈ L p := (mem_get _ _).mpr ⟨i, hi, rfl⟩
    have hqn := ((hw.2.1 p hp).2 _ hqm).1
    have hst0 : ps_first n (rh_rk L) p fo le (ps_search n L (rh_rk L) k (p + 1)) ((L p).drop i) = (match (if rh_rk L p ((L p).getD i 0) < 8 then ps_with n (rh_rk L) p fo le (ps_search n L (rh_rk L) k (p + 1)) ((L p).getD i 0) else none) with | some r => some r | none => ps_first n (rh_rk L) p fo le (ps_search n L (rh_rk L) k (p + 1)) ((L p).drop (i + 1))) := by
      rw [List.drop_eq_getElem_cons hi]
      have h1 : (L p)[i] = (L p).getD i 0 := by rw [List.getD_eq_getElem?_getD, List.getElem?_eq_getElem hi]; rfl
      rw [h1]
      rfl
    have hst := hst0
    refine pm_iload_n d_P_search_15 rfl ?_
    refine pm_aload_n d_P_search_16 rfl ?_
    refine pm_getr d_P_search_17 hf_P_25 (hg.s rfl) (hg.i (by decide)) rfl (hg.r (by decide) rfl) ?_
    refine pm_iload_n d_P_search_20 rfl ?_
    refine pm_callR (i := 1) (ci := 1) (rest := [pm_I (nI i)]) [pm_I (nI p)] hB d_P_search_21 hc_P_54 (k_W_length hg hE2.2.1 hp8) (hg.s rfl) (hg.i (by decide)) rfl rfl rfl rfl (Nat.le_of_ble_eq_true rfl) (Nat.le_of_ble_eq_true rfl) (by omega) (by omega) ?_
    refine pm_icmp_ge_f 66 d_P_search_24 rfl (by rw [nI_leI (by omega) (by omega)]; omega) ?_
    refine pm_aload_n d_P_search_27 rfl ?_
    refine pm_getr d_P_search_28 hf_P_25 (hg.s rfl) (hg.i (by decide)) rfl (hg.r (by decide) rfl) ?_
    refine pm_iload_n d_P_search_31 rfl ?_
    refine pm_iload_n d_P_search_32 rfl ?_
    refine pm_callR (i := 1) (ci := 1) (rest := []) [pm_I (nI p), pm_I (nI i)] hB d_P_search_33 hc_P_58 (k_W_otherAt hg hE2.2.1 hp8 hi (by omega)) (hg.s rfl) (hg.i (by decide)) rfl rfl rfl rfl (Nat.le_of_ble_eq_true rfl) (Nat.le_of_ble_eq_true rfl) (by omega) (by omega) ?_
    refine pm_istore_n d_P_search_36 (by decide) ?_
    refine pm_aload_n d_P_search_37 rfl ?_
    refine pm_getr d_P_search_38 hf_P_25 (hg.s rfl) (hg.i (by decide)) rfl (hg.r (by decide) rfl) ?_
    refine pm_iload_n d_P_search_41 rfl ?_
    refine pm_iload_n d_P_search_42 rfl ?_
    refine pm_callR (i := 1) (ci := 1) (rest := []) [pm_I (nI p), pm_I (nI ((L p).getD i 0))] hB d_P_search_43 hc_P_62 (k_W_arePossible hg hw hE2.2.2 hp8 (hlb i)) (hg.s rfl) (hg.i (by decide)) rfl rfl rfl rfl (Nat.le_of_ble_eq_true rfl) (Nat.le_of_ble_eq_true rfl) (by omega) (by omega) ?_
    refine pm_if_eqB 60 d_P_search_46 rfl (fun c46 => ?_) (fun c46 => ?_)
    · refine pm_iinc' (nI (i + 1)) d_P_search_60 (by decide) rfl (pm_inc _) ?_
      refine pm_goto 15 d_P_search_63 rfl ?_
      -- at 15: lo=[some (pm_R 44), some (pm_I (nI p)), some (pm_I (nI (i + 1))), some (pm_I (nI ((L p).getD i 0)))] st=[]
      exact ih _ ⟨by rw [hI0, hst, if_neg (of_decide_eq_false c46)], hf2, hl2, hx2⟩ _
    · refine pm_aload_n d_P_search_49 rfl ?_
      refine pm_iload_n d_P_search_50 rfl ?_
      refine pm_iload_n d_P_search_51 rfl ?_
      refine pm_callWp (i := 44) (ci := 4) (rest := []) [pm_I (nI p), pm_I (nI ((L p).getD i 0))] hB d_P_search_52 hc_P_66 (k_P_searchWith (k := k) hg hB hw hp hqn hE2 hf2 hl2 hr hSr) (hg.s rfl) (hg.i (by decide)) rfl rfl rfl rfl (Nat.le_of_ble_eq_true rfl) (Nat.le_of_ble_eq_true rfl) (by omega) (by omega) (fun v52 σ₃ hv52 hq52 => ?_)
      obtain ⟨rfl, hf3, hl3, hx3⟩ := hq52
      show pm_Y b _ km_P_search 55 true [some (pm_R 44), some (pm_I (nI p)), some (pm_I (nI i)), some (pm_I (nI ((L p).getD i 0)))] [pm_I (bI ((ps_with n (rh_rk L) p fo le (ps_search n L (rh_rk L) k (p + 1)) ((L p).getD i 0)).isSome))] g σ₃ τ 0 0 0 0 _
      refine pm_if_eqB 60 d_P_search_55 rfl (fun c55 => ?_) (fun c55 => ?_)
      · refine pm_iinc' (nI (i + 1)) d_P_search_60 (by decide) rfl (pm_inc _) ?_
        refine pm_goto 15 d_P_search_63 rfl ?_
        -- at 15: lo=[some (pm_R 44), some (pm_I (nI p)), some (pm_I (nI (i + 1))), some (pm_I (nI ((L p).getD i 0)))] st=[]
        have e9 : ps_with n (rh_rk L) p fo le (ps_search n L (rh_rk L) k (p + 1)) ((L p).getD i 0) = none := Option.not_isSome_iff_eq_none.mp (by rw [c55]; decide)
        rw [e9] at hf3 hl3
        exact ih _ ⟨by rw [hI0, hst, if_pos (of_decide_eq_true c46), e9], hf3, hl3, hx2.tr hx3⟩ _
      · refine pm_iconst' (nI 1) d_P_search_58 (by decide) ?_
        exact pm_zreturn d_P_search_59 rfl (Or.inr rfl) (fun _ => rfl) (Nat.le_refl _) (Nat.le_refl _) ⟨⟨by rw [hps, hI0, hst, if_pos (of_decide_eq_true c46)]; cases e8 : ps_with n (rh_rk L) p fo le (ps_search n L (rh_rk L) k (p + 1)) ((L p).getD i 0) with
          | none => rw [e8] at c55; cases c55
          | some r => rfl, by
          rw [hps, hI0, hst, if_pos (of_decide_eq_true c46)]
          cases e8 : ps_with n (rh_rk L) p fo le (ps_search n L (rh_rk L) k (p + 1)) ((L p).getD i 0) with
          | none => rw [e8] at c55; cases c55
          | some r =>
            rw [e8] at hf3 hl3
            exact ⟨hf3, hl3, hx2.tr hx3⟩⟩, rfl⟩
  · obtain ⟨hI0, hf2, hl2, hx2⟩ := hI
    have hE2 : env_ n L σ₂ := env_of hE hx2.lo
    have hlast : ps_search n L (rh_rk L) (k + 1) p fo le = ps_with n (rh_rk L) p fo le (ps_search n L (rh_rk L) k (p + 1)) p := by
      rw [hps, hI0, List.drop_length]
      rfl
    refine pm_iload_n d_P_search_15 rfl ?_
    refine pm_aload_n d_P_search_16 rfl ?_
    refine pm_getr d_P_search_17 hf_P_25 (hg.s rfl) (hg.i (by decide)) rfl (hg.r (by decide) rfl) ?_
    refine pm_iload_n d_P_search_20 rfl ?_
    refine pm_callR (i := 1) (ci := 1) (rest := [pm_I (nI (L p).length)]) [pm_I (nI p)] hB d_P_search_21 hc_P_54 (k_W_length hg hE2.2.1 hp8) (hg.s rfl) (hg.i (by decide)) rfl rfl rfl rfl (Nat.le_of_ble_eq_true rfl) (Nat.le_of_ble_eq_true rfl) (by omega) (by omega) ?_
    refine pm_icmp_ge_t 66 d_P_search_24 rfl (by rw [nI_leI (by omega) (by omega)]; omega) ?_
    refine pm_aload_n d_P_search_66 rfl ?_
    refine pm_iload_n d_P_search_67 rfl ?_
    refine pm_iload_n d_P_search_68 rfl ?_
    refine pm_callWp (i := 44) (ci := 4) (rest := []) [pm_I (nI p), pm_I (nI p)] hB d_P_search_69 hc_P_66 (k_P_searchWith (k := k) hg hB hw hp hp hE2 hf2 hl2 hr hSr) (hg.s rfl) (hg.i (by decide)) rfl rfl rfl rfl (Nat.le_of_ble_eq_true rfl) (Nat.le_of_ble_eq_true rfl) (by omega) (by omega) (fun v69 σ₃ hv69 hq69 => ?_)
    obtain ⟨rfl, hf3, hl3, hx3⟩ := hq69
    show pm_Y b _ km_P_search 72 true [some (pm_R 44), some (pm_I (nI p)), some (pm_I (nI ((L p).length))), l3] [pm_I (bI ((ps_with n (rh_rk L) p fo le (ps_search n L (rh_rk L) k (p + 1)) p).isSome))] g σ₃ τ 0 0 0 0 _
    exact pm_zreturn d_P_search_72 rfl (bI_01 _) (fun _ => rfl) (Nat.le_refl _) (Nat.le_refl _) ⟨⟨by rw [hlast], by rw [hlast]; exact ⟨hf3, hl3, hx2.tr hx3⟩⟩, rfl⟩
theorem k_P_search {d : Nat} (hg : pm_gok 48 g) (hB : pm_base b) (hw : rh_wf n L) : ∀ (k p : Nat) (fo le : Nat → Option Nat) (σ : pI), p + k = n → env_ n L σ → ci_T 45 fo σ → ci_T 46 le σ → pk_ok p fo le → pm_C b (d + 2 * k + 4) km_P_search [pm_R 44, pm_I (nI p)] g σ τ 0 0 (qe_ (ps_search n L (rh_rk L) k p fo le) fo le σ τ)
  | 0, p, fo, le, σ, hk, hE, hf, hl, hr => by
    have h8 := hw.1
    have e0 : p = n := by omega
    rw [e0] at hr ⊢
    show pm_Y b (d + 2 * 0 + 3 + 1) km_P_search 0 false [some (pm_R 44), some (pm_I (nI n)), none, none] [] g σ τ 0 0 0 0 _
    refine pm_iload_n d_P_search_0 rfl ?_
    refine pm_aload_n d_P_search_1 rfl ?_
    refine pm_getr d_P_search_2 hf_P_25 (hg.s rfl) (hg.i (by decide)) rfl (hg.r (by decide) rfl) ?_
    refine pm_callR (i := 1) (ci := 1) (rest := [pm_I (nI n)]) [] hB d_P_search_5 hc_P_51 (k_W_count hg hE.1) (hg.s rfl) (hg.i (by decide)) rfl rfl rfl rfl (Nat.le_of_ble_eq_true rfl) (Nat.le_of_ble_eq_true rfl) (by omega) (by omega) ?_
    refine pm_icmp_lt_f 13 d_P_search_8 rfl (by rw [nI_ltI (by omega) (by omega)]; omega) ?_
    refine pm_iconst' (nI 1) d_P_search_11 (by decide) ?_
    exact pm_zreturn d_P_search_12 rfl (Or.inr rfl) (fun _ => rfl) (Nat.le_refl _) (Nat.le_refl _) ⟨⟨rfl, hf, hl, fun _ _ _ _ => rfl⟩, rfl⟩
  | k + 1, p, fo, le, σ, hk, hE, hf, hl, hr => by
    have h8 := hw.1
    have hp : p < n := by omega
    have hp8 : p < 8 := by omega
    have hSr : ∀ (fo le : Nat → Option Nat) (σ : pI), env_ n L σ → ci_T 45 fo σ → ci_T 46 le σ → pk_ok (p + 1) fo le → pm_C b (d + 2 * k + 2 + 2) km_P_search [pm_R 44, pm_I (nI (p + 1))] g σ τ 0 0 (qe_ (ps_search n L (rh_rk L) k (p + 1) fo le) fo le σ τ) := fun fo le σ h1 h2 h3 h4 => k_P_search hg hB hw k (p + 1) fo le σ (by omega) h1 h2 h3 h4
    show pm_Y b (d + 2 * k + 5 + 1) km_P_search 0 false [some (pm_R 44), some (pm_I (nI p)), none, none] [] g σ τ 0 0 0 0 _
    refine pm_iload_n d_P_search_0 rfl ?_
    refine pm_aload_n d_P_search_1 rfl ?_
    refine pm_getr d_P_search_2 hf_P_25 (hg.s rfl) (hg.i (by decide)) rfl (hg.r (by decide) rfl) ?_
    refine pm_callR (i := 1) (ci := 1) (rest := [pm_I (nI p)]) [] hB d_P_search_5 hc_P_51 (k_W_count hg hE.1) (hg.s rfl) (hg.i (by decide)) rfl rfl rfl rfl (Nat.le_of_ble_eq_true rfl) (Nat.le_of_ble_eq_true rfl) (by omega) (by omega) ?_
    refine pm_icmp_lt_t 13 d_P_search_8 rfl (by rw [nI_ltI (by omega) (by omega)]; omega) ?_
    refine pm_iconst' (nI 0) d_P_search_13 (by decide) ?_
    refine pm_istore_n d_P_search_14 (by decide) ?_
    -- at 15: lo=[some (pm_R 44), some (pm_I (nI p)), some (pm_I (nI 0)), none] st=[]
    refine pm_flag ?_
    exact l_P_search_15 hg hB hw hp hE hf hl hr hSr none
end P1
