/-! the other side: a whole assignment is looked at -/
def mA_ (n : Nat) (A : rh_A) (σ : pI) : Prop := σ 48 6 = nI A.1 ∧ (∀ p q, p < n → q < n → σ 52 (8 * p + q) = nI (A.2.1 p q)) ∧ (0 < A.1 → ∀ p, p < n → σ 53 p = nI (A.2.2 p))
def lk_I (n : Nat) (A : rh_A) (w : Nat → Nat) (σ₀ : pI) (i : Nat) (σ : pI) : Prop := σ 48 6 = nI A.1 ∧ (∀ p q, p < n → q < n → σ 52 (8 * p + q) = nI (if p < i ∧ w p = q then A.2.1 p q + 1 else A.2.1 p q)) ∧ (A.1 = 0 → ∀ p, p < i → σ 53 p = nI (w p)) ∧ (0 < A.1 → ∀ p, p < n → σ 53 p = nI (A.2.2 p)) ∧ ∀ c x, c ≠ 52 → c ≠ 53 → σ c x = σ₀ c x
theorem lk_s {n : Nat} {A : rh_A} {w : Nat → Nat} {σ₀ σ : pI} {i v : Nat} (hn : n ≤ 8) (h : lk_I n A w σ₀ i σ) (hi : i < n) (hwi : w i < n) (h0 : A.1 = 0 → v = w i) (h1 : 0 < A.1 → v = A.2.2 i) : lk_I n A w σ₀ (i + 1) (pm_up (pm_up σ 52 (8 * i + w i) (nI (A.2.1 i (w i) + 1))) 53 i (nI v)) := by
  obtain ⟨a1, a2, a3, a4, a5⟩ := h
  refine ⟨?_, fun p q hp hq => ?_, fun z p hp => ?_, fun z p hp => ?_, fun c x c1 c2 => ?_⟩
  · rw [pm_up_ne (by omega), pm_up_ne (by omega)]; exact a1
  · rw [pm_up_ne (by omega)]
    by_cases e : p = i ∧ w p = q
    · obtain ⟨e1, e2⟩ := e
      subst e1
      subst e2
      rw [pm_up_at, if_pos ⟨by omega, rfl⟩]
    · rw [pm_up_ne (fun z => e ⟨by omega, by
        have : p = i := by omega
        rw [this]; omega⟩), a2 p q hp hq]
      by_cases e2 : p < i ∧ w p = q
      · rw [if_pos e2, if_pos ⟨by omega, e2.2⟩]
      · rw [if_neg e2, if_neg (fun z => e2 ⟨by
          have : p ≠ i := fun y => e ⟨y, z.2⟩
          omega, z.2⟩)]
  · by_cases e : p = i
    · subst e; rw [pm_up_at, h0 z]
    · rw [pm_up_ne (by omega), pm_up_ne (by omega)]; exact a3 z p (by omega)
  · by_cases e : p = i
    · subst e; rw [pm_up_at, h1 z]
    · rw [pm_up_ne (by omega), pm_up_ne (by omega)]; exact a4 z p hp
  · rw [pm_up_ne (by omega), pm_up_ne (by omega)]; exact a5 c x c1 c2
theorem lk_end {n : Nat} {A : rh_A} {w : Nat → Nat} {σ₀ σ : pI} (h : lk_I n A w σ₀ n σ) : mA_ n (rh_acc n A w) (pm_up σ 48 6 (nI (A.1 + 1))) := by
  obtain ⟨a1, a2, a3, a4, a5⟩ := h
  refine ⟨pm_up_at, fun p q hp hq => ?_, fun _ p hp => ?_⟩
  · rw [pm_up_ne (by omega)]; exact a2 p q hp hq
  · rw [pm_up_ne (by omega)]
    show σ 53 p = nI (if A.1 = 0 ∧ p < n then w p else A.2.2 p)
    by_cases e : A.1 = 0
    · rw [if_pos ⟨e, hp⟩]; exact a3 e p hp
    · rw [if_neg (fun z => e z.1)]; exact a4 (by omega) p hp
def tp_ (w s : Nat → Nat) (i : Nat) (σ : pI) : Prop := ∀ r, r < i → σ 55 r = nI (if s r % 2 = 1 then s r else 0) ∧ σ 54 r = (if s r % 2 = 1 then nI (w r) else -1)
theorem tp_s {w s : Nat → Nat} {i x : Nat} {y : Int32} {σ : pI} (h : tp_ w s i σ) (hx : x = if s i % 2 = 1 then s i else 0) (hy : y = if s i % 2 = 1 then nI (w i) else -1) : tp_ w s (i + 1) (pm_up (pm_up σ 55 i (nI x)) 54 i y) := by
  intro r hr
  by_cases e : r = i
  · subst e; exact ⟨by rw [pm_up_ne (by omega), pm_up_at, hx], by rw [pm_up_at, hy]⟩
  · have := h r (by omega)
    exact ⟨by rw [pm_up_ne (by omega), pm_up_ne (by omega)]; exact this.1, by rw [pm_up_ne (by omega), pm_up_ne (by omega)]; exact this.2⟩
section M5
variable {b : pB} {g : pG} {σ : pI} {τ : pJ} {d n p q i j h a c x y : Nat} {L : Nat → List Nat} {w u s : Nat → Nat} {la ch : Nat → Option Nat} {A : rh_A}
theorem l_M_look_39 (hg : pm_gok 61 g) (hB : pm_base b) (hw : rh_wf n L) (h1 : σ 48 1 = nI n) (hR : mr_ n L σ) (hW : ∀ x, x < n → σ 56 x = nI (w x)) (hwn : ∀ x, x < n → w x < n) (hA : mA_ n A σ) (hA9 : A.1 < 2 ^ 31) (c32 : ns_ (fun l k => wl_ L l k (w l) (w k)) n = true) : pm_Y b (d + 2) km_M_look 39 true [some (pm_R 48), some (pm_I (nI 1)), some (pm_I (nI 0))] [] g σ τ 0 0 0 0 (pm_Wp (fun v σ' => v = some (nI 0) ∧ mA_ n (if ns_ (fun l k => wl_ L l k (w l) (w k)) n = true then rh_acc n A w else A) σ' ∧ ∀ c x, c ≠ 52 → c ≠ 53 → ¬ (c = 48 ∧ x = 6) → σ' c x = σ c x) τ) := by
  have h8 := hw.1
  refine pm_for n (fun i σ₁ => pm_Y b (d + 2) km_M_look 39 true [some (pm_R 48), some (pm_I (nI 1)), some (pm_I (nI i))] [] g σ₁ τ 0 0 0 0 (pm_Wp (fun v σ' => v = some (nI 0) ∧ mA_ n (if ns_ (fun l k => wl_ L l k (w l) (w k)) n = true then rh_acc n A w else A) σ' ∧ ∀ c x, c ≠ 52 → c ≠ 53 → ¬ (c = 48 ∧ x = 6) → σ' c x = σ c x) τ)) (lk_I n A w σ) (fun i σ₁ hi hI ih => ?_) (fun σ₁ hI => ?_) n 0 σ (by omega) ⟨hA.1, fun p q hp hq => by rw [if_neg (fun z => absurd z.1 (Nat.not_lt_zero p))]; exact hA.2.1 p q hp hq, fun _ p hp => absurd hp (Nat.not_lt_zero p), hA.2.2, fun _ _ _ _ => rfl⟩
  · have wi := hwn i hi
    by_cases e : A.1 = 0
    · skip
      refine pm_iload_n d_M_look_39 rfl ?_
      refine pm_aload_n d_M_look_40 rfl ?_
      refine pm_geti' (nI n) d_M_look_41 hf_M_47 (hg.s rfl) (hg.i (by decide)) rfl ((hI.2.2.2.2 48 1 (by omega) (by omega)).trans h1) ?_
      refine pm_icmp_ge_f 101 d_M_look_44 rfl (by rw [nI_leI (by omega) (by omega)]; omega) ?_
      refine pm_aload_n d_M_look_47 rfl ?_
      refine pm_getr d_M_look_48 hf_M_19 (hg.s rfl) (hg.i (by decide)) rfl (hg.r (by decide) rfl) ?_
      refine pm_bipush' (nI 8) d_M_look_51 (by decide) ?_
      refine pm_iload_n d_M_look_53 rfl ?_
      refine pm_imulN d_M_look_54 ?_
      refine pm_aload_n d_M_look_55 rfl ?_
      refine pm_getr d_M_look_56 hf_M_31 (hg.s rfl) (hg.i (by decide)) rfl (hg.r (by decide) rfl) ?_
      refine pm_iload_n d_M_look_59 rfl ?_
      refine pm_iaload' i (nI (w i)) d_M_look_60 (hg.s rfl) (hg.i (by decide)) rfl (by omega) (by decide) ((hI.2.2.2.2 56 i (by omega) (by omega)).trans (hW i hi)) ?_
      refine pm_iaddN d_M_look_61 ?_
      refine pm_dup2 d_M_look_62 rfl rfl ?_
      refine pm_iaload' ((8 * i) + (w i)) (nI (A.2.1 i (w i))) d_M_look_63 (hg.s rfl) (hg.i (by decide)) rfl (by omega) (by decide) (by rw [hI.2.1 i (w i) hi (hwn i hi), if_neg (fun z => absurd z.1 (Nat.lt_irrefl i))]) ?_
      refine pm_iconst' (nI 1) d_M_look_64 (by decide) ?_
      refine pm_iaddN d_M_look_65 ?_
      refine pm_iastore ((8 * i) + (w i)) d_M_look_66 (hg.s rfl) (hg.i (by decide)) rfl (by omega) (by decide) ?_
      refine pm_aload_n d_M_look_67 rfl ?_
      refine pm_getr d_M_look_68 hf_M_22 (hg.s rfl) (hg.i (by decide)) rfl (hg.r (by decide) rfl) ?_
      refine pm_iload_n d_M_look_71 rfl ?_
      refine pm_aload_n d_M_look_72 rfl ?_
      refine pm_geti' (nI A.1) d_M_look_73 hf_M_124 (hg.s rfl) (hg.i (by decide)) rfl (by rw [pm_up_ne (by omega)]; exact hI.1) ?_
      refine pm_if_ne_f 88 d_M_look_76 rfl (by rw [e]; rfl) ?_
      refine pm_aload_n d_M_look_79 rfl ?_
      refine pm_getr d_M_look_80 hf_M_31 (hg.s rfl) (hg.i (by decide)) rfl (hg.r (by decide) rfl) ?_
      refine pm_iload_n d_M_look_83 rfl ?_
      refine pm_iaload' i (nI (w i)) d_M_look_84 (hg.s rfl) (hg.i (by decide)) rfl (by omega) (by decide) (by rw [pm_up_ne (by omega), hI.2.2.2.2 56 i (by omega) (by omega)]; exact hW i hi) ?_
      refine pm_goto 94 d_M_look_85 rfl ?_
      refine pm_iastore i d_M_look_94 (hg.s rfl) (hg.i (by decide)) rfl (by omega) (by decide) ?_
      refine pm_iinc' (nI (i + 1)) d_M_look_95 (by decide) rfl (pm_inc _) ?_
      refine pm_goto 39 d_M_look_98 rfl ?_
      -- at 39: lo=[some (pm_R 48), some (pm_I (nI 1)), some (pm_I (nI (i + 1)))] st=[]
      exact ih _ (lk_s h8 hI hi wi (fun _ => rfl) (fun z => by omega))
    · skip
      refine pm_iload_n d_M_look_39 rfl ?_
      refine pm_aload_n d_M_look_40 rfl ?_
      refine pm_geti' (nI n) d_M_look_41 hf_M_47 (hg.s rfl) (hg.i (by decide)) rfl ((hI.2.2.2.2 48 1 (by omega) (by omega)).trans h1) ?_
      refine pm_icmp_ge_f 101 d_M_look_44 rfl (by rw [nI_leI (by omega) (by omega)]; omega) ?_
      refine pm_aload_n d_M_look_47 rfl ?_
      refine pm_getr d_M_look_48 hf_M_19 (hg.s rfl) (hg.i (by decide)) rfl (hg.r (by decide) rfl) ?_
      refine pm_bipush' (nI 8) d_M_look_51 (by decide) ?_
      refine pm_iload_n d_M_look_53 rfl ?_
      refine pm_imulN d_M_look_54 ?_
      refine pm_aload_n d_M_look_55 rfl ?_
      refine pm_getr d_M_look_56 hf_M_31 (hg.s rfl) (hg.i (by decide)) rfl (hg.r (by decide) rfl) ?_
      refine pm_iload_n d_M_look_59 rfl ?_
      refine pm_iaload' i (nI (w i)) d_M_look_60 (hg.s rfl) (hg.i (by decide)) rfl (by omega) (by decide) ((hI.2.2.2.2 56 i (by omega) (by omega)).trans (hW i hi)) ?_
      refine pm_iaddN d_M_look_61 ?_
      refine pm_dup2 d_M_look_62 rfl rfl ?_
      refine pm_iaload' ((8 * i) + (w i)) (nI (A.2.1 i (w i))) d_M_look_63 (hg.s rfl) (hg.i (by decide)) rfl (by omega) (by decide) (by rw [hI.2.1 i (w i) hi (hwn i hi), if_neg (fun z => absurd z.1 (Nat.lt_irrefl i))]) ?_
      refine pm_iconst' (nI 1) d_M_look_64 (by decide) ?_
      refine pm_iaddN d_M_look_65 ?_
      refine pm_iastore ((8 * i) + (w i)) d_M_look_66 (hg.s rfl) (hg.i (by decide)) rfl (by omega) (by decide) ?_
      refine pm_aload_n d_M_look_67 rfl ?_
      refine pm_getr d_M_look_68 hf_M_22 (hg.s rfl) (hg.i (by decide)) rfl (hg.r (by decide) rfl) ?_
      refine pm_iload_n d_M_look_71 rfl ?_
      refine pm_aload_n d_M_look_72 rfl ?_
      refine pm_geti' (nI A.1) d_M_look_73 hf_M_124 (hg.s rfl) (hg.i (by decide)) rfl (by rw [pm_up_ne (by omega)]; exact hI.1) ?_
      refine pm_if_ne_t 88 d_M_look_76 rfl (nI_ne0 (by omega) (by omega)) ?_
      refine pm_aload_n d_M_look_88 rfl ?_
      refine pm_getr d_M_look_89 hf_M_22 (hg.s rfl) (hg.i (by decide)) rfl (hg.r (by decide) rfl) ?_
      refine pm_iload_n d_M_look_92 rfl ?_
      refine pm_iaload' i (nI (A.2.2 i)) d_M_look_93 (hg.s rfl) (hg.i (by decide)) rfl (by omega) (by decide) (by rw [pm_up_ne (by omega)]; exact hI.2.2.2.1 (by omega) i hi) ?_
      refine pm_iastore i d_M_look_94 (hg.s rfl) (hg.i (by decide)) rfl (by omega) (by decide) ?_
      refine pm_iinc' (nI (i + 1)) d_M_look_95 (by decide) rfl (pm_inc _) ?_
      refine pm_goto 39 d_M_look_98 rfl ?_
      -- at 39: lo=[some (pm_R 48), some (pm_I (nI 1)), some (pm_I (nI (i + 1)))] st=[]
      exact ih _ (lk_s h8 hI hi wi (fun z => absurd z e) (fun _ => rfl))
  · skip
    refine pm_iload_n d_M_look_39 rfl ?_
    refine pm_aload_n d_M_look_40 rfl ?_
    refine pm_geti' (nI n) d_M_look_41 hf_M_47 (hg.s rfl) (hg.i (by decide)) rfl ((hI.2.2.2.2 48 1 (by omega) (by omega)).trans h1) ?_
    refine pm_icmp_ge_t 101 d_M_look_44 rfl (by rw [nI_leI (by omega) (by omega)]; omega) ?_
    refine pm_aload_n d_M_look_101 rfl ?_
    refine pm_dup d_M_look_102 rfl ?_
    refine pm_geti' (nI A.1) d_M_look_103 hf_M_124 (hg.s rfl) (hg.i (by decide)) rfl hI.1 ?_
    refine pm_iconst' (nI 1) d_M_look_106 (by decide) ?_
    refine pm_iaddN d_M_look_107 ?_
    refine pm_puti d_M_look_108 hp_M_124 (hg.s rfl) (hg.i (by decide)) rfl ?_
    refine pm_iconst' (nI 0) d_M_look_111 (by decide) ?_
    exact pm_zreturn d_M_look_112 rfl (Or.inl rfl) (fun _ => rfl) (Nat.le_refl _) (Nat.le_refl _) ⟨⟨rfl, by rw [if_pos c32]; exact lk_end hI, fun c x e1 e2 e3 => by rw [pm_up_ne e3]; exact hI.2.2.2.2 c x e1 e2⟩, rfl⟩
theorem k_M_look_1 (hg : pm_gok 61 g) (hB : pm_base b) (hw : rh_wf n L) (h1 : σ 48 1 = nI n) (hR : mr_ n L σ) (hW : ∀ x, x < n → σ 56 x = nI (w x)) (hwn : ∀ x, x < n → w x < n) (hA : mA_ n A σ) (hA9 : A.1 < 2 ^ 31) : pm_C b (d + 2) km_M_look [pm_R 48, pm_I (nI 1)] g σ τ 0 0 (pm_Wp (fun v σ' => v = some (nI 0) ∧ mA_ n (if ns_ (fun l k => wl_ L l k (w l) (w k)) n = true then rh_acc n A w else A) σ' ∧ ∀ c x, c ≠ 52 → c ≠ 53 → ¬ (c = 48 ∧ x = 6) → σ' c x = σ c x) τ) := by
  have h8 := hw.1
  show pm_Y b (d + 1 + 1) km_M_look 0 false [some (pm_R 48), some (pm_I (nI 1)), none] [] g σ τ 0 0 0 0 _
  refine pm_iload_n d_M_look_0 rfl ?_
  refine pm_if_ne_t 24 d_M_look_1 rfl (by decide) ?_
  refine pm_aload_n d_M_look_24 rfl ?_
  refine pm_aload_n d_M_look_25 rfl ?_
  refine pm_getr d_M_look_26 hf_M_31 (hg.s rfl) (hg.i (by decide)) rfl (hg.r (by decide) rfl) ?_
  refine pm_callR (i := 48) (ci := 5) (rest := []) [pm_R 56] hB d_M_look_29 hc_M_120 (pm_C_up (show 0 + 1 ≤ d + 1 by omega) (k_M_isStable hg hB hw h1 hR rfl (hg.i (by decide)) hW hwn)) (hg.s rfl) (hg.i (by decide)) rfl rfl rfl rfl (Nat.le_of_ble_eq_true rfl) (Nat.le_of_ble_eq_true rfl) (by omega) (by omega) ?_
  refine pm_if_neB 37 d_M_look_32 rfl (fun c32 => ?_) (fun c32 => ?_)
  · refine pm_iconst' (nI 0) d_M_look_37 (by decide) ?_
    refine pm_istore_n d_M_look_38 (by decide) ?_
    -- at 39: lo=[some (pm_R 48), some (pm_I (nI 1)), some (pm_I (nI 0))] st=[]
    exact pm_flag (l_M_look_39 hg hB hw h1 hR hW hwn hA hA9 c32)
  · refine pm_iconst' (nI 0) d_M_look_35 (by decide) ?_
    exact pm_zreturn d_M_look_36 rfl (Or.inl rfl) (fun _ => rfl) (Nat.le_refl _) (Nat.le_refl _) ⟨⟨rfl, by rw [if_neg (by rw [c32]; decide)]; exact hA, fun _ _ _ _ _ => rfl⟩, rfl⟩
theorem k_M_isPartition (hg : pm_gok 61 g) (hB : pm_base b) (hw : rh_wf n L) (h1 : σ 48 1 = nI n) (hR : mr_ n L σ) (hW : ∀ x, x < n → σ 56 x = nI (w x)) (hwn : ∀ x, x < n → w x < n) (hT : mt_ n 57 la σ) (hla : ∀ r, r < n → la (w r) = some r) (hu : ∀ x, x < n → la x = some (u x) ∧ u x < n) : pm_C b (d + 2) km_M_isPartition [pm_R 48] g σ τ 0 0 (pm_Wp (fun v σ' => v = some (bI (ns_ (fun l k => wl_ L l k (u l) (u k)) n)) ∧ mt_ n 57 la σ' ∧ ∀ c x, c ≠ 57 → σ' c x = σ c x) τ) := by
  have h8 := hw.1
  show pm_Y b (d + 1 + 1) km_M_isPartition 0 false [some (pm_R 48), none] [] g σ τ 0 0 0 0 _
  refine pm_iconst' (nI 0) d_M_isPartition_0 (by decide) ?_
  refine pm_istore_n d_M_isPartition_1 (by decide) ?_
  -- at 2: lo=[some (pm_R 48), some (pm_I (nI 0))] st=[]
  refine pm_flag ?_
  refine pm_for n (fun i σ₁ => pm_Y b (d + 1 + 1) km_M_isPartition 2 true [some (pm_R 48), some (pm_I (nI i))] [] g σ₁ τ 0 0 0 0 (pm_Wp (fun v σ' => v = some (bI (ns_ (fun l k => wl_ L l k (u l) (u k)) n)) ∧ mt_ n 57 la σ' ∧ ∀ c x, c ≠ 57 → σ' c x = σ c x) τ)) (fun i σ₁ => mt_ n 57 la σ₁ ∧ ∀ c x, c ≠ 57 → σ₁ c x = σ c x) (fun i σ₁ hi hI ih => ?_) (fun σ₁ hI => ?_) n 0 σ (by omega) ⟨hT, fun _ _ _ => rfl⟩
  · have wi := hwn i hi
    refine pm_iload_n d_M_isPartition_2 rfl ?_
    refine pm_aload_n d_M_isPartition_3 rfl ?_
    refine pm_geti' (nI n) d_M_isPartition_4 hf_M_47 (hg.s rfl) (hg.i (by decide)) rfl ((hI.2 48 1 (by omega)).trans h1) ?_
    refine pm_icmp_ge_f 28 d_M_isPartition_7 rfl (by rw [nI_leI (by omega) (by omega)]; omega) ?_
    refine pm_aload_n d_M_isPartition_10 rfl ?_
    refine pm_getr d_M_isPartition_11 hf_M_34 (hg.s rfl) (hg.i (by decide)) rfl (hg.r (by decide) rfl) ?_
    refine pm_aload_n d_M_isPartition_14 rfl ?_
    refine pm_getr d_M_isPartition_15 hf_M_31 (hg.s rfl) (hg.i (by decide)) rfl (hg.r (by decide) rfl) ?_
    refine pm_iload_n d_M_isPartition_18 rfl ?_
    refine pm_iaload' i (nI (w i)) d_M_isPartition_19 (hg.s rfl) (hg.i (by decide)) rfl (by omega) (by decide) ((hI.2 56 i (by omega)).trans (hW i hi)) ?_
    refine pm_iload_n d_M_isPartition_20 rfl ?_
    refine pm_iastore (w i) d_M_isPartition_21 (hg.s rfl) (hg.i (by decide)) rfl (by omega) (by decide) ?_
    refine pm_iinc' (nI (i + 1)) d_M_isPartition_22 (by decide) rfl (pm_inc _) ?_
    refine pm_goto 2 d_M_isPartition_25 rfl ?_
    -- at 2: lo=[some (pm_R 48), some (pm_I (nI (i + 1)))] st=[]
    exact ih _ ⟨fun x hx => by
      by_cases e : x = w i
      · rw [e, pm_up_at, hla i hi]; rfl
      · rw [pm_up_ne (by omega)]; exact hI.1 x hx, fun c x hc => by rw [pm_up_ne (by omega)]; exact hI.2 c x hc⟩
  · skip
    refine pm_iload_n d_M_isPartition_2 rfl ?_
    refine pm_aload_n d_M_isPartition_3 rfl ?_
    refine pm_geti' (nI n) d_M_isPartition_4 hf_M_47 (hg.s rfl) (hg.i (by decide)) rfl ((hI.2 48 1 (by omega)).trans h1) ?_
    refine pm_icmp_ge_t 28 d_M_isPartition_7 rfl (by rw [nI_leI (by omega) (by omega)]; omega) ?_
    refine pm_aload_n d_M_isPartition_28 rfl ?_
    refine pm_aload_n d_M_isPartition_29 rfl ?_
    refine pm_getr d_M_isPartition_30 hf_M_34 (hg.s rfl) (hg.i (by decide)) rfl (hg.r (by decide) rfl) ?_
    refine pm_callR (i := 48) (ci := 5) (rest := []) [pm_R 57] hB d_M_isPartition_33 hc_M_120 (pm_C_up (show 0 + 1 ≤ d + 1 by omega) (k_M_isStable hg hB hw ((hI.2 48 1 (by omega)).trans h1) (fun p q hp hq => (hI.2 59 _ (by omega)).trans (hR p q hp hq)) rfl (hg.i (by decide)) (fun x hx => by rw [hI.1 x hx, (hu x hx).1]; rfl) (fun x hx => (hu x hx).2))) (hg.s rfl) (hg.i (by decide)) rfl rfl rfl rfl (Nat.le_of_ble_eq_true rfl) (Nat.le_of_ble_eq_true rfl) (by omega) (by omega) ?_
    exact pm_zreturn d_M_isPartition_36 rfl (bI_01 _) (fun _ => rfl) (Nat.le_refl _) (Nat.le_refl _) ⟨⟨rfl, hI⟩, rfl⟩
theorem l_M_takes_19 {σ₁ : pI} {E : pE} (hg : pm_gok 61 g) (hn : n ≤ 8) (hW1 : ∀ x, x < n → σ₁ 56 x = nI (w x)) (hwn : ∀ x, x < n → w x < n) (hi : i < n) (hs : cy_is w i (s i)) (K : pm_Y b d km_M_takesParties 37 true [some (pm_R 48), some (pm_I (nI i)), some (pm_I (nI (s i))), some (pm_I (nI i))] [] g σ₁ τ 0 0 0 0 E) : ∀ (m j : Nat), j + m = s i → 1 ≤ j → pm_Y b d km_M_takesParties 19 true [some (pm_R 48), some (pm_I (nI i)), some (pm_I (nI j)), some (pm_I (nI (cy_it w j i)))] [] g σ₁ τ 0 0 0 0 E
  | 0, j, hm, h0 => by
      have e : j = s i := by omega
      refine pm_iload_n d_M_takesParties_19 rfl ?_
      refine pm_iload_n d_M_takesParties_20 rfl ?_
      refine pm_icmp_eq_t 37 d_M_takesParties_21 rfl (by rw [e, hs.2.1]) ?_
      -- at 37: lo=[some (pm_R 48), some (pm_I (nI i)), some (pm_I (nI j)), some (pm_I (nI (cy_it w j i)))] st=[]
      rw [e, hs.2.1]
      exact K
  | m + 1, j, hm, h0 => by
      have hc := cy_it_lt hwn hi j
      refine pm_iload_n d_M_takesParties_19 rfl ?_
      refine pm_iload_n d_M_takesParties_20 rfl ?_
      refine pm_icmp_eq_f 37 d_M_takesParties_21 rfl (fun z => hs.2.2 j h0 (by omega) ((nI_eq (by omega) (by omega)).mp z)) ?_
      refine pm_iinc' (nI (j + 1)) d_M_takesParties_24 (by decide) rfl (pm_inc _) ?_
      refine pm_aload_n d_M_takesParties_27 rfl ?_
      refine pm_getr d_M_takesParties_28 hf_M_31 (hg.s rfl) (hg.i (by decide)) rfl (hg.r (by decide) rfl) ?_
      refine pm_iload_n d_M_takesParties_31 rfl ?_
      refine pm_iaload' (cy_it w j i) (nI (w (cy_it w j i))) d_M_takesParties_32 (hg.s rfl) (hg.i (by decide)) rfl (by omega) (by decide) (hW1 _ (cy_it_lt hwn hi j)) ?_
      refine pm_istore_n d_M_takesParties_33 (by decide) ?_
      refine pm_goto 19 d_M_takesParties_34 rfl ?_
      -- at 19: lo=[some (pm_R 48), some (pm_I (nI i)), some (pm_I (nI (j + 1))), some (pm_I (nI (w (cy_it w j i))))] st=[]
      exact l_M_takes_19 hg hn hW1 hwn hi hs K m (j + 1) (by omega) (by omega)
theorem k_M_takesParties (hg : pm_gok 61 g) (hn : n ≤ 8) (h1 : σ 48 1 = nI n) (hW : ∀ x, x < n → σ 56 x = nI (w x)) (hwn : ∀ x, x < n → w x < n) (hs : ∀ p, p < n → cy_is w p (s p) ∧ s p ≤ n) : pm_C b (d) km_M_takesParties [pm_R 48] g σ τ 0 0 (pm_Wp (fun v σ' => v = some (nI 1) ∧ tp_ w s n σ' ∧ ∀ c x, c ≠ 54 → c ≠ 55 → σ' c x = σ c x) τ) := by
  show pm_Y b d km_M_takesParties 0 false [some (pm_R 48), none, none, none] [] g σ τ 0 0 0 0 _
  refine pm_iconst' (nI 0) d_M_takesParties_0 (by decide) ?_
  refine pm_istore_n d_M_takesParties_1 (by decide) ?_
  -- at 2: lo=[some (pm_R 48), some (pm_I (nI 0)), none, none] st=[]
  refine pm_flag ?_
  refine pm_for n (fun i σ₁ => ∀ l2 l3 : Option pV, pm_Y b d km_M_takesParties 2 true [some (pm_R 48), some (pm_I (nI i)), l2, l3] [] g σ₁ τ 0 0 0 0 (pm_Wp (fun v σ' => v = some (nI 1) ∧ tp_ w s n σ' ∧ ∀ c x, c ≠ 54 → c ≠ 55 → σ' c x = σ c x) τ)) (fun i σ₁ => tp_ w s i σ₁ ∧ ∀ c x, c ≠ 54 → c ≠ 55 → σ₁ c x = σ c x) (fun i σ₁ hi hI ih l2 l3 => ?_) (fun σ₁ hI l2 l3 => ?_) n 0 σ (by omega) ⟨fun r hr => absurd hr (Nat.not_lt_zero r), fun _ _ _ _ => rfl⟩ none none
  · have wi := hwn i hi
    have hsn := (hs i hi).2
    refine pm_iload_n d_M_takesParties_2 rfl ?_
    refine pm_aload_n d_M_takesParties_3 rfl ?_
    refine pm_geti' (nI n) d_M_takesParties_4 hf_M_47 (hg.s rfl) (hg.i (by decide)) rfl ((hI.2 48 1 (by omega) (by omega)).trans h1) ?_
    refine pm_icmp_ge_f 84 d_M_takesParties_7 rfl (by rw [nI_leI (by omega) (by omega)]; omega) ?_
    refine pm_iconst' (nI 1) d_M_takesParties_10 (by decide) ?_
    refine pm_istore_n d_M_takesParties_11 (by decide) ?_
    refine pm_aload_n d_M_takesParties_12 rfl ?_
    refine pm_getr d_M_takesParties_13 hf_M_31 (hg.s rfl) (hg.i (by decide)) rfl (hg.r (by decide) rfl) ?_
    refine pm_iload_n d_M_takesParties_16 rfl ?_
    refine pm_iaload' i (nI (w i)) d_M_takesParties_17 (hg.s rfl) (hg.i (by decide)) rfl (by omega) (by decide) ((hI.2 56 i (by omega) (by omega)).trans (hW i hi)) ?_
    refine pm_istore_n d_M_takesParties_18 (by decide) ?_
    -- at 19: lo=[some (pm_R 48), some (pm_I (nI i)), some (pm_I (nI 1)), some (pm_I (nI (w i)))] st=[]
    refine l_M_takes_19 (s := s) hg hn (fun x hx => (hI.2 56 x (by omega) (by omega)).trans (hW x hx)) hwn hi (hs i hi).1 ?_ (s i - 1) 1 (by have := (hs i hi).1.1; omega) (Nat.le_refl 1)
    by_cases e : s i % 2 = 1
    · skip
      refine pm_aload_n d_M_takesParties_37 rfl ?_
      refine pm_getr d_M_takesParties_38 hf_M_28 (hg.s rfl) (hg.i (by decide)) rfl (hg.r (by decide) rfl) ?_
      refine pm_iload_n d_M_takesParties_41 rfl ?_
      refine pm_iload_n d_M_takesParties_42 rfl ?_
      refine pm_iconst' (nI 2) d_M_takesParties_43 (by decide) ?_
      refine pm_iremN d_M_takesParties_44 (by omega) (by omega) (by omega) ?_
      refine pm_iconst' (nI 1) d_M_takesParties_45 (by decide) ?_
      refine pm_icmp_ne_f 53 d_M_takesParties_46 rfl (by rw [e]) ?_
      refine pm_iload_n d_M_takesParties_49 rfl ?_
      refine pm_goto 54 d_M_takesParties_50 rfl ?_
      refine pm_iastore i d_M_takesParties_54 (hg.s rfl) (hg.i (by decide)) rfl (by omega) (by decide) ?_
      refine pm_aload_n d_M_takesParties_55 rfl ?_
      refine pm_getr d_M_takesParties_56 hf_M_25 (hg.s rfl) (hg.i (by decide)) rfl (hg.r (by decide) rfl) ?_
      refine pm_iload_n d_M_takesParties_59 rfl ?_
      refine pm_iload_n d_M_takesParties_60 rfl ?_
      refine pm_iconst' (nI 2) d_M_takesParties_61 (by decide) ?_
      refine pm_iremN d_M_takesParties_62 (by omega) (by omega) (by omega) ?_
      refine pm_iconst' (nI 1) d_M_takesParties_63 (by decide) ?_
      refine pm_icmp_ne_f 76 d_M_takesParties_64 rfl (by rw [e]) ?_
      refine pm_aload_n d_M_takesParties_67 rfl ?_
      refine pm_getr d_M_takesParties_68 hf_M_31 (hg.s rfl) (hg.i (by decide)) rfl (hg.r (by decide) rfl) ?_
      refine pm_iload_n d_M_takesParties_71 rfl ?_
      refine pm_iaload' i (nI (w i)) d_M_takesParties_72 (hg.s rfl) (hg.i (by decide)) rfl (by omega) (by decide) (by rw [pm_up_ne (by omega), hI.2 56 i (by omega) (by omega)]; exact hW i hi) ?_
      refine pm_goto 77 d_M_takesParties_73 rfl ?_
      refine pm_iastore i d_M_takesParties_77 (hg.s rfl) (hg.i (by decide)) rfl (by omega) (by decide) ?_
      refine pm_iinc' (nI (i + 1)) d_M_takesParties_78 (by decide) rfl (pm_inc _) ?_
      refine pm_goto 2 d_M_takesParties_81 rfl ?_
      -- at 2: lo=[some (pm_R 48), some (pm_I (nI (i + 1))), some (pm_I (nI (s i))), some (pm_I (nI i))] st=[]
      exact ih _ ⟨tp_s hI.1 (by rw [if_pos e]) (by rw [if_pos e]), fun c x c1 c2 => by rw [pm_up_ne (by omega), pm_up_ne (by omega)]; exact hI.2 c x c1 c2⟩ _ _
    · skip
      refine pm_aload_n d_M_takesParties_37 rfl ?_
      refine pm_getr d_M_takesParties_38 hf_M_28 (hg.s rfl) (hg.i (by decide)) rfl (hg.r (by decide) rfl) ?_
      refine pm_iload_n d_M_takesParties_41 rfl ?_
      refine pm_iload_n d_M_takesParties_42 rfl ?_
      refine pm_iconst' (nI 2) d_M_takesParties_43 (by decide) ?_
      refine pm_iremN d_M_takesParties_44 (by omega) (by omega) (by omega) ?_
      refine pm_iconst' (nI 1) d_M_takesParties_45 (by decide) ?_
      refine pm_icmp_ne_t 53 d_M_takesParties_46 rfl (fun z => e ((nI_eq (by omega) (by omega)).mp z)) ?_
      refine pm_iconst' (nI 0) d_M_takesParties_53 (by decide) ?_
      refine pm_iastore i d_M_takesParties_54 (hg.s rfl) (hg.i (by decide)) rfl (by omega) (by decide) ?_
      refine pm_aload_n d_M_takesParties_55 rfl ?_
      refine pm_getr d_M_takesParties_56 hf_M_25 (hg.s rfl) (hg.i (by decide)) rfl (hg.r (by decide) rfl) ?_
      refine pm_iload_n d_M_takesParties_59 rfl ?_
      refine pm_iload_n d_M_takesParties_60 rfl ?_
      refine pm_iconst' (nI 2) d_M_takesParties_61 (by decide) ?_
      refine pm_iremN d_M_takesParties_62 (by omega) (by omega) (by omega) ?_
      refine pm_iconst' (nI 1) d_M_takesParties_63 (by decide) ?_
      refine pm_icmp_ne_t 76 d_M_takesParties_64 rfl (fun z => e ((nI_eq (by omega) (by omega)).mp z)) ?_
      refine pm_iconst' (-1) d_M_takesParties_76 (by decide) ?_
      refine pm_iastore i d_M_takesParties_77 (hg.s rfl) (hg.i (by decide)) rfl (by omega) (by decide) ?_
      refine pm_iinc' (nI (i + 1)) d_M_takesParties_78 (by decide) rfl (pm_inc _) ?_
      refine pm_goto 2 d_M_takesParties_81 rfl ?_
      -- at 2: lo=[some (pm_R 48), some (pm_I (nI (i + 1))), some (pm_I (nI (s i))), some (pm_I (nI i))] st=[]
      exact ih _ ⟨tp_s hI.1 (by rw [if_neg e]) (by rw [if_neg e]), fun c x c1 c2 => by rw [pm_up_ne (by omega), pm_up_ne (by omega)]; exact hI.2 c x c1 c2⟩ _ _
  · skip
    refine pm_iload_n d_M_takesParties_2 rfl ?_
    refine pm_aload_n d_M_takesParties_3 rfl ?_
    refine pm_geti' (nI n) d_M_takesParties_4 hf_M_47 (hg.s rfl) (hg.i (by decide)) rfl ((hI.2 48 1 (by omega) (by omega)).trans h1) ?_
    refine pm_icmp_ge_t 84 d_M_takesParties_7 rfl (by rw [nI_leI (by omega) (by omega)]; omega) ?_
    refine pm_iconst' (nI 1) d_M_takesParties_84 (by decide) ?_
    exact pm_zreturn d_M_takesParties_85 rfl (Or.inr rfl) (fun _ => rfl) (Nat.le_refl _) (Nat.le_refl _) ⟨⟨rfl, hI⟩, rfl⟩
theorem k_M_look_0 (hg : pm_gok 61 g) (hB : pm_base b) (hw : rh_wf n L) (h1 : σ 48 1 = nI n) (hR : mr_ n L σ) (hW : ∀ x, x < n → σ 56 x = nI (w x)) (hwn : ∀ x, x < n → w x < n) (hT : mt_ n 57 la σ) (hla : ∀ r, r < n → la (w r) = some r) (hu : ∀ x, x < n → la x = some (u x) ∧ u x < n) (hs : ns_ (fun l k => wl_ L l k (u l) (u k)) n = true → ∀ p, p < n → cy_is w p (s p) ∧ s p ≤ n) : pm_C b (d + 3) km_M_look [pm_R 48, pm_I (nI 0)] g σ τ 0 0 (pm_Wp (fun v σ' => v = some (bI (ns_ (fun l k => wl_ L l k (u l) (u k)) n)) ∧ mt_ n 57 la σ' ∧ (ns_ (fun l k => wl_ L l k (u l) (u k)) n = true → tp_ w s n σ') ∧ ∀ c x, c ≠ 54 → c ≠ 55 → c ≠ 57 → σ' c x = σ c x) τ) := by
  have h8 := hw.1
  show pm_Y b (d + 2 + 1) km_M_look 0 false [some (pm_R 48), some (pm_I (nI 0)), none] [] g σ τ 0 0 0 0 _
  refine pm_iload_n d_M_look_0 rfl ?_
  refine pm_if_ne_f 24 d_M_look_1 rfl (by decide) ?_
  refine pm_aload_n d_M_look_4 rfl ?_
  refine pm_callWp (i := 48) (ci := 5) (rest := []) [] hB d_M_look_5 hc_M_113 (pm_C_up (show 0 + 2 ≤ d + 2 by omega) (k_M_isPartition hg hB hw h1 hR hW hwn hT hla hu)) (hg.s rfl) (hg.i (by decide)) rfl rfl rfl rfl (Nat.le_of_ble_eq_true rfl) (Nat.le_of_ble_eq_true rfl) (by omega) (by omega) (fun v5 σ₁ hv5 hq5 => ?_)
  obtain ⟨rfl, h2, h3⟩ := hq5
  show pm_Y b _ km_M_look 8 true [some (pm_R 48), some (pm_I (nI 0)), none] [pm_I (bI (ns_ (fun l k => wl_ L l k (u l) (u k)) n))] g σ₁ τ 0 0 0 0 _
  refine pm_if_eqB 22 d_M_look_8 rfl (fun c8 => ?_) (fun c8 => ?_)
  · refine pm_iconst' (nI 0) d_M_look_22 (by decide) ?_
    exact pm_zreturn d_M_look_23 rfl (Or.inl rfl) (fun _ => rfl) (Nat.le_refl _) (Nat.le_refl _) ⟨⟨by rw [c8]; rfl, h2, fun z => by (rw [c8] at z; cases z), fun c x _ _ e3 => h3 c x e3⟩, rfl⟩
  · refine pm_aload_n d_M_look_11 rfl ?_
    refine pm_callWp (i := 48) (ci := 5) (rest := []) [] hB d_M_look_12 hc_M_117 (k_M_takesParties hg h8 ((h3 48 1 (by omega)).trans h1) (fun x hx => (h3 56 x (by omega)).trans (hW x hx)) hwn (hs c8)) (hg.s rfl) (hg.i (by decide)) rfl rfl rfl rfl (Nat.le_of_ble_eq_true rfl) (Nat.le_of_ble_eq_true rfl) (by omega) (by omega) (fun v12 σ₂ hv12 hq12 => ?_)
    obtain ⟨rfl, h5, h6⟩ := hq12
    show pm_Y b _ km_M_look 15 true [some (pm_R 48), some (pm_I (nI 0)), none] [pm_I (nI 1)] g σ₂ τ 0 0 0 0 _
    refine pm_if_eq_f 22 d_M_look_15 rfl (by decide) ?_
    refine pm_iconst' (nI 1) d_M_look_18 (by decide) ?_
    refine pm_goto 23 d_M_look_19 rfl ?_
    exact pm_zreturn d_M_look_23 rfl (Or.inr rfl) (fun _ => rfl) (Nat.le_refl _) (Nat.le_refl _) ⟨⟨by rw [c8]; rfl, fun x hx => (h6 57 x (by omega) (by omega)).trans (h2 x hx), fun _ => h5, fun c x e1 e2 e3 => (h6 c x e1 e2).trans (h3 c x e3)⟩, rfl⟩
end M5
