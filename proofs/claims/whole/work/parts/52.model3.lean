/-! the other side: ranks -/
def rn_ (r : Nat) : Nat := if r < 8 then r else if r = 8 then 50 else 99
theorem rn_99 (r : Nat) : rn_ r ≤ 99 := by unfold rn_; (repeat' split) <;> omega
theorem rn_lt {a c : Nat} (ha : a ≤ 9) (hc : c ≤ 9) : rn_ a < rn_ c ↔ a < c := by unfold rn_; (repeat' split) <;> omega
theorem rn_50 {a : Nat} : rn_ a < 50 ↔ a < 8 := by unfold rn_; (repeat' split) <;> omega
theorem rn_le50 {a : Nat} : rn_ a ≤ 50 ↔ a ≤ 8 := by unfold rn_; (repeat' split) <;> omega
def mr_ (n : Nat) (L : Nat → List Nat) (σ : pI) : Prop := ∀ p q, p < n → q < n → σ 59 (8 * p + q) = nI (rn_ (rh_rk L p q))
def wl_ (L : Nat → List Nat) (p q x y : Nat) : Bool := decide (rh_rk L p q < 8) && (decide (rh_rk L p q < rh_rk L p x) && decide (rh_rk L q p < rh_rk L q y))
theorem cho_in {L : Nat → List Nat} {p c : Nat} (h : c < (L p).length) : (L p).getD c 0 = gw_cho L p c := by
  unfold gw_cho
  rw [List.getD_eq_getElem?_getD, List.getD_eq_getElem?_getD, List.getElem?_eq_getElem h]
  rfl
theorem cho_out {L : Nat → List Nat} {p c : Nat} (h : (L p).length ≤ c) : p = gw_cho L p c := by
  unfold gw_cho
  rw [List.getD_eq_getElem?_getD, List.getElem?_eq_none h]
  rfl
theorem cho_lt {n : Nat} {L : Nat → List Nat} (hw : rh_wf n L) {p : Nat} (hp : p < n) (c : Nat) : gw_cho L p c < n := by
  by_cases h : c < (L p).length
  · rw [← cho_in h]
    exact ((hw.2.1 p hp).2 _ ((mem_get _ _).mpr ⟨c, h, rfl⟩)).1
  · rw [← cho_out (by omega)]
    exact hp
/-- nothing of f holds below -/
noncomputable def ns_ (f : Nat → Nat → Bool) (n : Nat) : Bool := @decide (∀ l h, l < h → h < n → f l h = false) (Classical.propDecidable _)
theorem ns_iff {f : Nat → Nat → Bool} {n : Nat} : ns_ f n = true ↔ ∀ l h, l < h → h < n → f l h = false := @decide_eq_true_iff _ (Classical.propDecidable _)
theorem bool_iff {a c : Bool} (h : a = true ↔ c = true) : a = c := by cases a <;> cases c <;> simp_all
/-- all below -/
theorem al_t {P : Nat → Prop} {a : Bool} {r : Nat} (h : a = true ↔ ∀ x, x < r → P x) (ha : a = true) (hp : P r) : true = true ↔ ∀ x, x < r + 1 → P x :=
  ⟨fun _ x hx => by
    by_cases e : x = r
    · rw [e]; exact hp
    · exact h.mp ha x (by omega), fun _ => rfl⟩
theorem al_f {P : Nat → Prop} {a : Bool} {r : Nat} (h : a = true ↔ ∀ x, x < r → P x) (ha : a = false ∨ ¬ P r) : false = true ↔ ∀ x, x < r + 1 → P x :=
  ⟨fun z => by (cases z), fun z => by
    rcases ha with ha | ha
    · have := h.mpr (fun x hx => z x (by omega))
      rw [ha] at this
      exact this
    · exact absurd (z r (Nat.lt_succ_self r)) ha⟩
noncomputable def gy_ (n : Nat) (L : Nat → List Nat) (la : Nat → Option Nat) (p o : Nat) : Bool := @decide (gw_stay n (rh_rk L) la p o) (Classical.propDecidable _)
theorem gy_iff {n : Nat} {L : Nat → List Nat} {la : Nat → Option Nat} {p o : Nat} : gy_ n L la p o = true ↔ gw_stay n (rh_rk L) la p o := @decide_eq_true_iff _ (Classical.propDecidable _)
def mt_ (n : Nat) (h : Nat) (la : Nat → Option Nat) (σ : pI) : Prop := ∀ x, x < n → σ h x = oI (la x)
section M3
variable {b : pB} {g : pG} {σ : pI} {τ : pJ} {d n p q i j h a c o x y : Nat} {L : Nat → List Nat} {w : Nat → Nat} {la : Nat → Option Nat}
theorem k_M_chosen (hg : pm_gok 61 g) (hB : pm_base b) (hw : rh_wf n L) (hM : mi_ n L σ) (hp : p < n) (hc : c ≤ 8) : pm_C b (d) km_M_chosen [pm_R 48, pm_I (nI p), pm_I (nI c)] g σ τ 0 0 (pm_Rd (nI (gw_cho L p c)) σ τ) := by
  have h8 := hw.1
  have h7 := wf_len hw p
  show pm_Y b d km_M_chosen 0 false [some (pm_R 48), some (pm_I (nI p)), some (pm_I (nI c))] [] g σ τ 0 0 0 0 _
  refine pm_iload_n d_M_chosen_0 rfl ?_
  refine pm_aload_n d_M_chosen_1 rfl ?_
  refine pm_getr d_M_chosen_2 hf_M_7 (hg.s rfl) (hg.i (by decide)) rfl (hg.r (by decide) rfl) ?_
  refine pm_iload_n d_M_chosen_5 rfl ?_
  refine pm_iaload' p (nI ((L p).length)) d_M_chosen_6 (hg.s rfl) (hg.i (by decide)) rfl (by omega) (by decide) (hM.2.1 p hp) ?_
  refine pm_icmp_geN 24 d_M_chosen_7 rfl (by omega) (by omega) (fun c7 => ?_) (fun c7 => ?_)
  · refine pm_iload_n d_M_chosen_24 rfl ?_
    exact pm_ireturn d_M_chosen_25 rfl (fun h => h) (Nat.le_refl _) (Nat.le_refl _) ⟨congrArg some (congrArg nI (by first | exact cho_in c7 | exact cho_out c7)), rfl, rfl⟩
  · refine pm_aload_n d_M_chosen_10 rfl ?_
    refine pm_getr d_M_chosen_11 hf_M_13 (hg.s rfl) (hg.i (by decide)) rfl (hg.r (by decide) rfl) ?_
    refine pm_bipush' (nI 8) d_M_chosen_14 (by decide) ?_
    refine pm_iload_n d_M_chosen_16 rfl ?_
    refine pm_imulN d_M_chosen_17 ?_
    refine pm_iload_n d_M_chosen_18 rfl ?_
    refine pm_iaddN d_M_chosen_19 ?_
    refine pm_iaload' ((8 * p) + c) (nI ((L p).getD c 0)) d_M_chosen_20 (hg.s rfl) (hg.i (by decide)) rfl (by omega) (by decide) (hM.2.2 p c hp c7) ?_
    refine pm_goto 25 d_M_chosen_21 rfl ?_
    exact pm_ireturn d_M_chosen_25 rfl (fun h => h) (Nat.le_refl _) (Nat.le_refl _) ⟨congrArg some (congrArg nI (by first | exact cho_in c7 | exact cho_out c7)), rfl, rfl⟩
theorem k_M_wouldLeave (hg : pm_gok 61 g) (hB : pm_base b) (hw : rh_wf n L) (hR : mr_ n L σ) (hp : p < n) (hq : q < n) (hs : pm_sh h = (1, 8)) (hl : h < g.1) (ex : σ h p = nI x) (ey : σ h q = nI y) (hx : x < n) (hy : y < n) : pm_C b (d) km_M_wouldLeave [pm_R 48, pm_I (nI p), pm_I (nI q), pm_R h] g σ τ 0 0 (pm_Rd (bI (wl_ L p q x y)) σ τ) := by
  have h8 := hw.1
  have r1 := rk_9 hw p q
  have r2 := rk_9 hw p x
  have r3 := rk_9 hw q p
  have r4 := rk_9 hw q y
  have s1 := rn_99 (rh_rk L p q)
  have s2 := rn_99 (rh_rk L p x)
  have s3 := rn_99 (rh_rk L q p)
  have s4 := rn_99 (rh_rk L q y)
  show pm_Y b d km_M_wouldLeave 0 false [some (pm_R 48), some (pm_I (nI p)), some (pm_I (nI q)), some (pm_R h), none] [] g σ τ 0 0 0 0 _
  refine pm_aload_n d_M_wouldLeave_0 rfl ?_
  refine pm_getr d_M_wouldLeave_1 hf_M_40 (hg.s rfl) (hg.i (by decide)) rfl (hg.r (by decide) rfl) ?_
  refine pm_bipush' (nI 8) d_M_wouldLeave_4 (by decide) ?_
  refine pm_iload_n d_M_wouldLeave_6 rfl ?_
  refine pm_imulN d_M_wouldLeave_7 ?_
  refine pm_iload_n d_M_wouldLeave_8 rfl ?_
  refine pm_iaddN d_M_wouldLeave_9 ?_
  refine pm_iaload' ((8 * p) + q) (nI (rn_ (rh_rk L p q))) d_M_wouldLeave_10 (hg.s rfl) (hg.i (by decide)) rfl (by omega) (by decide) (hR p q (by omega) (by omega)) ?_
  refine pm_istore d_M_wouldLeave_11 (by decide) ?_
  refine pm_iload d_M_wouldLeave_13 rfl ?_
  refine pm_bipush' (nI 50) d_M_wouldLeave_15 (by decide) ?_
  refine pm_icmp_geN 69 d_M_wouldLeave_17 rfl (by omega) (by omega) (fun c17 => ?_) (fun c17 => ?_)
  · refine pm_iconst' (nI 0) d_M_wouldLeave_69 (by decide) ?_
    exact pm_zreturn d_M_wouldLeave_70 rfl (Or.inl rfl) (fun h => h) (Nat.le_refl _) (Nat.le_refl _) ⟨congrArg some (congrArg bI (show wl_ L p q x y = false by
    unfold wl_
    first
      | rw [decide_eq_false (show ¬ rh_rk L q p < rh_rk L q y from fun z => by have := (rn_lt r3 r4).mpr z; omega), Bool.and_false, Bool.and_false]
      | rw [decide_eq_false (show ¬ rh_rk L p q < rh_rk L p x from fun z => by have := (rn_lt r1 r2).mpr z; omega), Bool.false_and, Bool.and_false]
      | rw [decide_eq_false (show ¬ rh_rk L p q < 8 from fun z => by have := rn_50.mpr z; omega), Bool.false_and])).symm, rfl, rfl⟩
  · refine pm_iload d_M_wouldLeave_20 rfl ?_
    refine pm_aload_n d_M_wouldLeave_22 rfl ?_
    refine pm_getr d_M_wouldLeave_23 hf_M_40 (hg.s rfl) (hg.i (by decide)) rfl (hg.r (by decide) rfl) ?_
    refine pm_bipush' (nI 8) d_M_wouldLeave_26 (by decide) ?_
    refine pm_iload_n d_M_wouldLeave_28 rfl ?_
    refine pm_imulN d_M_wouldLeave_29 ?_
    refine pm_aload_n d_M_wouldLeave_30 rfl ?_
    refine pm_iload_n d_M_wouldLeave_31 rfl ?_
    refine pm_iaload' p (nI x) d_M_wouldLeave_32 (hg.s hs) hl rfl (by omega) (by decide) ex ?_
    refine pm_iaddN d_M_wouldLeave_33 ?_
    refine pm_iaload' ((8 * p) + x) (nI (rn_ (rh_rk L p x))) d_M_wouldLeave_34 (hg.s rfl) (hg.i (by decide)) rfl (by omega) (by decide) (hR p x (by omega) (by omega)) ?_
    refine pm_icmp_geN 69 d_M_wouldLeave_35 rfl (by omega) (by omega) (fun c35 => ?_) (fun c35 => ?_)
    · refine pm_iconst' (nI 0) d_M_wouldLeave_69 (by decide) ?_
      exact pm_zreturn d_M_wouldLeave_70 rfl (Or.inl rfl) (fun h => h) (Nat.le_refl _) (Nat.le_refl _) ⟨congrArg some (congrArg bI (show wl_ L p q x y = false by
    unfold wl_
    first
      | rw [decide_eq_false (show ¬ rh_rk L q p < rh_rk L q y from fun z => by have := (rn_lt r3 r4).mpr z; omega), Bool.and_false, Bool.and_false]
      | rw [decide_eq_false (show ¬ rh_rk L p q < rh_rk L p x from fun z => by have := (rn_lt r1 r2).mpr z; omega), Bool.false_and, Bool.and_false]
      | rw [decide_eq_false (show ¬ rh_rk L p q < 8 from fun z => by have := rn_50.mpr z; omega), Bool.false_and])).symm, rfl, rfl⟩
    · refine pm_aload_n d_M_wouldLeave_38 rfl ?_
      refine pm_getr d_M_wouldLeave_39 hf_M_40 (hg.s rfl) (hg.i (by decide)) rfl (hg.r (by decide) rfl) ?_
      refine pm_bipush' (nI 8) d_M_wouldLeave_42 (by decide) ?_
      refine pm_iload_n d_M_wouldLeave_44 rfl ?_
      refine pm_imulN d_M_wouldLeave_45 ?_
      refine pm_iload_n d_M_wouldLeave_46 rfl ?_
      refine pm_iaddN d_M_wouldLeave_47 ?_
      refine pm_iaload' ((8 * q) + p) (nI (rn_ (rh_rk L q p))) d_M_wouldLeave_48 (hg.s rfl) (hg.i (by decide)) rfl (by omega) (by decide) (hR q p (by omega) (by omega)) ?_
      refine pm_aload_n d_M_wouldLeave_49 rfl ?_
      refine pm_getr d_M_wouldLeave_50 hf_M_40 (hg.s rfl) (hg.i (by decide)) rfl (hg.r (by decide) rfl) ?_
      refine pm_bipush' (nI 8) d_M_wouldLeave_53 (by decide) ?_
      refine pm_iload_n d_M_wouldLeave_55 rfl ?_
      refine pm_imulN d_M_wouldLeave_56 ?_
      refine pm_aload_n d_M_wouldLeave_57 rfl ?_
      refine pm_iload_n d_M_wouldLeave_58 rfl ?_
      refine pm_iaload' q (nI y) d_M_wouldLeave_59 (hg.s hs) hl rfl (by omega) (by decide) ey ?_
      refine pm_iaddN d_M_wouldLeave_60 ?_
      refine pm_iaload' ((8 * q) + y) (nI (rn_ (rh_rk L q y))) d_M_wouldLeave_61 (hg.s rfl) (hg.i (by decide)) rfl (by omega) (by decide) (hR q y (by omega) (by omega)) ?_
      refine pm_icmp_geN 69 d_M_wouldLeave_62 rfl (by omega) (by omega) (fun c62 => ?_) (fun c62 => ?_)
      · refine pm_iconst' (nI 0) d_M_wouldLeave_69 (by decide) ?_
        exact pm_zreturn d_M_wouldLeave_70 rfl (Or.inl rfl) (fun h => h) (Nat.le_refl _) (Nat.le_refl _) ⟨congrArg some (congrArg bI (show wl_ L p q x y = false by
    unfold wl_
    first
      | rw [decide_eq_false (show ¬ rh_rk L q p < rh_rk L q y from fun z => by have := (rn_lt r3 r4).mpr z; omega), Bool.and_false, Bool.and_false]
      | rw [decide_eq_false (show ¬ rh_rk L p q < rh_rk L p x from fun z => by have := (rn_lt r1 r2).mpr z; omega), Bool.false_and, Bool.and_false]
      | rw [decide_eq_false (show ¬ rh_rk L p q < 8 from fun z => by have := rn_50.mpr z; omega), Bool.false_and])).symm, rfl, rfl⟩
      · refine pm_iconst' (nI 1) d_M_wouldLeave_65 (by decide) ?_
        refine pm_goto 70 d_M_wouldLeave_66 rfl ?_
        exact pm_zreturn d_M_wouldLeave_70 rfl (Or.inr rfl) (fun h => h) (Nat.le_refl _) (Nat.le_refl _) ⟨congrArg some (congrArg bI (show wl_ L p q x y = true by unfold wl_; rw [decide_eq_true (rn_50.mp c17), decide_eq_true ((rn_lt r1 r2).mp c35), decide_eq_true ((rn_lt r3 r4).mp c62)]; rfl)).symm, rfl, rfl⟩
theorem l_M_isStable_17 (hg : pm_gok 61 g) (hB : pm_base b) (hw : rh_wf n L) (h1 : σ 48 1 = nI n) (hR : mr_ n L σ) (hs : pm_sh h = (1, 8)) (hl : h < g.1) (hr : ∀ x, x < n → σ h x = nI (w x)) (hwn : ∀ x, x < n → w x < n) {l : Nat} {a₀ : Bool} {Pp : Prop} (h0 : a₀ = true ↔ Pp) (hl2 : l < n) {E : pE} (K : ∀ a : Bool, (a = true ↔ (Pp ∧ ∀ x, x < n - (l + 1) → wl_ L l (l + 1 + x) (w l) (w (l + 1 + x)) = false)) → pm_Y b (d + 1) km_M_isStable 53 false [some (pm_R 48), some (pm_R h), some (pm_I (bI a)), some (pm_I (nI l)), some (pm_I (nI n))] [] g σ τ 0 0 0 0 E) : pm_Y b (d + 1) km_M_isStable 17 false [some (pm_R 48), some (pm_R h), some (pm_I (bI a₀)), some (pm_I (nI l)), some (pm_I (nI (l + 1)))] [] g σ τ 0 0 0 0 E := by
  have h8 := hw.1
  refine pm_for (n - (l + 1)) (fun k (a : Bool) => pm_Y b (d + 1) km_M_isStable 17 false [some (pm_R 48), some (pm_R h), some (pm_I (bI a)), some (pm_I (nI l)), some (pm_I (nI (l + 1 + k)))] [] g σ τ 0 0 0 0 E) (fun k a => (a = true ↔ (Pp ∧ ∀ x, x < k → wl_ L l (l + 1 + x) (w l) (w (l + 1 + x)) = false))) (fun k a hk hI ih => ?_) (fun a hI => ?_) (n - (l + 1)) 0 a₀ (by omega) ⟨fun z => ⟨h0.mp z, fun x hx => absurd hx (Nat.not_lt_zero x)⟩, fun z => h0.mpr z.1⟩
  · skip
    refine pm_iload d_M_isStable_17 rfl ?_
    refine pm_aload_n d_M_isStable_19 rfl ?_
    refine pm_geti' (nI n) d_M_isStable_20 hf_M_47 (hg.s rfl) (hg.i (by decide)) rfl h1 ?_
    refine pm_icmp_ge_f 53 d_M_isStable_23 rfl (by rw [nI_leI (by omega) (by omega)]; omega) ?_
    refine pm_iload_n d_M_isStable_26 rfl ?_
    refine pm_if_eqB 45 d_M_isStable_27 rfl (fun c27 => ?_) (fun c27 => ?_)
    · refine pm_iconst' (nI 0) d_M_isStable_45 (by decide) ?_
      refine pm_istore_n d_M_isStable_46 (by decide) ?_
      refine pm_iinc' (nI ((l + 1 + k) + 1)) d_M_isStable_47 (by decide) rfl (pm_inc _) ?_
      refine pm_goto 17 d_M_isStable_50 rfl ?_
      -- at 17: lo=[some (pm_R 48), some (pm_R h), some (pm_I (nI 0)), some (pm_I (nI l)), some (pm_I (nI ((l + 1 + k) + 1)))] st=[]
      show pm_Y b (d + 1) km_M_isStable 17 false [some (pm_R 48), some (pm_R h), some (pm_I (nI 0)), some (pm_I (nI l)), some (pm_I (nI ((l + 1 + k) + 1)))] [] g σ τ 0 0 0 0 E
      rw [show l + 1 + k + 1 = l + 1 + (k + 1) by omega]
      exact ih false ⟨fun z => by (cases z), fun z => by
        have z2 := hI.mpr ⟨z.1, fun x hx => z.2 x (by omega)⟩
        first
          | (have z3 := z.2 k (Nat.lt_succ_self k)
             rw [c38] at z3
             exact z3.symm)
          | (rw [c27] at z2; exact z2)⟩
    · refine pm_aload_n d_M_isStable_30 rfl ?_
      refine pm_iload_n d_M_isStable_31 rfl ?_
      refine pm_iload d_M_isStable_32 rfl ?_
      refine pm_aload_n d_M_isStable_34 rfl ?_
      refine pm_callR (i := 48) (ci := 5) (rest := []) [pm_I (nI l), pm_I (nI (l + 1 + k)), pm_R h] hB d_M_isStable_35 hc_M_76 (k_M_wouldLeave hg hB hw hR (by omega) (by omega) hs hl (hr l (by omega)) (hr (l + 1 + k) (by omega)) (hwn l (by omega)) (hwn (l + 1 + k) (by omega))) (hg.s rfl) (hg.i (by decide)) rfl rfl rfl rfl (Nat.le_of_ble_eq_true rfl) (Nat.le_of_ble_eq_true rfl) (by omega) (by omega) ?_
      refine pm_if_neB 45 d_M_isStable_38 rfl (fun c38 => ?_) (fun c38 => ?_)
      · refine pm_iconst' (nI 0) d_M_isStable_45 (by decide) ?_
        refine pm_istore_n d_M_isStable_46 (by decide) ?_
        refine pm_iinc' (nI ((l + 1 + k) + 1)) d_M_isStable_47 (by decide) rfl (pm_inc _) ?_
        refine pm_goto 17 d_M_isStable_50 rfl ?_
        -- at 17: lo=[some (pm_R 48), some (pm_R h), some (pm_I (nI 0)), some (pm_I (nI l)), some (pm_I (nI ((l + 1 + k) + 1)))] st=[]
        show pm_Y b (d + 1) km_M_isStable 17 false [some (pm_R 48), some (pm_R h), some (pm_I (nI 0)), some (pm_I (nI l)), some (pm_I (nI ((l + 1 + k) + 1)))] [] g σ τ 0 0 0 0 E
        rw [show l + 1 + k + 1 = l + 1 + (k + 1) by omega]
        exact ih false ⟨fun z => by (cases z), fun z => by
          have z2 := hI.mpr ⟨z.1, fun x hx => z.2 x (by omega)⟩
          first
            | (have z3 := z.2 k (Nat.lt_succ_self k)
               rw [c38] at z3
               exact z3.symm)
            | (rw [c27] at z2; exact z2)⟩
      · refine pm_iconst' (nI 1) d_M_isStable_41 (by decide) ?_
        refine pm_goto 46 d_M_isStable_42 rfl ?_
        refine pm_istore_n d_M_isStable_46 (by decide) ?_
        refine pm_iinc' (nI ((l + 1 + k) + 1)) d_M_isStable_47 (by decide) rfl (pm_inc _) ?_
        refine pm_goto 17 d_M_isStable_50 rfl ?_
        -- at 17: lo=[some (pm_R 48), some (pm_R h), some (pm_I (nI 1)), some (pm_I (nI l)), some (pm_I (nI ((l + 1 + k) + 1)))] st=[]
        show pm_Y b (d + 1) km_M_isStable 17 false [some (pm_R 48), some (pm_R h), some (pm_I (nI 1)), some (pm_I (nI l)), some (pm_I (nI ((l + 1 + k) + 1)))] [] g σ τ 0 0 0 0 E
        rw [show l + 1 + k + 1 = l + 1 + (k + 1) by omega]
        exact ih true ⟨fun _ => ⟨(hI.mp c27).1, fun x hx => by
          by_cases e : x = k
          · rw [e]; exact c38
          · exact (hI.mp c27).2 x (by omega)⟩, fun _ => rfl⟩
  · rw [show l + 1 + (n - (l + 1)) = n by omega]
    refine pm_iload d_M_isStable_17 rfl ?_
    refine pm_aload_n d_M_isStable_19 rfl ?_
    refine pm_geti' (nI n) d_M_isStable_20 hf_M_47 (hg.s rfl) (hg.i (by decide)) rfl h1 ?_
    refine pm_icmp_ge_t 53 d_M_isStable_23 rfl (by rw [nI_leI (by omega) (by omega)]; omega) ?_
    -- at 53: lo=[some (pm_R 48), some (pm_R h), some (pm_I (bI a)), some (pm_I (nI l)), some (pm_I (nI n))] st=[]
    exact K a hI
theorem k_M_isStable (hg : pm_gok 61 g) (hB : pm_base b) (hw : rh_wf n L) (h1 : σ 48 1 = nI n) (hR : mr_ n L σ) (hs : pm_sh h = (1, 8)) (hl : h < g.1) (hr : ∀ x, x < n → σ h x = nI (w x)) (hwn : ∀ x, x < n → w x < n) : pm_C b (d + 1) km_M_isStable [pm_R 48, pm_R h] g σ τ 0 0 (pm_Rd (bI (ns_ (fun l k => wl_ L l k (w l) (w k)) n)) σ τ) := by
  have h8 := hw.1
  show pm_Y b (d + 1) km_M_isStable 0 false [some (pm_R 48), some (pm_R h), none, none, none] [] g σ τ 0 0 0 0 _
  refine pm_iconst' (nI 1) d_M_isStable_0 (by decide) ?_
  refine pm_istore_n d_M_isStable_1 (by decide) ?_
  refine pm_iconst' (nI 0) d_M_isStable_2 (by decide) ?_
  refine pm_istore_n d_M_isStable_3 (by decide) ?_
  -- at 4: lo=[some (pm_R 48), some (pm_R h), some (pm_I (nI 1)), some (pm_I (nI 0)), none] st=[]
  refine pm_for n (fun l (a : Bool) => ∀ l4 : Option pV, pm_Y b (d + 1) km_M_isStable 4 false [some (pm_R 48), some (pm_R h), some (pm_I (bI a)), some (pm_I (nI l)), l4] [] g σ τ 0 0 0 0 (pm_Rd (bI (ns_ (fun l k => wl_ L l k (w l) (w k)) n)) σ τ)) (fun l a => (a = true ↔ ∀ l' h', l' < l → l' < h' → h' < n → wl_ L l' h' (w l') (w h') = false)) (fun l a hi hI ih l4 => ?_) (fun a hI l4 => ?_) n 0 true (by omega) ⟨fun _ l' h' a1 => absurd a1 (Nat.not_lt_zero l'), fun _ => rfl⟩ none
  · skip
    refine pm_iload_n d_M_isStable_4 rfl ?_
    refine pm_aload_n d_M_isStable_5 rfl ?_
    refine pm_geti' (nI n) d_M_isStable_6 hf_M_47 (hg.s rfl) (hg.i (by decide)) rfl h1 ?_
    refine pm_icmp_ge_f 59 d_M_isStable_9 rfl (by rw [nI_leI (by omega) (by omega)]; omega) ?_
    refine pm_iload_n d_M_isStable_12 rfl ?_
    refine pm_iconst' (nI 1) d_M_isStable_13 (by decide) ?_
    refine pm_iaddN d_M_isStable_14 ?_
    refine pm_istore d_M_isStable_15 (by decide) ?_
    -- at 17: lo=[some (pm_R 48), some (pm_R h), some (pm_I (bI a)), some (pm_I (nI l)), some (pm_I (nI (l + 1)))] st=[]
    refine l_M_isStable_17 hg hB hw h1 hR hs hl hr hwn hI hi (fun a' hI' => ?_)
    refine pm_iinc' (nI (l + 1)) d_M_isStable_53 (by decide) rfl (pm_inc _) ?_
    refine pm_goto 4 d_M_isStable_56 rfl ?_
    exact ih a' ⟨fun z l' h' a1 a2 a3 => by
      obtain ⟨z1, z2⟩ := hI'.mp z
      by_cases e : l' = l
      · subst e
        have := z2 (h' - (l' + 1)) (by omega)
        rw [show l' + 1 + (h' - (l' + 1)) = h' by omega] at this
        exact this
      · exact z1 l' h' (by omega) a2 a3, fun z => hI'.mpr ⟨fun l' h' a1 a2 a3 => z l' h' (by omega) a2 a3, fun x hx => z l _ (by omega) (by omega) (by omega)⟩⟩ _
  · skip
    refine pm_iload_n d_M_isStable_4 rfl ?_
    refine pm_aload_n d_M_isStable_5 rfl ?_
    refine pm_geti' (nI n) d_M_isStable_6 hf_M_47 (hg.s rfl) (hg.i (by decide)) rfl h1 ?_
    refine pm_icmp_ge_t 59 d_M_isStable_9 rfl (by rw [nI_leI (by omega) (by omega)]; omega) ?_
    refine pm_iload_n d_M_isStable_59 rfl ?_
    exact pm_zreturn d_M_isStable_60 rfl (bI_01 _) (fun h => h) (Nat.le_refl _) (Nat.le_refl _) ⟨congrArg some (congrArg bI (bool_iff ⟨fun z => ns_iff.mpr (fun l' h' a1 a2 => hI.mp z l' h' (by omega) a1 a2), fun z => hI.mpr (fun l' h' _ a1 a2 => ns_iff.mp z l' h' a1 a2)⟩)), rfl, rfl⟩
theorem k_M_mayStay (hg : pm_gok 61 g) (hB : pm_base b) (hw : rh_wf n L) (h1 : σ 48 1 = nI n) (hR : mr_ n L σ) (hT : mt_ n 57 la σ) (hb : ∀ x y, la x = some y → y < n) (hp : p < n) (ho : o < n) : pm_C b (d) km_M_mayStay [pm_R 48, pm_I (nI p), pm_I (nI o)] g σ τ 0 0 (pm_Rd (bI (gy_ n L la p o)) σ τ) := by
  have h8 := hw.1
  show pm_Y b d km_M_mayStay 0 false [some (pm_R 48), some (pm_I (nI p)), some (pm_I (nI o)), none, none, none, none] [] g σ τ 0 0 0 0 _
  refine pm_iconst' (nI 1) d_M_mayStay_0 (by decide) ?_
  refine pm_istore_n d_M_mayStay_1 (by decide) ?_
  refine pm_iconst' (nI 0) d_M_mayStay_2 (by decide) ?_
  refine pm_istore d_M_mayStay_3 (by decide) ?_
  -- at 5: lo=[some (pm_R 48), some (pm_I (nI p)), some (pm_I (nI o)), some (pm_I (nI 1)), some (pm_I (nI 0)), none, none] st=[]
  refine pm_for n (fun x (a : Bool) => ∀ l5 l6 : Option pV, pm_Y b d km_M_mayStay 5 false [some (pm_R 48), some (pm_I (nI p)), some (pm_I (nI o)), some (pm_I (bI a)), some (pm_I (nI x)), l5, l6] [] g σ τ 0 0 0 0 (pm_Rd (bI (gy_ n L la p o)) σ τ)) (fun k a => (a = true ↔ ∀ x, x < k → ¬ (∃ y, la x = some y ∧ x ≠ p ∧ rh_rk L p x < 8 ∧ rh_rk L p x < rh_rk L p o ∧ rh_rk L x p < rh_rk L x y))) (fun x a hx hI ih l5 l6 => ?_) (fun a hI l5 l6 => ?_) n 0 true (by omega) ⟨fun _ x hx => absurd hx (Nat.not_lt_zero x), fun _ => rfl⟩ none none
  · have r1 := rk_9 hw p x
    have r2 := rk_9 hw p o
    have s1 := rn_99 (rh_rk L p x)
    have s2 := rn_99 (rh_rk L p o)
    have r3 := rk_9 hw x p
    have s3 := rn_99 (rh_rk L x p)
    cases e : la x with
    | none =>
      refine pm_iload d_M_mayStay_5 rfl ?_
      refine pm_aload_n d_M_mayStay_7 rfl ?_
      refine pm_geti' (nI n) d_M_mayStay_8 hf_M_47 (hg.s rfl) (hg.i (by decide)) rfl h1 ?_
      refine pm_icmp_ge_f 128 d_M_mayStay_11 rfl (by rw [nI_leI (by omega) (by omega)]; omega) ?_
      refine pm_aload_n d_M_mayStay_14 rfl ?_
      refine pm_getr d_M_mayStay_15 hf_M_40 (hg.s rfl) (hg.i (by decide)) rfl (hg.r (by decide) rfl) ?_
      refine pm_bipush' (nI 8) d_M_mayStay_18 (by decide) ?_
      refine pm_iload_n d_M_mayStay_20 rfl ?_
      refine pm_imulN d_M_mayStay_21 ?_
      refine pm_iload d_M_mayStay_22 rfl ?_
      refine pm_iaddN d_M_mayStay_24 ?_
      refine pm_iaload' ((8 * p) + x) (nI (rn_ (rh_rk L p x))) d_M_mayStay_25 (hg.s rfl) (hg.i (by decide)) rfl (by omega) (by decide) (hR p x hp hx) ?_
      refine pm_istore d_M_mayStay_26 (by decide) ?_
      refine pm_aload_n d_M_mayStay_28 rfl ?_
      refine pm_getr d_M_mayStay_29 hf_M_34 (hg.s rfl) (hg.i (by decide)) rfl (hg.r (by decide) rfl) ?_
      refine pm_iload d_M_mayStay_32 rfl ?_
      refine pm_iaload' x (-1) d_M_mayStay_34 (hg.s rfl) (hg.i (by decide)) rfl (by omega) (by decide) (by rw [hT x hx, e]; rfl) ?_
      refine pm_if_lt_t 104 d_M_mayStay_35 rfl (by decide) ?_
      refine pm_iconst' (nI 0) d_M_mayStay_104 (by decide) ?_
      refine pm_istore d_M_mayStay_105 (by decide) ?_
      refine pm_iload_n d_M_mayStay_107 rfl ?_
      refine pm_if_eqB 120 d_M_mayStay_108 rfl (fun c108 => ?_) (fun c108 => ?_)
      · refine pm_iconst' (nI 0) d_M_mayStay_120 (by decide) ?_
        refine pm_istore_n d_M_mayStay_121 (by decide) ?_
        refine pm_iinc' (nI (x + 1)) d_M_mayStay_122 (by decide) rfl (pm_inc _) ?_
        refine pm_goto 5 d_M_mayStay_125 rfl ?_
        -- at 5: lo=[some (pm_R 48), some (pm_I (nI p)), some (pm_I (nI o)), some (pm_I (nI 0)), some (pm_I (nI (x + 1))), some (pm_I (nI (rn_ (rh_rk L p x)))), some (pm_I (nI 0))] st=[]
        exact ih false (al_f hI (Or.inl c108)) _ _
      · refine pm_iload d_M_mayStay_111 rfl ?_
        refine pm_if_ne_f 120 d_M_mayStay_113 rfl (by decide) ?_
        refine pm_iconst' (nI 1) d_M_mayStay_116 (by decide) ?_
        refine pm_goto 121 d_M_mayStay_117 rfl ?_
        refine pm_istore_n d_M_mayStay_121 (by decide) ?_
        refine pm_iinc' (nI (x + 1)) d_M_mayStay_122 (by decide) rfl (pm_inc _) ?_
        refine pm_goto 5 d_M_mayStay_125 rfl ?_
        -- at 5: lo=[some (pm_R 48), some (pm_I (nI p)), some (pm_I (nI o)), some (pm_I (nI 1)), some (pm_I (nI (x + 1))), some (pm_I (nI (rn_ (rh_rk L p x)))), some (pm_I (nI 0))] st=[]
        exact ih true (al_t hI c108 (fun z => by
          obtain ⟨y, z1, -⟩ := z
          rw [e] at z1
          cases z1)) _ _
    | some y =>
      have hy := hb x y e
      have r4 := rk_9 hw x y
      have s4 := rn_99 (rh_rk L x y)
      refine pm_iload d_M_mayStay_5 rfl ?_
      refine pm_aload_n d_M_mayStay_7 rfl ?_
      refine pm_geti' (nI n) d_M_mayStay_8 hf_M_47 (hg.s rfl) (hg.i (by decide)) rfl h1 ?_
      refine pm_icmp_ge_f 128 d_M_mayStay_11 rfl (by rw [nI_leI (by omega) (by omega)]; omega) ?_
      refine pm_aload_n d_M_mayStay_14 rfl ?_
      refine pm_getr d_M_mayStay_15 hf_M_40 (hg.s rfl) (hg.i (by decide)) rfl (hg.r (by decide) rfl) ?_
      refine pm_bipush' (nI 8) d_M_mayStay_18 (by decide) ?_
      refine pm_iload_n d_M_mayStay_20 rfl ?_
      refine pm_imulN d_M_mayStay_21 ?_
      refine pm_iload d_M_mayStay_22 rfl ?_
      refine pm_iaddN d_M_mayStay_24 ?_
      refine pm_iaload' ((8 * p) + x) (nI (rn_ (rh_rk L p x))) d_M_mayStay_25 (hg.s rfl) (hg.i (by decide)) rfl (by omega) (by decide) (hR p x hp hx) ?_
      refine pm_istore d_M_mayStay_26 (by decide) ?_
      refine pm_aload_n d_M_mayStay_28 rfl ?_
      refine pm_getr d_M_mayStay_29 hf_M_34 (hg.s rfl) (hg.i (by decide)) rfl (hg.r (by decide) rfl) ?_
      refine pm_iload d_M_mayStay_32 rfl ?_
      refine pm_iaload' x (nI y) d_M_mayStay_34 (hg.s rfl) (hg.i (by decide)) rfl (by omega) (by decide) (by rw [hT x hx, e]; rfl) ?_
      refine pm_if_lt_f 104 d_M_mayStay_35 rfl (nI_nn (by omega)) ?_
      refine pm_iload d_M_mayStay_38 rfl ?_
      refine pm_iload_n d_M_mayStay_40 rfl ?_
      refine pm_icmp_eqN 104 d_M_mayStay_41 rfl (by omega) (by omega) (fun c41 => ?_) (fun c41 => ?_)
      · refine pm_iconst' (nI 0) d_M_mayStay_104 (by decide) ?_
        refine pm_istore d_M_mayStay_105 (by decide) ?_
        refine pm_iload_n d_M_mayStay_107 rfl ?_
        refine pm_if_eqB 120 d_M_mayStay_108 rfl (fun c108 => ?_) (fun c108 => ?_)
        · refine pm_iconst' (nI 0) d_M_mayStay_120 (by decide) ?_
          refine pm_istore_n d_M_mayStay_121 (by decide) ?_
          refine pm_iinc' (nI (x + 1)) d_M_mayStay_122 (by decide) rfl (pm_inc _) ?_
          refine pm_goto 5 d_M_mayStay_125 rfl ?_
          -- at 5: lo=[some (pm_R 48), some (pm_I (nI p)), some (pm_I (nI o)), some (pm_I (nI 0)), some (pm_I (nI (x + 1))), some (pm_I (nI (rn_ (rh_rk L p x)))), some (pm_I (nI 0))] st=[]
          exact ih false (al_f hI (by
            first
              | exact Or.inl c108
              | exact Or.inr (fun z => z ⟨y, e, c41, rn_50.mp c48, (rn_lt r1 r2).mp c64, (rn_lt r3 r4).mp c97⟩))) _ _
        · refine pm_iload d_M_mayStay_111 rfl ?_
          refine pm_if_ne_f 120 d_M_mayStay_113 rfl (by decide) ?_
          refine pm_iconst' (nI 1) d_M_mayStay_116 (by decide) ?_
          refine pm_goto 121 d_M_mayStay_117 rfl ?_
          refine pm_istore_n d_M_mayStay_121 (by decide) ?_
          refine pm_iinc' (nI (x + 1)) d_M_mayStay_122 (by decide) rfl (pm_inc _) ?_
          refine pm_goto 5 d_M_mayStay_125 rfl ?_
          -- at 5: lo=[some (pm_R 48), some (pm_I (nI p)), some (pm_I (nI o)), some (pm_I (nI 1)), some (pm_I (nI (x + 1))), some (pm_I (nI (rn_ (rh_rk L p x)))), some (pm_I (nI 0))] st=[]
          exact ih true (al_t hI c108 (fun z => by
            obtain ⟨y', z1, z2, z3, z4, z5⟩ := z
            rw [e] at z1
            have z1 := Option.some.inj z1
            subst z1
            first
              | exact z2 c41
              | (have := rn_50.mpr z3; omega)
              | (have := (rn_lt r1 r2).mpr z4; omega)
              | (have := (rn_lt r3 r4).mpr z5; omega))) _ _
      · refine pm_iload d_M_mayStay_44 rfl ?_
        refine pm_bipush' (nI 50) d_M_mayStay_46 (by decide) ?_
        refine pm_icmp_geN 104 d_M_mayStay_48 rfl (by omega) (by omega) (fun c48 => ?_) (fun c48 => ?_)
        · refine pm_iconst' (nI 0) d_M_mayStay_104 (by decide) ?_
          refine pm_istore d_M_mayStay_105 (by decide) ?_
          refine pm_iload_n d_M_mayStay_107 rfl ?_
          refine pm_if_eqB 120 d_M_mayStay_108 rfl (fun c108 => ?_) (fun c108 => ?_)
          · refine pm_iconst' (nI 0) d_M_mayStay_120 (by decide) ?_
            refine pm_istore_n d_M_mayStay_121 (by decide) ?_
            refine pm_iinc' (nI (x + 1)) d_M_mayStay_122 (by decide) rfl (pm_inc _) ?_
            refine pm_goto 5 d_M_mayStay_125 rfl ?_
            -- at 5: lo=[some (pm_R 48), some (pm_I (nI p)), some (pm_I (nI o)), some (pm_I (nI 0)), some (pm_I (nI (x + 1))), some (pm_I (nI (rn_ (rh_rk L p x)))), some (pm_I (nI 0))] st=[]
            exact ih false (al_f hI (by
              first
                | exact Or.inl c108
                | exact Or.inr (fun z => z ⟨y, e, c41, rn_50.mp c48, (rn_lt r1 r2).mp c64, (rn_lt r3 r4).mp c97⟩))) _ _
          · refine pm_iload d_M_mayStay_111 rfl ?_
            refine pm_if_ne_f 120 d_M_mayStay_113 rfl (by decide) ?_
            refine pm_iconst' (nI 1) d_M_mayStay_116 (by decide) ?_
            refine pm_goto 121 d_M_mayStay_117 rfl ?_
            refine pm_istore_n d_M_mayStay_121 (by decide) ?_
            refine pm_iinc' (nI (x + 1)) d_M_mayStay_122 (by decide) rfl (pm_inc _) ?_
            refine pm_goto 5 d_M_mayStay_125 rfl ?_
            -- at 5: lo=[some (pm_R 48), some (pm_I (nI p)), some (pm_I (nI o)), some (pm_I (nI 1)), some (pm_I (nI (x + 1))), some (pm_I (nI (rn_ (rh_rk L p x)))), some (pm_I (nI 0))] st=[]
            exact ih true (al_t hI c108 (fun z => by
              obtain ⟨y', z1, z2, z3, z4, z5⟩ := z
              rw [e] at z1
              have z1 := Option.some.inj z1
              subst z1
              first
                | exact z2 c41
                | (have := rn_50.mpr z3; omega)
                | (have := (rn_lt r1 r2).mpr z4; omega)
                | (have := (rn_lt r3 r4).mpr z5; omega))) _ _
        · refine pm_iload d_M_mayStay_51 rfl ?_
          refine pm_aload_n d_M_mayStay_53 rfl ?_
          refine pm_getr d_M_mayStay_54 hf_M_40 (hg.s rfl) (hg.i (by decide)) rfl (hg.r (by decide) rfl) ?_
          refine pm_bipush' (nI 8) d_M_mayStay_57 (by decide) ?_
          refine pm_iload_n d_M_mayStay_59 rfl ?_
          refine pm_imulN d_M_mayStay_60 ?_
          refine pm_iload_n d_M_mayStay_61 rfl ?_
          refine pm_iaddN d_M_mayStay_62 ?_
          refine pm_iaload' ((8 * p) + o) (nI (rn_ (rh_rk L p o))) d_M_mayStay_63 (hg.s rfl) (hg.i (by decide)) rfl (by omega) (by decide) (hR p o hp ho) ?_
          refine pm_icmp_geN 104 d_M_mayStay_64 rfl (by omega) (by omega) (fun c64 => ?_) (fun c64 => ?_)
          · refine pm_iconst' (nI 0) d_M_mayStay_104 (by decide) ?_
            refine pm_istore d_M_mayStay_105 (by decide) ?_
            refine pm_iload_n d_M_mayStay_107 rfl ?_
            refine pm_if_eqB 120 d_M_mayStay_108 rfl (fun c108 => ?_) (fun c108 => ?_)
            · refine pm_iconst' (nI 0) d_M_mayStay_120 (by decide) ?_
              refine pm_istore_n d_M_mayStay_121 (by decide) ?_
              refine pm_iinc' (nI (x + 1)) d_M_mayStay_122 (by decide) rfl (pm_inc _) ?_
              refine pm_goto 5 d_M_mayStay_125 rfl ?_
              -- at 5: lo=[some (pm_R 48), some (pm_I (nI p)), some (pm_I (nI o)), some (pm_I (nI 0)), some (pm_I (nI (x + 1))), some (pm_I (nI (rn_ (rh_rk L p x)))), some (pm_I (nI 0))] st=[]
              exact ih false (al_f hI (by
                first
                  | exact Or.inl c108
                  | exact Or.inr (fun z => z ⟨y, e, c41, rn_50.mp c48, (rn_lt r1 r2).mp c64, (rn_lt r3 r4).mp c97⟩))) _ _
            · refine pm_iload d_M_mayStay_111 rfl ?_
              refine pm_if_ne_f 120 d_M_mayStay_113 rfl (by decide) ?_
              refine pm_iconst' (nI 1) d_M_mayStay_116 (by decide) ?_
              refine pm_goto 121 d_M_mayStay_117 rfl ?_
              refine pm_istore_n d_M_mayStay_121 (by decide) ?_
              refine pm_iinc' (nI (x + 1)) d_M_mayStay_122 (by decide) rfl (pm_inc _) ?_
              refine pm_goto 5 d_M_mayStay_125 rfl ?_
              -- at 5: lo=[some (pm_R 48), some (pm_I (nI p)), some (pm_I (nI o)), some (pm_I (nI 1)), some (pm_I (nI (x + 1))), some (pm_I (nI (rn_ (rh_rk L p x)))), some (pm_I (nI 0))] st=[]
              exact ih true (al_t hI c108 (fun z => by
                obtain ⟨y', z1, z2, z3, z4, z5⟩ := z
                rw [e] at z1
                have z1 := Option.some.inj z1
                subst z1
                first
                  | exact z2 c41
                  | (have := rn_50.mpr z3; omega)
                  | (have := (rn_lt r1 r2).mpr z4; omega)
                  | (have := (rn_lt r3 r4).mpr z5; omega))) _ _
          · refine pm_aload_n d_M_mayStay_67 rfl ?_
            refine pm_getr d_M_mayStay_68 hf_M_40 (hg.s rfl) (hg.i (by decide)) rfl (hg.r (by decide) rfl) ?_
            refine pm_bipush' (nI 8) d_M_mayStay_71 (by decide) ?_
            refine pm_iload d_M_mayStay_73 rfl ?_
            refine pm_imulN d_M_mayStay_75 ?_
            refine pm_iload_n d_M_mayStay_76 rfl ?_
            refine pm_iaddN d_M_mayStay_77 ?_
            refine pm_iaload' ((8 * x) + p) (nI (rn_ (rh_rk L x p))) d_M_mayStay_78 (hg.s rfl) (hg.i (by decide)) rfl (by omega) (by decide) (hR x p hx hp) ?_
            refine pm_aload_n d_M_mayStay_79 rfl ?_
            refine pm_getr d_M_mayStay_80 hf_M_40 (hg.s rfl) (hg.i (by decide)) rfl (hg.r (by decide) rfl) ?_
            refine pm_bipush' (nI 8) d_M_mayStay_83 (by decide) ?_
            refine pm_iload d_M_mayStay_85 rfl ?_
            refine pm_imulN d_M_mayStay_87 ?_
            refine pm_aload_n d_M_mayStay_88 rfl ?_
            refine pm_getr d_M_mayStay_89 hf_M_34 (hg.s rfl) (hg.i (by decide)) rfl (hg.r (by decide) rfl) ?_
            refine pm_iload d_M_mayStay_92 rfl ?_
            refine pm_iaload' x (nI y) d_M_mayStay_94 (hg.s rfl) (hg.i (by decide)) rfl (by omega) (by decide) (by rw [hT x hx, e]; rfl) ?_
            refine pm_iaddN d_M_mayStay_95 ?_
            refine pm_iaload' ((8 * x) + y) (nI (rn_ (rh_rk L x y))) d_M_mayStay_96 (hg.s rfl) (hg.i (by decide)) rfl (by omega) (by decide) (hR x y hx hy) ?_
            refine pm_icmp_geN 104 d_M_mayStay_97 rfl (by omega) (by omega) (fun c97 => ?_) (fun c97 => ?_)
            · refine pm_iconst' (nI 0) d_M_mayStay_104 (by decide) ?_
              refine pm_istore d_M_mayStay_105 (by decide) ?_
              refine pm_iload_n d_M_mayStay_107 rfl ?_
              refine pm_if_eqB 120 d_M_mayStay_108 rfl (fun c108 => ?_) (fun c108 => ?_)
              · refine pm_iconst' (nI 0) d_M_mayStay_120 (by decide) ?_
                refine pm_istore_n d_M_mayStay_121 (by decide) ?_
                refine pm_iinc' (nI (x + 1)) d_M_mayStay_122 (by decide) rfl (pm_inc _) ?_
                refine pm_goto 5 d_M_mayStay_125 rfl ?_
                -- at 5: lo=[some (pm_R 48), some (pm_I (nI p)), some (pm_I (nI o)), some (pm_I (nI 0)), some (pm_I (nI (x + 1))), some (pm_I (nI (rn_ (rh_rk L p x)))), some (pm_I (nI 0))] st=[]
                exact ih false (al_f hI (by
                  first
                    | exact Or.inl c108
                    | exact Or.inr (fun z => z ⟨y, e, c41, rn_50.mp c48, (rn_lt r1 r2).mp c64, (rn_lt r3 r4).mp c97⟩))) _ _
              · refine pm_iload d_M_mayStay_111 rfl ?_
                refine pm_if_ne_f 120 d_M_mayStay_113 rfl (by decide) ?_
                refine pm_iconst' (nI 1) d_M_mayStay_116 (by decide) ?_
                refine pm_goto 121 d_M_mayStay_117 rfl ?_
                refine pm_istore_n d_M_mayStay_121 (by decide) ?_
                refine pm_iinc' (nI (x + 1)) d_M_mayStay_122 (by decide) rfl (pm_inc _) ?_
                refine pm_goto 5 d_M_mayStay_125 rfl ?_
                -- at 5: lo=[some (pm_R 48), some (pm_I (nI p)), some (pm_I (nI o)), some (pm_I (nI 1)), some (pm_I (nI (x + 1))), some (pm_I (nI (rn_ (rh_rk L p x)))), some (pm_I (nI 0))] st=[]
                exact ih true (al_t hI c108 (fun z => by
                  obtain ⟨y', z1, z2, z3, z4, z5⟩ := z
                  rw [e] at z1
                  have z1 := Option.some.inj z1
                  subst z1
                  first
                    | exact z2 c41
                    | (have := rn_50.mpr z3; omega)
                    | (have := (rn_lt r1 r2).mpr z4; omega)
                    | (have := (rn_lt r3 r4).mpr z5; omega))) _ _
            · refine pm_iconst' (nI 1) d_M_mayStay_100 (by decide) ?_
              refine pm_goto 105 d_M_mayStay_101 rfl ?_
              refine pm_istore d_M_mayStay_105 (by decide) ?_
              refine pm_iload_n d_M_mayStay_107 rfl ?_
              refine pm_if_eqB 120 d_M_mayStay_108 rfl (fun c108 => ?_) (fun c108 => ?_)
              · refine pm_iconst' (nI 0) d_M_mayStay_120 (by decide) ?_
                refine pm_istore_n d_M_mayStay_121 (by decide) ?_
                refine pm_iinc' (nI (x + 1)) d_M_mayStay_122 (by decide) rfl (pm_inc _) ?_
                refine pm_goto 5 d_M_mayStay_125 rfl ?_
                -- at 5: lo=[some (pm_R 48), some (pm_I (nI p)), some (pm_I (nI o)), some (pm_I (nI 0)), some (pm_I (nI (x + 1))), some (pm_I (nI (rn_ (rh_rk L p x)))), some (pm_I (nI 1))] st=[]
                exact ih false (al_f hI (by
                  first
                    | exact Or.inl c108
                    | exact Or.inr (fun z => z ⟨y, e, c41, rn_50.mp c48, (rn_lt r1 r2).mp c64, (rn_lt r3 r4).mp c97⟩))) _ _
              · refine pm_iload d_M_mayStay_111 rfl ?_
                refine pm_if_ne_t 120 d_M_mayStay_113 rfl (by decide) ?_
                refine pm_iconst' (nI 0) d_M_mayStay_120 (by decide) ?_
                refine pm_istore_n d_M_mayStay_121 (by decide) ?_
                refine pm_iinc' (nI (x + 1)) d_M_mayStay_122 (by decide) rfl (pm_inc _) ?_
                refine pm_goto 5 d_M_mayStay_125 rfl ?_
                -- at 5: lo=[some (pm_R 48), some (pm_I (nI p)), some (pm_I (nI o)), some (pm_I (nI 0)), some (pm_I (nI (x + 1))), some (pm_I (nI (rn_ (rh_rk L p x)))), some (pm_I (nI 1))] st=[]
                exact ih false (al_f hI (by
                  first
                    | exact Or.inl c108
                    | exact Or.inr (fun z => z ⟨y, e, c41, rn_50.mp c48, (rn_lt r1 r2).mp c64, (rn_lt r3 r4).mp c97⟩))) _ _
  · skip
    refine pm_iload d_M_mayStay_5 rfl ?_
    refine pm_aload_n d_M_mayStay_7 rfl ?_
    refine pm_geti' (nI n) d_M_mayStay_8 hf_M_47 (hg.s rfl) (hg.i (by decide)) rfl h1 ?_
    refine pm_icmp_ge_t 128 d_M_mayStay_11 rfl (by rw [nI_leI (by omega) (by omega)]; omega) ?_
    refine pm_iload_n d_M_mayStay_128 rfl ?_
    exact pm_zreturn d_M_mayStay_129 rfl (bI_01 _) (fun h => h) (Nat.le_refl _) (Nat.le_refl _) ⟨congrArg some (congrArg bI (bool_iff ⟨fun z => gy_iff.mpr (fun x y a1 a2 a3 a4 a5 a6 => hI.mp z x a1 ⟨y, a2, a3, a4, a5, a6⟩), fun z => hI.mpr (fun x hx hb => by
      obtain ⟨y, a2, a3, a4, a5, a6⟩ := hb
      exact gy_iff.mp z x y hx a2 a3 a4 a5 a6)⟩)), rfl, rfl⟩
end M3
