/-! the other side: lists, places, who would rather have whom -/
def mi_ (n : Nat) (L : Nat → List Nat) (σ : pI) : Prop := σ 48 1 = nI n ∧ (∀ p, p < n → σ 49 p = nI (L p).length) ∧ ∀ p k, p < n → k < (L p).length → σ 50 (8 * p + k) = nI ((L p).getD k 0)
theorem mi_of {n : Nat} {L : Nat → List Nat} {σ σ' : pI} (h : mi_ n L σ) (h1 : σ' 48 1 = σ 48 1) (h2 : ∀ c x, c = 49 ∨ c = 50 → σ' c x = σ c x) : mi_ n L σ' :=
  ⟨h1.trans h.1, fun p hp => (h2 49 p (by omega)).trans (h.2.1 p hp), fun p k hp hk => (h2 50 _ (by omega)).trans (h.2.2 p k hp hk)⟩
def mp_ (n : Nat) (dm : Nat → Nat) (σ : pI) : Prop := ∀ p, p < n → σ 51 p = nI (dm p)
def po_ (l : List Nat) (q k : Nat) : Int32 := if l.idxOf q < k then nI (l.idxOf q) else -1
theorem po_eq {l : List Nat} {q k : Nat} (hn : l.Nodup) (hk : k < l.length) (h : l.getD k 0 = q) : po_ l q (k + 1) = nI k := by
  unfold po_
  have e : l.idxOf q = k := by rw [← h]; exact idx_get hn hk
  rw [e, if_pos (Nat.lt_succ_self k)]
theorem po_ne {l : List Nat} {q k : Nat} (hk : k < l.length) (h : l.getD k 0 ≠ q) : po_ l q (k + 1) = po_ l q k := by
  unfold po_
  by_cases e : l.idxOf q < k
  · rw [if_pos e, if_pos (by omega)]
  · rw [if_neg e, if_neg]
    intro z
    have e2 : l.idxOf q = k := by omega
    have hm : q ∈ l := List.idxOf_lt_length_iff.mp (by omega)
    have := (get_idx hm).2
    rw [e2] at this
    exact h this
theorem po_end {L : Nat → List Nat} {p q : Nat} : po_ (L p) q (L p).length = pl_ L p q := by
  unfold po_ pl_
  by_cases e : q ∈ L p
  · rw [if_pos e, if_pos (List.idxOf_lt_length_iff.mpr e)]
  · rw [if_neg e, if_neg (fun z => e (List.idxOf_lt_length_iff.mp z))]
theorem pl_neg {n : Nat} {L : Nat → List Nat} (hw : rh_wf n L) {p q : Nat} : pl_ L p q < 0 ↔ q ∉ L p := by
  have h7 := wf_len hw p
  unfold pl_
  by_cases e : q ∈ L p
  · rw [if_pos e]
    have := (get_idx e).1
    exact ⟨fun z => absurd z (nI_nn (by omega)), fun z => absurd e z⟩
  · rw [if_neg e]
    exact ⟨fun _ => e, fun _ => by decide⟩
theorem ix_le {n : Nat} {L : Nat → List Nat} (hw : rh_wf n L) (p q : Nat) : (L p).idxOf q ≤ 7 := by
  have h7 := wf_len hw p
  have := List.idxOf_le_length (a := q) (l := L p)
  omega
theorem pr_iff {n : Nat} {L : Nat → List Nat} (hw : rh_wf n L) {p a c : Nat} (hp : p < n) (hc : rh_rk L p c ≤ 8) : rh_rk L p a < rh_rk L p c ↔ (a ≠ c ∧ a ≠ p ∧ (a ∈ L p ∧ p ∈ L a) ∧ (c = p ∨ (L p).idxOf a < (L p).idxOf c)) := by
  have ha7 := ix_le hw p a
  rw [rh_rk_le hw hp] at hc
  constructor
  · intro h
    have h8 : rh_rk L p a < 8 := by
      have : rh_rk L p c ≤ 8 := (rh_rk_le hw hp).mpr hc
      omega
    have hm := (rh_rk_lt hw hp).mp h8
    have hap := ((hw.2.1 p hp).2 a hm.1).2
    refine ⟨fun z => by rw [z] at h; omega, hap, hm, ?_⟩
    by_cases e : c = p
    · exact Or.inl e
    · right
      have hmc := hc.resolve_left (Ne.symm e)
      unfold rh_rk at h
      rw [if_neg (Ne.symm hap), if_pos hm, if_neg (Ne.symm e), if_pos hmc] at h
      exact h
  · rintro ⟨h1, h2, h3, h4⟩
    unfold rh_rk
    rw [if_neg (Ne.symm h2), if_pos h3]
    by_cases e : p = c
    · rw [if_pos e]; omega
    · rw [if_neg e, if_pos (hc.resolve_left e)]
      exact h4.resolve_left (Ne.symm e)
section M1
variable {b : pB} {g : pG} {σ : pI} {τ : pJ} {d n p q i j h a c : Nat} {x y : Int32} {L : Nat → List Nat} {dm : Nat → Nat}
theorem k_M_thrown (hg : pm_gok 61 g) (hB : pm_base b) : pm_C b (d) km_M_thrown [pm_R 48] g σ τ 0 0 (pm_Rd (σ 48 0) σ τ) := by
  show pm_Y b d km_M_thrown 0 false [some (pm_R 48)] [] g σ τ 0 0 0 0 _
  refine pm_aload_n d_M_thrown_0 rfl ?_
  refine pm_geti d_M_thrown_1 hf_M_43 (hg.s rfl) (hg.i (by decide)) rfl ?_
  exact pm_ireturn d_M_thrown_4 rfl (fun h => h) (Nat.le_refl _) (Nat.le_refl _) ⟨rfl, rfl, rfl⟩
theorem y_M_isPerson (hg : pm_gok 61 g) (hB : pm_base b) (hn : n ≤ 8) (h1 : σ 48 1 = nI n) (hp : p < n) : pm_C b (d) km_M_isPerson [pm_R 48, pm_I (nI p)] g σ τ 0 0 (pm_Rd (nI 1) σ τ) := by
  show pm_Y b d km_M_isPerson 0 false [some (pm_R 48), some (pm_I (nI p))] [] g σ τ 0 0 0 0 _
  refine pm_iload_n d_M_isPerson_0 rfl ?_
  refine pm_if_lt_f 16 d_M_isPerson_1 rfl (nI_nn (by omega)) ?_
  refine pm_iload_n d_M_isPerson_4 rfl ?_
  refine pm_aload_n d_M_isPerson_5 rfl ?_
  refine pm_geti' (nI n) d_M_isPerson_6 hf_M_47 (hg.s rfl) (hg.i (by decide)) rfl h1 ?_
  refine pm_icmp_ge_f 16 d_M_isPerson_9 rfl (by rw [nI_leI (by omega) (by omega)]; omega) ?_
  refine pm_iconst' (nI 1) d_M_isPerson_12 (by decide) ?_
  refine pm_goto 17 d_M_isPerson_13 rfl ?_
  exact pm_zreturn d_M_isPerson_17 rfl (Or.inr rfl) (fun h => h) (Nat.le_refl _) (Nat.le_refl _) ⟨rfl, rfl, rfl⟩
theorem n_M_isPerson (hg : pm_gok 61 g) (hB : pm_base b) (hn : n ≤ 8) (h1 : σ 48 1 = nI n) (hx : ob_ n x) : pm_C b (d) km_M_isPerson [pm_R 48, pm_I x] g σ τ 0 0 (pm_Rd (nI 0) σ τ) := by
  show pm_Y b d km_M_isPerson 0 false [some (pm_R 48), some (pm_I x)] [] g σ τ 0 0 0 0 _
  by_cases e : x < 0
  · have hx := e
    refine pm_iload_n d_M_isPerson_0 rfl ?_
    refine pm_if_lt_t 16 d_M_isPerson_1 rfl hx ?_
    refine pm_iconst' (nI 0) d_M_isPerson_16 (by decide) ?_
    exact pm_zreturn d_M_isPerson_17 rfl (Or.inl rfl) (fun h => h) (Nat.le_refl _) (Nat.le_refl _) ⟨rfl, rfl, rfl⟩
  · have hx := hx.resolve_left e
    refine pm_iload_n d_M_isPerson_0 rfl ?_
    refine pm_if_lt_f 16 d_M_isPerson_1 rfl e ?_
    refine pm_iload_n d_M_isPerson_4 rfl ?_
    refine pm_aload_n d_M_isPerson_5 rfl ?_
    refine pm_geti' (nI n) d_M_isPerson_6 hf_M_47 (hg.s rfl) (hg.i (by decide)) rfl h1 ?_
    refine pm_icmp_ge_t 16 d_M_isPerson_9 rfl hx ?_
    refine pm_iconst' (nI 0) d_M_isPerson_16 (by decide) ?_
    exact pm_zreturn d_M_isPerson_17 rfl (Or.inl rfl) (fun h => h) (Nat.le_refl _) (Nat.le_refl _) ⟨rfl, rfl, rfl⟩
theorem k_M_placeOf (hg : pm_gok 61 g) (hB : pm_base b) (hw : rh_wf n L) (hM : mi_ n L σ) (hp : p < n) (hq : q < 8) : pm_C b (d) km_M_placeOf [pm_R 48, pm_I (nI p), pm_I (nI q)] g σ τ 0 0 (pm_Rd (pl_ L p q) σ τ) := by
  have h8 := hw.1
  have h7 := wf_len hw p
  have hnd := (hw.2.1 p hp).1
  show pm_Y b d km_M_placeOf 0 false [some (pm_R 48), some (pm_I (nI p)), some (pm_I (nI q)), none, none] [] g σ τ 0 0 0 0 _
  refine pm_iconst' (-1) d_M_placeOf_0 (by decide) ?_
  refine pm_istore_n d_M_placeOf_1 (by decide) ?_
  refine pm_iconst' (nI 0) d_M_placeOf_2 (by decide) ?_
  refine pm_istore d_M_placeOf_3 (by decide) ?_
  refine pm_for (L p).length (fun k (_ : Unit) => pm_Y b d km_M_placeOf 5 false [some (pm_R 48), some (pm_I (nI p)), some (pm_I (nI q)), some (pm_I (po_ (L p) q k)), some (pm_I (nI k))] [] g σ τ 0 0 0 0 (pm_Rd (pl_ L p q) σ τ)) (fun _ _ => True) (fun k _ hk _ ih => ?_) (fun _ _ => ?_) (L p).length 0 () (Nat.zero_add _) trivial
  · have hb := wf_b hw hp k
    refine pm_iload d_M_placeOf_5 rfl ?_
    refine pm_aload_n d_M_placeOf_7 rfl ?_
    refine pm_getr d_M_placeOf_8 hf_M_7 (hg.s rfl) (hg.i (by decide)) rfl (hg.r (by decide) rfl) ?_
    refine pm_iload_n d_M_placeOf_11 rfl ?_
    refine pm_iaload' p (nI ((L p).length)) d_M_placeOf_12 (hg.s rfl) (hg.i (by decide)) rfl (by omega) (by decide) (hM.2.1 p hp) ?_
    refine pm_icmp_ge_f 45 d_M_placeOf_13 rfl (by rw [nI_leI (by omega) (by omega)]; omega) ?_
    refine pm_aload_n d_M_placeOf_16 rfl ?_
    refine pm_getr d_M_placeOf_17 hf_M_13 (hg.s rfl) (hg.i (by decide)) rfl (hg.r (by decide) rfl) ?_
    refine pm_bipush' (nI 8) d_M_placeOf_20 (by decide) ?_
    refine pm_iload_n d_M_placeOf_22 rfl ?_
    refine pm_imulN d_M_placeOf_23 ?_
    refine pm_iload d_M_placeOf_24 rfl ?_
    refine pm_iaddN d_M_placeOf_26 ?_
    refine pm_iaload' ((8 * p) + k) (nI ((L p).getD k 0)) d_M_placeOf_27 (hg.s rfl) (hg.i (by decide)) rfl (by omega) (by decide) (hM.2.2 p k hp hk) ?_
    refine pm_iload_n d_M_placeOf_28 rfl ?_
    refine pm_icmp_neN 37 d_M_placeOf_29 rfl (by omega) (by omega) (fun c29 => ?_) (fun c29 => ?_)
    · refine pm_iload_n d_M_placeOf_37 rfl ?_
      refine pm_istore_n d_M_placeOf_38 (by decide) ?_
      refine pm_iinc' (nI (k + 1)) d_M_placeOf_39 (by decide) rfl (pm_inc _) ?_
      refine pm_goto 5 d_M_placeOf_42 rfl ?_
      -- at 5: lo=[some (pm_R 48), some (pm_I (nI p)), some (pm_I (nI q)), some (pm_I (po_ (L p) q k)), some (pm_I (nI (k + 1)))] st=[]
      have h9 := ih () trivial
      rw [po_ne hk c29] at h9
      exact h9
    · refine pm_iload d_M_placeOf_32 rfl ?_
      refine pm_goto 38 d_M_placeOf_34 rfl ?_
      refine pm_istore_n d_M_placeOf_38 (by decide) ?_
      refine pm_iinc' (nI (k + 1)) d_M_placeOf_39 (by decide) rfl (pm_inc _) ?_
      refine pm_goto 5 d_M_placeOf_42 rfl ?_
      -- at 5: lo=[some (pm_R 48), some (pm_I (nI p)), some (pm_I (nI q)), some (pm_I (nI k)), some (pm_I (nI (k + 1)))] st=[]
      have h9 := ih () trivial
      rw [po_eq hnd hk c29] at h9
      exact h9
  · skip
    refine pm_iload d_M_placeOf_5 rfl ?_
    refine pm_aload_n d_M_placeOf_7 rfl ?_
    refine pm_getr d_M_placeOf_8 hf_M_7 (hg.s rfl) (hg.i (by decide)) rfl (hg.r (by decide) rfl) ?_
    refine pm_iload_n d_M_placeOf_11 rfl ?_
    refine pm_iaload' p (nI ((L p).length)) d_M_placeOf_12 (hg.s rfl) (hg.i (by decide)) rfl (by omega) (by decide) (hM.2.1 p hp) ?_
    refine pm_icmp_ge_t 45 d_M_placeOf_13 rfl (by rw [nI_leI (by omega) (by omega)]; omega) ?_
    refine pm_iload_n d_M_placeOf_45 rfl ?_
    exact pm_ireturn d_M_placeOf_46 rfl (fun h => h) (Nat.le_refl _) (Nat.le_refl _) ⟨congrArg some po_end, rfl, rfl⟩
theorem k_M_placeIn (hg : pm_gok 61 g) (hB : pm_base b) (hw : rh_wf n L) (hM : mi_ n L σ) (hp : p < n) (hq : q < 8) (hm : q ∈ L p) : pm_C b d km_M_placeOf [pm_R 48, pm_I (nI p), pm_I (nI q)] g σ τ 0 0 (pm_Rd (nI ((L p).idxOf q)) σ τ) := by
  have h9 := k_M_placeOf (b := b) (d := d) (τ := τ) hg hB hw hM hp hq
  unfold pl_ at h9
  rw [if_pos hm] at h9
  exact h9
theorem k_M_mayBe (hg : pm_gok 61 g) (hB : pm_base b) (hw : rh_wf n L) (hM : mi_ n L σ) (hp : p < n) (hq : q < n) : pm_C b (d + 1) km_M_mayBe [pm_R 48, pm_I (nI p), pm_I (nI q)] g σ τ 0 0 (pm_Rd (bI (decide (q ∈ L p ∧ p ∈ L q))) σ τ) := by
  have h8 := hw.1
  show pm_Y b (d + 1) km_M_mayBe 0 false [some (pm_R 48), some (pm_I (nI p)), some (pm_I (nI q))] [] g σ τ 0 0 0 0 _
  refine pm_aload_n d_M_mayBe_0 rfl ?_
  refine pm_iload_n d_M_mayBe_1 rfl ?_
  refine pm_iload_n d_M_mayBe_2 rfl ?_
  refine pm_callR (i := 48) (ci := 5) (rest := []) [pm_I (nI p), pm_I (nI q)] hB d_M_mayBe_3 hc_M_50 (k_M_placeOf hg hB hw hM hp (by omega)) (hg.s rfl) (hg.i (by decide)) rfl rfl rfl rfl (Nat.le_of_ble_eq_true rfl) (Nat.le_of_ble_eq_true rfl) (by omega) (by omega) ?_
  refine pm_if_lt 22 d_M_mayBe_6 rfl (fun c6 => ?_) (fun c6 => ?_)
  · refine pm_iconst' (nI 0) d_M_mayBe_22 (by decide) ?_
    exact pm_zreturn d_M_mayBe_23 rfl (Or.inl rfl) (fun h => h) (Nat.le_refl _) (Nat.le_refl _) ⟨congrArg some (congrArg bI (decide_eq_false (fun z => by first | exact (pl_neg hw).mp c15 z.2 | exact (pl_neg hw).mp c6 z.1))).symm, rfl, rfl⟩
  · refine pm_aload_n d_M_mayBe_9 rfl ?_
    refine pm_iload_n d_M_mayBe_10 rfl ?_
    refine pm_iload_n d_M_mayBe_11 rfl ?_
    refine pm_callR (i := 48) (ci := 5) (rest := []) [pm_I (nI q), pm_I (nI p)] hB d_M_mayBe_12 hc_M_50 (k_M_placeOf hg hB hw hM hq (by omega)) (hg.s rfl) (hg.i (by decide)) rfl rfl rfl rfl (Nat.le_of_ble_eq_true rfl) (Nat.le_of_ble_eq_true rfl) (by omega) (by omega) ?_
    refine pm_if_lt 22 d_M_mayBe_15 rfl (fun c15 => ?_) (fun c15 => ?_)
    · refine pm_iconst' (nI 0) d_M_mayBe_22 (by decide) ?_
      exact pm_zreturn d_M_mayBe_23 rfl (Or.inl rfl) (fun h => h) (Nat.le_refl _) (Nat.le_refl _) ⟨congrArg some (congrArg bI (decide_eq_false (fun z => by first | exact (pl_neg hw).mp c15 z.2 | exact (pl_neg hw).mp c6 z.1))).symm, rfl, rfl⟩
    · refine pm_iconst' (nI 1) d_M_mayBe_18 (by decide) ?_
      refine pm_goto 23 d_M_mayBe_19 rfl ?_
      exact pm_zreturn d_M_mayBe_23 rfl (Or.inr rfl) (fun h => h) (Nat.le_refl _) (Nat.le_refl _) ⟨congrArg some (congrArg bI (decide_eq_true ⟨Classical.not_not.mp (mt (pl_neg hw).mpr c6), Classical.not_not.mp (mt (pl_neg hw).mpr c15)⟩)).symm, rfl, rfl⟩
theorem k_M_prefers (hg : pm_gok 61 g) (hB : pm_base b) (hw : rh_wf n L) (hM : mi_ n L σ) (hp : p < n) (ha : a < n) (hc : c < n) (hk : rh_rk L p c ≤ 8) : pm_C b (d + 2) km_M_prefers [pm_R 48, pm_I (nI p), pm_I (nI a), pm_I (nI c)] g σ τ 0 0 (pm_Rd (bI (decide (rh_rk L p a < rh_rk L p c))) σ τ) := by
  have h8 := hw.1
  have i1 := ix_le hw p a
  have i2 := ix_le hw p c
  show pm_Y b (d + 1 + 1) km_M_prefers 0 false [some (pm_R 48), some (pm_I (nI p)), some (pm_I (nI a)), some (pm_I (nI c))] [] g σ τ 0 0 0 0 _
  refine pm_iload_n d_M_prefers_0 rfl ?_
  refine pm_iload_n d_M_prefers_1 rfl ?_
  refine pm_icmp_eqN 43 d_M_prefers_2 rfl (by omega) (by omega) (fun c2 => ?_) (fun c2 => ?_)
  · refine pm_iconst' (nI 0) d_M_prefers_43 (by decide) ?_
    exact pm_zreturn d_M_prefers_44 rfl (Or.inl rfl) (fun h => h) (Nat.le_refl _) (Nat.le_refl _) ⟨congrArg some (congrArg bI (decide_eq_false (fun z => by
    have z := (pr_iff hw hp hk).mp z
    first
      | exact z.1 c2
      | exact z.2.1 c7
      | exact absurd (decide_eq_true z.2.2.1) (by rw [c16]; decide)
      | (rcases z.2.2.2 with w | w
         · exact c21 w
         · omega)))).symm, rfl, rfl⟩
  · refine pm_iload_n d_M_prefers_5 rfl ?_
    refine pm_iload_n d_M_prefers_6 rfl ?_
    refine pm_icmp_eqN 43 d_M_prefers_7 rfl (by omega) (by omega) (fun c7 => ?_) (fun c7 => ?_)
    · refine pm_iconst' (nI 0) d_M_prefers_43 (by decide) ?_
      exact pm_zreturn d_M_prefers_44 rfl (Or.inl rfl) (fun h => h) (Nat.le_refl _) (Nat.le_refl _) ⟨congrArg some (congrArg bI (decide_eq_false (fun z => by
    have z := (pr_iff hw hp hk).mp z
    first
      | exact z.1 c2
      | exact z.2.1 c7
      | exact absurd (decide_eq_true z.2.2.1) (by rw [c16]; decide)
      | (rcases z.2.2.2 with w | w
         · exact c21 w
         · omega)))).symm, rfl, rfl⟩
    · refine pm_aload_n d_M_prefers_10 rfl ?_
      refine pm_iload_n d_M_prefers_11 rfl ?_
      refine pm_iload_n d_M_prefers_12 rfl ?_
      refine pm_callR (i := 48) (ci := 5) (rest := []) [pm_I (nI p), pm_I (nI a)] hB d_M_prefers_13 hc_M_54 (k_M_mayBe hg hB hw hM hp ha) (hg.s rfl) (hg.i (by decide)) rfl rfl rfl rfl (Nat.le_of_ble_eq_true rfl) (Nat.le_of_ble_eq_true rfl) (by omega) (by omega) ?_
      refine pm_if_eqB 43 d_M_prefers_16 rfl (fun c16 => ?_) (fun c16 => ?_)
      · refine pm_iconst' (nI 0) d_M_prefers_43 (by decide) ?_
        exact pm_zreturn d_M_prefers_44 rfl (Or.inl rfl) (fun h => h) (Nat.le_refl _) (Nat.le_refl _) ⟨congrArg some (congrArg bI (decide_eq_false (fun z => by
    have z := (pr_iff hw hp hk).mp z
    first
      | exact z.1 c2
      | exact z.2.1 c7
      | exact absurd (decide_eq_true z.2.2.1) (by rw [c16]; decide)
      | (rcases z.2.2.2 with w | w
         · exact c21 w
         · omega)))).symm, rfl, rfl⟩
      · refine pm_iload_n d_M_prefers_19 rfl ?_
        refine pm_iload_n d_M_prefers_20 rfl ?_
        refine pm_icmp_eqN 39 d_M_prefers_21 rfl (by omega) (by omega) (fun c21 => ?_) (fun c21 => ?_)
        · refine pm_iconst' (nI 1) d_M_prefers_39 (by decide) ?_
          refine pm_goto 44 d_M_prefers_40 rfl ?_
          exact pm_zreturn d_M_prefers_44 rfl (Or.inr rfl) (fun h => h) (Nat.le_refl _) (Nat.le_refl _) ⟨congrArg some (congrArg bI (decide_eq_true ((pr_iff hw hp hk).mpr ⟨c2, c7, of_decide_eq_true c16, by first | exact Or.inl c21 | exact Or.inr (by omega)⟩))).symm, rfl, rfl⟩
        · refine pm_aload_n d_M_prefers_24 rfl ?_
          refine pm_iload_n d_M_prefers_25 rfl ?_
          refine pm_iload_n d_M_prefers_26 rfl ?_
          refine pm_callR (i := 48) (ci := 5) (rest := []) [pm_I (nI p), pm_I (nI a)] hB d_M_prefers_27 hc_M_50 (k_M_placeIn hg hB hw hM hp (by omega) (of_decide_eq_true c16).1) (hg.s rfl) (hg.i (by decide)) rfl rfl rfl rfl (Nat.le_of_ble_eq_true rfl) (Nat.le_of_ble_eq_true rfl) (by omega) (by omega) ?_
          refine pm_aload_n d_M_prefers_30 rfl ?_
          refine pm_iload_n d_M_prefers_31 rfl ?_
          refine pm_iload_n d_M_prefers_32 rfl ?_
          refine pm_callR (i := 48) (ci := 5) (rest := [pm_I (nI ((L p).idxOf a))]) [pm_I (nI p), pm_I (nI c)] hB d_M_prefers_33 hc_M_50 (k_M_placeIn hg hB hw hM hp (by omega) (((rh_rk_le hw hp).mp hk).resolve_left (Ne.symm c21)).1) (hg.s rfl) (hg.i (by decide)) rfl rfl rfl rfl (Nat.le_of_ble_eq_true rfl) (Nat.le_of_ble_eq_true rfl) (by omega) (by omega) ?_
          refine pm_icmp_geN 43 d_M_prefers_36 rfl (by omega) (by omega) (fun c36 => ?_) (fun c36 => ?_)
          · refine pm_iconst' (nI 0) d_M_prefers_43 (by decide) ?_
            exact pm_zreturn d_M_prefers_44 rfl (Or.inl rfl) (fun h => h) (Nat.le_refl _) (Nat.le_refl _) ⟨congrArg some (congrArg bI (decide_eq_false (fun z => by
    have z := (pr_iff hw hp hk).mp z
    first
      | exact z.1 c2
      | exact z.2.1 c7
      | exact absurd (decide_eq_true z.2.2.1) (by rw [c16]; decide)
      | (rcases z.2.2.2 with w | w
         · exact c21 w
         · omega)))).symm, rfl, rfl⟩
          · refine pm_iconst' (nI 1) d_M_prefers_39 (by decide) ?_
            refine pm_goto 44 d_M_prefers_40 rfl ?_
            exact pm_zreturn d_M_prefers_44 rfl (Or.inr rfl) (fun h => h) (Nat.le_refl _) (Nat.le_refl _) ⟨congrArg some (congrArg bI (decide_eq_true ((pr_iff hw hp hk).mpr ⟨c2, c7, of_decide_eq_true c16, by first | exact Or.inl c21 | exact Or.inr (by omega)⟩))).symm, rfl, rfl⟩
theorem k_M_blocks (hg : pm_gok 61 g) (hB : pm_base b) (hw : rh_wf n L) (hM : mi_ n L σ) (hP : mp_ n dm σ) (hD : ∀ p, p < n → dm p < n ∧ rh_rk L p (dm p) ≤ 8) (hp : p < n) (hq : q < n) : pm_C b (d + 3) km_M_blocks [pm_R 48, pm_I (nI p), pm_I (nI q), pm_R 51] g σ τ 0 0 (pm_Rd (bI (wb_ L p q (dm p) (dm q))) σ τ) := by
  have h8 := hw.1
  have i1 := (hD p hp).1
  show pm_Y b (d + 2 + 1) km_M_blocks 0 false [some (pm_R 48), some (pm_I (nI p)), some (pm_I (nI q)), some (pm_R 51)] [] g σ τ 0 0 0 0 _
  refine pm_aload_n d_M_blocks_0 rfl ?_
  refine pm_iload_n d_M_blocks_1 rfl ?_
  refine pm_iaload' p (nI (dm p)) d_M_blocks_2 (hg.s rfl) (hg.i (by decide)) rfl (by omega) (by decide) (hP p hp) ?_
  refine pm_iload_n d_M_blocks_3 rfl ?_
  refine pm_icmp_eqN 35 d_M_blocks_4 rfl (by omega) (by omega) (fun c4 => ?_) (fun c4 => ?_)
  · refine pm_iconst' (nI 0) d_M_blocks_35 (by decide) ?_
    exact pm_zreturn d_M_blocks_36 rfl (Or.inl rfl) (fun h => h) (Nat.le_refl _) (Nat.le_refl _) ⟨congrArg some (congrArg bI (show wb_ L p q (dm p) (dm q) = false by
    unfold wb_
    first
      | rw [c28, Bool.and_false]
      | rw [c16, Bool.false_and]
      | rw [decide_eq_false (show ¬ rh_rk L p q < rh_rk L p (dm p) by rw [c4]; omega), Bool.false_and])).symm, rfl, rfl⟩
  · refine pm_aload_n d_M_blocks_7 rfl ?_
    refine pm_iload_n d_M_blocks_8 rfl ?_
    refine pm_iload_n d_M_blocks_9 rfl ?_
    refine pm_aload_n d_M_blocks_10 rfl ?_
    refine pm_iload_n d_M_blocks_11 rfl ?_
    refine pm_iaload' p (nI (dm p)) d_M_blocks_12 (hg.s rfl) (hg.i (by decide)) rfl (by omega) (by decide) (hP p hp) ?_
    refine pm_callR (i := 48) (ci := 5) (rest := []) [pm_I (nI p), pm_I (nI q), pm_I (nI (dm p))] hB d_M_blocks_13 hc_M_72 (k_M_prefers hg hB hw hM hp hq (hD p hp).1 (hD p hp).2) (hg.s rfl) (hg.i (by decide)) rfl rfl rfl rfl (Nat.le_of_ble_eq_true rfl) (Nat.le_of_ble_eq_true rfl) (by omega) (by omega) ?_
    refine pm_if_eqB 35 d_M_blocks_16 rfl (fun c16 => ?_) (fun c16 => ?_)
    · refine pm_iconst' (nI 0) d_M_blocks_35 (by decide) ?_
      exact pm_zreturn d_M_blocks_36 rfl (Or.inl rfl) (fun h => h) (Nat.le_refl _) (Nat.le_refl _) ⟨congrArg some (congrArg bI (show wb_ L p q (dm p) (dm q) = false by
    unfold wb_
    first
      | rw [c28, Bool.and_false]
      | rw [c16, Bool.false_and]
      | rw [decide_eq_false (show ¬ rh_rk L p q < rh_rk L p (dm p) by rw [c4]; omega), Bool.false_and])).symm, rfl, rfl⟩
    · refine pm_aload_n d_M_blocks_19 rfl ?_
      refine pm_iload_n d_M_blocks_20 rfl ?_
      refine pm_iload_n d_M_blocks_21 rfl ?_
      refine pm_aload_n d_M_blocks_22 rfl ?_
      refine pm_iload_n d_M_blocks_23 rfl ?_
      refine pm_iaload' q (nI (dm q)) d_M_blocks_24 (hg.s rfl) (hg.i (by decide)) rfl (by omega) (by decide) (hP q hq) ?_
      refine pm_callR (i := 48) (ci := 5) (rest := []) [pm_I (nI q), pm_I (nI p), pm_I (nI (dm q))] hB d_M_blocks_25 hc_M_72 (k_M_prefers hg hB hw hM hq hp (hD q hq).1 (hD q hq).2) (hg.s rfl) (hg.i (by decide)) rfl rfl rfl rfl (Nat.le_of_ble_eq_true rfl) (Nat.le_of_ble_eq_true rfl) (by omega) (by omega) ?_
      refine pm_if_eqB 35 d_M_blocks_28 rfl (fun c28 => ?_) (fun c28 => ?_)
      · refine pm_iconst' (nI 0) d_M_blocks_35 (by decide) ?_
        exact pm_zreturn d_M_blocks_36 rfl (Or.inl rfl) (fun h => h) (Nat.le_refl _) (Nat.le_refl _) ⟨congrArg some (congrArg bI (show wb_ L p q (dm p) (dm q) = false by
    unfold wb_
    first
      | rw [c28, Bool.and_false]
      | rw [c16, Bool.false_and]
      | rw [decide_eq_false (show ¬ rh_rk L p q < rh_rk L p (dm p) by rw [c4]; omega), Bool.false_and])).symm, rfl, rfl⟩
      · refine pm_iconst' (nI 1) d_M_blocks_31 (by decide) ?_
        refine pm_goto 36 d_M_blocks_32 rfl ?_
        exact pm_zreturn d_M_blocks_36 rfl (Or.inr rfl) (fun h => h) (Nat.le_refl _) (Nat.le_refl _) ⟨congrArg some (congrArg bI (show wb_ L p q (dm p) (dm q) = true by unfold wb_; rw [c16, c28]; rfl)).symm, rfl, rfl⟩
end M1
