/-! the draft -/
def ci_D (dm : Nat → Nat) (σ : pI) : Prop := ∀ p, p < 8 → σ 31 p = nI (dm p)
def dr_fr (σ₀ σ : pI) : Prop := ∀ c x, c ≠ 31 → σ c x = σ₀ c x
/-- p and whom it has are parted -/
def ms_ (dm : Nat → Nat) (p : Nat) : Nat → Nat := gw_up (gw_up dm (dm p) (dm p)) p p
def jn_ (dm : Nat → Nat) (p q : Nat) : Nat → Nat := gw_up (gw_up (ms_ (ms_ dm p) q) p q) q p
def md_ (n : Nat) (L : Nat → List Nat) (dm : Nat → Nat) : Prop := (∀ p, p < 8 → dm p < 8 ∧ dm (dm p) = p) ∧ ∀ p, p < 8 → dm p ≠ p → p < n ∧ dm p < n ∧ rh_rk L p (dm p) < 8
theorem D_up {dm : Nat → Nat} {σ : pI} {p x : Nat} (h : ci_D dm σ) : ci_D (gw_up dm p x) (pm_up σ 31 p (nI x)) := by
  intro a ha
  by_cases e : a = p
  · subst e; rw [pm_up_at, gw_up_self]
  · rw [pm_up_ne (by omega), gw_up_ne _ _ e]; exact h a ha
theorem ms_lt {dm : Nat → Nat} (h : ∀ p, p < 8 → dm p < 8) {p : Nat} (hp : p < 8) : ∀ a, a < 8 → ms_ dm p a < 8 := by
  intro a ha
  unfold ms_ gw_up
  split
  · exact hp
  · split
    · exact h p hp
    · exact h a ha
/-- pairs below n for which f holds -/
def cb_in (f : Nat → Nat → Bool) (l k : Nat) : Nat := ex_sum (fun j => if f l (l + 1 + j) = true then 1 else 0) k
def cb_ (f : Nat → Nat → Bool) (n i : Nat) : Nat := ex_sum (fun l => cb_in f l (n - (l + 1))) i
theorem cb_in_le (f : Nat → Nat → Bool) (l k : Nat) : cb_in f l k ≤ k := by
  have := ex_sum_bound (f := fun j => if f l (l + 1 + j) = true then 1 else 0) (S := 1) k (fun i _ => by show (if f l (l + 1 + i) = true then 1 else 0) ≤ 1; split <;> omega)
  rw [Nat.mul_one] at this
  exact this
theorem cb_le (f : Nat → Nat → Bool) {n : Nat} (hn : n ≤ 8) (i : Nat) : cb_ f n i ≤ i * 8 := ex_sum_bound i (fun l _ => by have := cb_in_le f l (n - (l + 1)); show cb_in f l (n - (l + 1)) ≤ 8; omega)
section D1
variable {b : pB} {g : pG} {σ : pI} {τ : pJ} {d p q n ch : Nat} {L : Nat → List Nat} {dm : Nat → Nat}
theorem k_W_count (hg : pm_gok 48 g) (h4 : σ 1 4 = nI n) : pm_C b d km_W_count [pm_R 1] g σ τ 0 0 (pm_Rd (nI n) σ τ) := by
  rw [← h4]
  exact c_W_count hg
theorem k_W_changes (hg : pm_gok 48 g) (h5 : σ 1 5 = nI n) : pm_C b d km_W_changes [pm_R 1] g σ τ 0 0 (pm_Rd (nI n) σ τ) := by
  rw [← h5]
  exact c_W_changes hg
theorem k_W_length (hg : pm_gok 48 g) (hL : ci_L L σ) (hp : p < 8) : pm_C b d km_W_length [pm_R 1, pm_I (nI p)] g σ τ 0 0 (pm_Rd (nI (L p).length) σ τ) := by
  rw [← hL.1 p hp]
  exact c_W_length hg hp
theorem k_W_otherAt (hg : pm_gok 48 g) (hL : ci_L L σ) (hp : p < 8) (hk : q < (L p).length) (hq : q < 8) : pm_C b d km_W_otherAt [pm_R 1, pm_I (nI p), pm_I (nI q)] g σ τ 0 0 (pm_Rd (nI ((L p).getD q 0)) σ τ) := by
  rw [← hL.2.1 p q hp hk]
  exact c_W_otherAt hg hp hq
theorem k_W_placeOf (hg : pm_gok 48 g) (hL : ci_L L σ) (hp : p < 8) (hq : q < 8) : pm_C b d km_W_placeOf [pm_R 1, pm_I (nI p), pm_I (nI q)] g σ τ 0 0 (pm_Rd (pl_ L p q) σ τ) := by
  rw [← hL.2.2 p q hp hq]
  exact c_W_placeOf hg hp hq
theorem k_D_mateOf (hg : pm_gok 48 g) (hD : ci_D dm σ) (hp : p < 8) : pm_C b d km_D_mateOf [pm_R 30, pm_I (nI p)] g σ τ 0 0 (pm_Rd (nI (dm p)) σ τ) := by
  show pm_Y b d km_D_mateOf 0 false [some (pm_R 30), some (pm_I (nI p))] [] g σ τ 0 0 0 0 _
  refine pm_aload_n d_D_mateOf_0 rfl ?_
  refine pm_getr d_D_mateOf_1 hf_D_9 (hg.s rfl) (hg.i (by decide)) rfl (hg.r (by decide) rfl) ?_
  refine pm_iload_n d_D_mateOf_4 rfl ?_
  refine pm_iaload' p (nI (dm p)) d_D_mateOf_5 (hg.s rfl) (hg.i (by decide)) rfl hp (by decide) (hD p hp) ?_
  exact pm_ireturn d_D_mateOf_6 rfl (fun h => h) (Nat.le_refl _) (Nat.le_refl _) ⟨rfl, rfl, rfl⟩
theorem k_D_makeAllSingle (hg : pm_gok 48 g) : pm_C b d km_D_makeAllSingle [pm_R 30] g σ τ 0 0 (pm_Wp (fun v σ' => v = none ∧ ci_D (fun p => p) σ' ∧ dr_fr σ σ') τ) := by
  show pm_Y b d km_D_makeAllSingle 0 false [some (pm_R 30), none] [] g σ τ 0 0 0 0 _
  refine pm_iconst' (nI 0) d_D_makeAllSingle_0 (by decide) ?_
  refine pm_istore_n d_D_makeAllSingle_1 (by decide) ?_
  refine pm_flag ?_
  refine pm_for 8 (fun i σ₂ => pm_Y b d km_D_makeAllSingle 2 true [some (pm_R 30), some (pm_I (nI i))] [] g σ₂ τ 0 0 0 0 (pm_Wp (fun v σ' => v = none ∧ ci_D (fun p => p) σ' ∧ dr_fr σ σ') τ)) (fun i σ₂ => (∀ p, p < i → σ₂ 31 p = nI p) ∧ dr_fr σ σ₂) (fun i σ₂ hi hI ih => ?_) (fun σ₂ hI => ?_) 8 0 σ rfl ⟨fun p hp => absurd hp (Nat.not_lt_zero p), fun _ _ _ => rfl⟩
  · refine pm_iload_n d_D_makeAllSingle_2 rfl ?_
    refine pm_bipush' (nI 8) d_D_makeAllSingle_3 (by decide) ?_
    refine pm_icmp_ge_f 21 d_D_makeAllSingle_5 rfl (by rw [nI_leI (by omega) (by omega)]; omega) ?_
    refine pm_aload_n d_D_makeAllSingle_8 rfl ?_
    refine pm_getr d_D_makeAllSingle_9 hf_D_9 (hg.s rfl) (hg.i (by decide)) rfl (hg.r (by decide) rfl) ?_
    refine pm_iload_n d_D_makeAllSingle_12 rfl ?_
    refine pm_iload_n d_D_makeAllSingle_13 rfl ?_
    refine pm_iastore i d_D_makeAllSingle_14 (hg.s rfl) (hg.i (by decide)) rfl hi (by decide) ?_
    refine pm_iinc' (nI (i + 1)) d_D_makeAllSingle_15 (by decide) rfl (pm_inc _) ?_
    refine pm_goto 2 d_D_makeAllSingle_18 rfl ?_
    -- at 2: lo=[some (pm_R 30), some (pm_I (nI (i + 1)))] st=[]
    exact ih _ ⟨fun p hp => by
      by_cases e : p = i
      · subst e; rw [pm_up_at]
      · rw [pm_up_ne (by omega)]; exact hI.1 p (by omega), fun c x hc => by rw [pm_up_ne (by omega)]; exact hI.2 c x hc⟩
  · refine pm_iload_n d_D_makeAllSingle_2 rfl ?_
    refine pm_bipush' (nI 8) d_D_makeAllSingle_3 (by decide) ?_
    refine pm_icmp_ge_t 21 d_D_makeAllSingle_5 rfl (by decide) ?_
    exact pm_return d_D_makeAllSingle_21 rfl (fun _ => rfl) (Nat.le_refl _) (Nat.le_refl _) ⟨⟨rfl, hI⟩, rfl⟩
theorem k_D_makeSingle (hg : pm_gok 48 g) (hD : ci_D dm σ) (hm : ∀ p, p < 8 → dm p < 8) (hp : p < 8) : pm_C b d km_D_makeSingle [pm_R 30, pm_I (nI p)] g σ τ 0 0 (pm_Wp (fun v σ' => v = none ∧ ci_D (ms_ dm p) σ' ∧ dr_fr σ σ') τ) := by
  show pm_Y b d km_D_makeSingle 0 false [some (pm_R 30), some (pm_I (nI p)), none] [] g σ τ 0 0 0 0 _
  refine pm_aload_n d_D_makeSingle_0 rfl ?_
  refine pm_getr d_D_makeSingle_1 hf_D_9 (hg.s rfl) (hg.i (by decide)) rfl (hg.r (by decide) rfl) ?_
  refine pm_iload_n d_D_makeSingle_4 rfl ?_
  refine pm_iaload' p (nI (dm p)) d_D_makeSingle_5 (hg.s rfl) (hg.i (by decide)) rfl hp (by decide) (hD p hp) ?_
  refine pm_istore_n d_D_makeSingle_6 (by decide) ?_
  refine pm_aload_n d_D_makeSingle_7 rfl ?_
  refine pm_getr d_D_makeSingle_8 hf_D_9 (hg.s rfl) (hg.i (by decide)) rfl (hg.r (by decide) rfl) ?_
  refine pm_iload_n d_D_makeSingle_11 rfl ?_
  refine pm_iload_n d_D_makeSingle_12 rfl ?_
  refine pm_iastore (dm p) d_D_makeSingle_13 (hg.s rfl) (hg.i (by decide)) rfl (hm p hp) (by decide) ?_
  refine pm_aload_n d_D_makeSingle_14 rfl ?_
  refine pm_getr d_D_makeSingle_15 hf_D_9 (hg.s rfl) (hg.i (by decide)) rfl (hg.r (by decide) rfl) ?_
  refine pm_iload_n d_D_makeSingle_18 rfl ?_
  refine pm_iload_n d_D_makeSingle_19 rfl ?_
  refine pm_iastore p d_D_makeSingle_20 (hg.s rfl) (hg.i (by decide)) rfl hp (by decide) ?_
  exact pm_return d_D_makeSingle_21 rfl (fun _ => rfl) (Nat.le_refl _) (Nat.le_refl _) ⟨⟨rfl, D_up (D_up hD), fun c x hc => by rw [pm_up_ne (by omega), pm_up_ne (by omega)]⟩, rfl⟩
theorem k_D_join (hg : pm_gok 48 g) (hB : pm_base b) (hD : ci_D dm σ) (hm : ∀ p, p < 8 → dm p < 8) (hp : p < 8) (hq : q < 8) : pm_C b (d + 1) km_D_join [pm_R 30, pm_I (nI p), pm_I (nI q)] g σ τ 0 0 (pm_Wp (fun v σ' => v = none ∧ ci_D (jn_ dm p q) σ' ∧ dr_fr σ σ') τ) := by
  show pm_Y b (d + 1) km_D_join 0 false [some (pm_R 30), some (pm_I (nI p)), some (pm_I (nI q))] [] g σ τ 0 0 0 0 _
  refine pm_aload_n d_D_join_0 rfl ?_
  refine pm_iload_n d_D_join_1 rfl ?_
  refine pm_callWp (i := 30) (ci := 2) (rest := []) [pm_I (nI p)] hB d_D_join_2 hc_D_19 (k_D_makeSingle hg hD hm hp) (hg.s rfl) (hg.i (by decide)) rfl rfl rfl rfl (Nat.le_of_ble_eq_true rfl) (Nat.le_of_ble_eq_true rfl) (by omega) (by omega) (fun v2 σ₁ hv2 hq2 => ?_)
  obtain ⟨rfl, hD1, hf1⟩ := hq2
  show pm_Y b _ km_D_join 5 true [some (pm_R 30), some (pm_I (nI p)), some (pm_I (nI q))] [] g σ₁ τ 0 0 0 0 _
  refine pm_aload_n d_D_join_5 rfl ?_
  refine pm_iload_n d_D_join_6 rfl ?_
  refine pm_callWp (i := 30) (ci := 2) (rest := []) [pm_I (nI q)] hB d_D_join_7 hc_D_19 (k_D_makeSingle hg hD1 (ms_lt hm hp) hq) (hg.s rfl) (hg.i (by decide)) rfl rfl rfl rfl (Nat.le_of_ble_eq_true rfl) (Nat.le_of_ble_eq_true rfl) (by omega) (by omega) (fun v7 σ₂ hv7 hq7 => ?_)
  obtain ⟨rfl, hD2, hf2⟩ := hq7
  show pm_Y b _ km_D_join 10 true [some (pm_R 30), some (pm_I (nI p)), some (pm_I (nI q))] [] g σ₂ τ 0 0 0 0 _
  refine pm_aload_n d_D_join_10 rfl ?_
  refine pm_getr d_D_join_11 hf_D_9 (hg.s rfl) (hg.i (by decide)) rfl (hg.r (by decide) rfl) ?_
  refine pm_iload_n d_D_join_14 rfl ?_
  refine pm_iload_n d_D_join_15 rfl ?_
  refine pm_iastore p d_D_join_16 (hg.s rfl) (hg.i (by decide)) rfl hp (by decide) ?_
  refine pm_aload_n d_D_join_17 rfl ?_
  refine pm_getr d_D_join_18 hf_D_9 (hg.s rfl) (hg.i (by decide)) rfl (hg.r (by decide) rfl) ?_
  refine pm_iload_n d_D_join_21 rfl ?_
  refine pm_iload_n d_D_join_22 rfl ?_
  refine pm_iastore q d_D_join_23 (hg.s rfl) (hg.i (by decide)) rfl hq (by decide) ?_
  exact pm_return d_D_join_24 rfl (fun _ => rfl) (Nat.le_refl _) (Nat.le_refl _) ⟨⟨rfl, D_up (D_up hD2), fun c x hc => by rw [pm_up_ne (by omega), pm_up_ne (by omega), hf2 c x hc, hf1 c x hc]⟩, rfl⟩
theorem k_D_part (hg : pm_gok 48 g) (hB : pm_base b) (hw : rh_wf n L) (hS : ci_S L σ) (hD : ci_D dm σ) (hm : ∀ p, p < 8 → dm p < 8) (hp : p < 8) (hq : q < 8) : pm_C b (d + 1) km_D_partIfNotPossible [pm_R 30, pm_I (nI p), pm_I (nI q)] g σ τ 0 0 (pm_Wp (fun v σ' => v = none ∧ ci_D (if dm p = q ∧ ¬ rh_rk L p q < 8 then ms_ dm p else dm) σ' ∧ dr_fr σ σ') τ) := by
  have hdp := hm p hp
  show pm_Y b (d + 1) km_D_partIfNotPossible 0 false [some (pm_R 30), some (pm_I (nI p)), some (pm_I (nI q))] [] g σ τ 0 0 0 0 _
  refine pm_aload_n d_D_partIfNotPossible_0 rfl ?_
  refine pm_getr d_D_partIfNotPossible_1 hf_D_9 (hg.s rfl) (hg.i (by decide)) rfl (hg.r (by decide) rfl) ?_
  refine pm_iload_n d_D_partIfNotPossible_4 rfl ?_
  refine pm_iaload' p (nI (dm p)) d_D_partIfNotPossible_5 (hg.s rfl) (hg.i (by decide)) rfl hp (by decide) (hD p hp) ?_
  refine pm_iload_n d_D_partIfNotPossible_6 rfl ?_
  refine pm_icmp_neN 27 d_D_partIfNotPossible_7 rfl (by omega) (by omega) (fun c7 => ?_) (fun c7 => ?_)
  · exact pm_return d_D_partIfNotPossible_27 rfl (fun _ => rfl) (Nat.le_refl _) (Nat.le_refl _) ⟨⟨rfl, by rw [if_neg (fun z => c7 z.1)]; exact hD, fun _ _ _ => rfl⟩, rfl⟩
  · refine pm_aload_n d_D_partIfNotPossible_10 rfl ?_
    refine pm_getr d_D_partIfNotPossible_11 hf_D_15 (hg.s rfl) (hg.i (by decide)) rfl (hg.r (by decide) rfl) ?_
    refine pm_iload_n d_D_partIfNotPossible_14 rfl ?_
    refine pm_iload_n d_D_partIfNotPossible_15 rfl ?_
    refine pm_callR (i := 1) (ci := 1) (rest := []) [pm_I (nI p), pm_I (nI q)] hB d_D_partIfNotPossible_16 hc_D_23 (k_W_arePossible hg hw hS hp hq) (hg.s rfl) (hg.i (by decide)) rfl rfl rfl rfl (Nat.le_of_ble_eq_true rfl) (Nat.le_of_ble_eq_true rfl) (by omega) (by omega) ?_
    refine pm_if_neB 27 d_D_partIfNotPossible_19 rfl (fun c19 => ?_) (fun c19 => ?_)
    · exact pm_return d_D_partIfNotPossible_27 rfl (fun _ => rfl) (Nat.le_refl _) (Nat.le_refl _) ⟨⟨rfl, by rw [if_neg (fun z => z.2 (of_decide_eq_true c19))]; exact hD, fun _ _ _ => rfl⟩, rfl⟩
    · refine pm_aload_n d_D_partIfNotPossible_22 rfl ?_
      refine pm_iload_n d_D_partIfNotPossible_23 rfl ?_
      refine pm_callWp (i := 30) (ci := 2) (rest := []) [pm_I (nI p)] hB d_D_partIfNotPossible_24 hc_D_19 (k_D_makeSingle hg hD hm hp) (hg.s rfl) (hg.i (by decide)) rfl rfl rfl rfl (Nat.le_of_ble_eq_true rfl) (Nat.le_of_ble_eq_true rfl) (by omega) (by omega) (fun v24 σ₁ hv24 hq24 => ?_)
      obtain ⟨rfl, hD1, hf1⟩ := hq24
      show pm_Y b _ km_D_partIfNotPossible 27 true [some (pm_R 30), some (pm_I (nI p)), some (pm_I (nI q))] [] g σ₁ τ 0 0 0 0 _
      exact pm_return d_D_partIfNotPossible_27 rfl (fun _ => rfl) (Nat.le_refl _) (Nat.le_refl _) ⟨⟨rfl, by rw [if_pos ⟨c7, of_decide_eq_false c19⟩]; exact hD1, hf1⟩, rfl⟩
theorem cb_in_t {f : Nat → Nat → Bool} {l k : Nat} (h : f l (l + 1 + k) = true) : cb_in f l (k + 1) = cb_in f l k + 1 := by
  show ex_sum _ k + (if f l (l + 1 + k) = true then 1 else 0) = _
  rw [if_pos h]
  rfl
theorem cb_in_f {f : Nat → Nat → Bool} {l k : Nat} (h : f l (l + 1 + k) = false) : cb_in f l (k + 1) = cb_in f l k := by
  show ex_sum _ k + (if f l (l + 1 + k) = true then 1 else 0) = _
  rw [if_neg (by rw [h]; decide)]
  rfl
theorem l_D_countBlocking_19 (hg : pm_gok 48 g) (hB : pm_base b) (hw : rh_wf n L) (h4 : σ 1 4 = nI n) (hS : ci_S L σ) (hD : ci_D dm σ) (hm : ∀ p, p < 8 → dm p < 8) {c l : Nat} (hl : l < n) {E : pE} (K : pm_Y b (d + 1) km_D_countBlocking 55 false [some (pm_R 30), some (pm_I (nI (c + cb_in (fun l h => wb_ L l h (dm l) (dm h)) l (n - (l + 1))))), some (pm_I (nI l)), some (pm_I (nI n))] [] g σ τ 0 0 0 0 E) : pm_Y b (d + 1) km_D_countBlocking 19 false [some (pm_R 30), some (pm_I (nI c)), some (pm_I (nI l)), some (pm_I (nI (l + 1)))] [] g σ τ 0 0 0 0 E := by
  have h8 := hw.1
  refine pm_for (n - (l + 1)) (fun k (_ : Unit) => pm_Y b (d + 1) km_D_countBlocking 19 false [some (pm_R 30), some (pm_I (nI (c + cb_in (fun l h => wb_ L l h (dm l) (dm h)) l k))), some (pm_I (nI l)), some (pm_I (nI (l + 1 + k)))] [] g σ τ 0 0 0 0 E) (fun _ _ => True) (fun k _ hk _ ih => ?_) (fun _ _ => ?_) (n - (l + 1)) 0 () (by omega) trivial
  · skip
    refine pm_iload_n d_D_countBlocking_19 rfl ?_
    refine pm_aload_n d_D_countBlocking_20 rfl ?_
    refine pm_getr d_D_countBlocking_21 hf_D_15 (hg.s rfl) (hg.i (by decide)) rfl (hg.r (by decide) rfl) ?_
    refine pm_callR (i := 1) (ci := 1) (rest := [pm_I (nI (l + 1 + k))]) [] hB d_D_countBlocking_24 hc_D_29 (k_W_count hg h4) (hg.s rfl) (hg.i (by decide)) rfl rfl rfl rfl (Nat.le_of_ble_eq_true rfl) (Nat.le_of_ble_eq_true rfl) (by omega) (by omega) ?_
    refine pm_icmp_ge_f 55 d_D_countBlocking_27 rfl (by rw [nI_leI (by omega) (by omega)]; omega) ?_
    refine pm_aload_n d_D_countBlocking_30 rfl ?_
    refine pm_getr d_D_countBlocking_31 hf_D_15 (hg.s rfl) (hg.i (by decide)) rfl (hg.r (by decide) rfl) ?_
    refine pm_iload_n d_D_countBlocking_34 rfl ?_
    refine pm_iload_n d_D_countBlocking_35 rfl ?_
    refine pm_aload_n d_D_countBlocking_36 rfl ?_
    refine pm_getr d_D_countBlocking_37 hf_D_9 (hg.s rfl) (hg.i (by decide)) rfl (hg.r (by decide) rfl) ?_
    refine pm_callR (i := 1) (ci := 1) (rest := []) [pm_I (nI l), pm_I (nI (l + 1 + k)), pm_R 31] hB d_D_countBlocking_40 hc_D_33 (k_W_wouldBlock hg hw hS (by omega) (by omega) rfl (hg.i (by decide)) (hD l (by omega)) (hD (l + 1 + k) (by omega)) (hm l (by omega)) (hm (l + 1 + k) (by omega))) (hg.s rfl) (hg.i (by decide)) rfl rfl rfl rfl (Nat.le_of_ble_eq_true rfl) (Nat.le_of_ble_eq_true rfl) (by omega) (by omega) ?_
    refine pm_if_eqB 49 d_D_countBlocking_43 rfl (fun c43 => ?_) (fun c43 => ?_)
    · refine pm_iinc' (nI ((l + 1 + k) + 1)) d_D_countBlocking_49 (by decide) rfl (pm_inc _) ?_
      refine pm_goto 19 d_D_countBlocking_52 rfl ?_
      -- at 19: lo=[some (pm_R 30), some (pm_I (nI (c + cb_in (fun l h => wb_ L l h (dm l) (dm h)) l k))), some (pm_I (nI l)), some (pm_I (nI ((l + 1 + k) + 1)))] st=[]
      show pm_Y b (d + 1) km_D_countBlocking 19 false [some (pm_R 30), some (pm_I (nI (c + cb_in (fun l h => wb_ L l h (dm l) (dm h)) l k))), some (pm_I (nI l)), some (pm_I (nI ((l + 1 + k) + 1)))] [] g σ τ 0 0 0 0 E
      rw [show l + 1 + k + 1 = l + 1 + (k + 1) by omega, ← cb_in_f (f := (fun l h => wb_ L l h (dm l) (dm h))) c43]
      exact ih () trivial
    · refine pm_iinc' (nI ((c + cb_in (fun l h => wb_ L l h (dm l) (dm h)) l k) + 1)) d_D_countBlocking_46 (by decide) rfl (pm_inc _) ?_
      refine pm_iinc' (nI ((l + 1 + k) + 1)) d_D_countBlocking_49 (by decide) rfl (pm_inc _) ?_
      refine pm_goto 19 d_D_countBlocking_52 rfl ?_
      -- at 19: lo=[some (pm_R 30), some (pm_I (nI ((c + cb_in (fun l h => wb_ L l h (dm l) (dm h)) l k) + 1))), some (pm_I (nI l)), some (pm_I (nI ((l + 1 + k) + 1)))] st=[]
      show pm_Y b (d + 1) km_D_countBlocking 19 false [some (pm_R 30), some (pm_I (nI ((c + cb_in (fun l h => wb_ L l h (dm l) (dm h)) l k) + 1))), some (pm_I (nI l)), some (pm_I (nI ((l + 1 + k) + 1)))] [] g σ τ 0 0 0 0 E
      rw [show l + 1 + k + 1 = l + 1 + (k + 1) by omega, Nat.add_assoc, ← cb_in_t (f := (fun l h => wb_ L l h (dm l) (dm h))) c43]
      exact ih () trivial
  · rw [show l + 1 + (n - (l + 1)) = n by omega]
    refine pm_iload_n d_D_countBlocking_19 rfl ?_
    refine pm_aload_n d_D_countBlocking_20 rfl ?_
    refine pm_getr d_D_countBlocking_21 hf_D_15 (hg.s rfl) (hg.i (by decide)) rfl (hg.r (by decide) rfl) ?_
    refine pm_callR (i := 1) (ci := 1) (rest := [pm_I (nI n)]) [] hB d_D_countBlocking_24 hc_D_29 (k_W_count hg h4) (hg.s rfl) (hg.i (by decide)) rfl rfl rfl rfl (Nat.le_of_ble_eq_true rfl) (Nat.le_of_ble_eq_true rfl) (by omega) (by omega) ?_
    refine pm_icmp_ge_t 55 d_D_countBlocking_27 rfl (by rw [nI_leI (by omega) (by omega)]; omega) ?_
    exact K
theorem k_D_countBlocking (hg : pm_gok 48 g) (hB : pm_base b) (hw : rh_wf n L) (h4 : σ 1 4 = nI n) (hS : ci_S L σ) (hD : ci_D dm σ) (hm : ∀ p, p < 8 → dm p < 8) : pm_C b (d + 1) km_D_countBlocking [pm_R 30] g σ τ 0 0 (pm_Rd (nI (cb_ (fun l h => wb_ L l h (dm l) (dm h)) n n)) σ τ) := by
  have h8 := hw.1
  show pm_Y b (d + 1) km_D_countBlocking 0 false [some (pm_R 30), none, none, none] [] g σ τ 0 0 0 0 _
  refine pm_iconst' (nI 0) d_D_countBlocking_0 (by decide) ?_
  refine pm_istore_n d_D_countBlocking_1 (by decide) ?_
  refine pm_iconst' (nI 0) d_D_countBlocking_2 (by decide) ?_
  refine pm_istore_n d_D_countBlocking_3 (by decide) ?_
  refine pm_for n (fun l (_ : Unit) => ∀ l3 : Option pV, pm_Y b (d + 1) km_D_countBlocking 4 false [some (pm_R 30), some (pm_I (nI (cb_ (fun l h => wb_ L l h (dm l) (dm h)) n l))), some (pm_I (nI l)), l3] [] g σ τ 0 0 0 0 (pm_Rd (nI (cb_ (fun l h => wb_ L l h (dm l) (dm h)) n n)) σ τ)) (fun _ _ => True) (fun l _ hl _ ih l3 => ?_) (fun _ _ l3 => ?_) n 0 () (by omega) trivial none
  · skip
    refine pm_iload_n d_D_countBlocking_4 rfl ?_
    refine pm_aload_n d_D_countBlocking_5 rfl ?_
    refine pm_getr d_D_countBlocking_6 hf_D_15 (hg.s rfl) (hg.i (by decide)) rfl (hg.r (by decide) rfl) ?_
    refine pm_callR (i := 1) (ci := 1) (rest := [pm_I (nI l)]) [] hB d_D_countBlocking_9 hc_D_29 (k_W_count hg h4) (hg.s rfl) (hg.i (by decide)) rfl rfl rfl rfl (Nat.le_of_ble_eq_true rfl) (Nat.le_of_ble_eq_true rfl) (by omega) (by omega) ?_
    refine pm_icmp_ge_f 61 d_D_countBlocking_12 rfl (by rw [nI_leI (by omega) (by omega)]; omega) ?_
    refine pm_iload_n d_D_countBlocking_15 rfl ?_
    refine pm_iconst' (nI 1) d_D_countBlocking_16 (by decide) ?_
    refine pm_iaddN d_D_countBlocking_17 ?_
    refine pm_istore_n d_D_countBlocking_18 (by decide) ?_
    refine l_D_countBlocking_19 hg hB hw h4 hS hD hm hl ?_
    refine pm_iinc' (nI (l + 1)) d_D_countBlocking_55 (by decide) rfl (pm_inc _) ?_
    refine pm_goto 4 d_D_countBlocking_58 rfl ?_
    exact ih () trivial _
  · skip
    refine pm_iload_n d_D_countBlocking_4 rfl ?_
    refine pm_aload_n d_D_countBlocking_5 rfl ?_
    refine pm_getr d_D_countBlocking_6 hf_D_15 (hg.s rfl) (hg.i (by decide)) rfl (hg.r (by decide) rfl) ?_
    refine pm_callR (i := 1) (ci := 1) (rest := [pm_I (nI n)]) [] hB d_D_countBlocking_9 hc_D_29 (k_W_count hg h4) (hg.s rfl) (hg.i (by decide)) rfl rfl rfl rfl (Nat.le_of_ble_eq_true rfl) (Nat.le_of_ble_eq_true rfl) (by omega) (by omega) ?_
    refine pm_icmp_ge_t 61 d_D_countBlocking_12 rfl (by rw [nI_leI (by omega) (by omega)]; omega) ?_
    refine pm_iload_n d_D_countBlocking_61 rfl ?_
    exact pm_ireturn d_D_countBlocking_62 rfl (fun h => h) (Nat.le_refl _) (Nat.le_refl _) ⟨rfl, rfl, rfl⟩
end D1
