/-! the other side: what is asked, the rest -/
theorem ff_one {f : Nat → Nat} {l : List Nat} {x : Nat} : ff_ f (l ++ [x]) = match ff_ f l with
    | some q => some q
    | none => if 0 < f x then some x else none := by
  unfold ff_
  rw [List.find?_append]
  cases List.find? (fun q => decide (0 < f q)) l with
  | some q => rfl
  | none =>
    by_cases e : 0 < f x
    · rw [if_pos e, List.find?_cons_of_pos (by rw [decide_eq_true_eq]; exact e)]; rfl
    · rw [if_neg e, List.find?_cons_of_neg (by rw [decide_eq_true_eq]; exact e)]; rfl
theorem ff_rev {f : Nat → Nat} {l : List Nat} {x : Nat} : ff_ f (l ++ [x]).reverse = if 0 < f x then some x else ff_ f l.reverse := by
  rw [List.reverse_append]
  show ff_ f (x :: l.reverse) = _
  unfold ff_
  by_cases e : 0 < f x
  · rw [if_pos e, List.find?_cons_of_pos (by rw [decide_eq_true_eq]; exact e)]
  · rw [if_neg e, List.find?_cons_of_neg (by rw [decide_eq_true_eq]; exact e)]
theorem cho_take {L : Nat → List Nat} {p c : Nat} (h : c ≤ (L p).length) : (L p ++ [p]).take (c + 1) = (L p ++ [p]).take c ++ [gw_cho L p c] := by
  have h1 := gw_cho_get (L := L) (p := p) (c := c) h
  rw [List.take_add_one, h1]
  rfl
noncomputable def eb_ (fl : Bool) (f : Nat → Nat) (l : List Nat) : Option Nat := if fl = true then ff_ f l.reverse else ff_ f l
/-- within a list, as far as t -/
def rt_ (l : List Nat) (i t k : Nat) : Nat := if i ≤ k ∧ k < t then l.getD (k + 1) 0 else l.getD k 0
def dn_ (l : List Nat) (i t k : Nat) : Nat := if t < k ∧ k ≤ i then l.getD (k - 1) 0 else l.getD k 0
def rw_ (p : Nat) (f : Nat → Nat) (len : Nat) (σ₀ σ : pI) : Prop := (∀ k, k < len → σ 50 (8 * p + k) = nI (f k)) ∧ ∀ c x, ¬ (c = 50 ∧ 8 * p ≤ x ∧ x < 8 * p + 8) → σ c x = σ₀ c x
theorem rw_up {p len t v : Nat} {f f' : Nat → Nat} {σ₀ σ : pI} (h : rw_ p f len σ₀ σ) (ht : t < 8) (hv : f' t = v) (hf : ∀ k, k < len → k ≠ t → f' k = f k) : rw_ p f' len σ₀ (pm_up σ 50 (8 * p + t) (nI v)) := by
  refine ⟨fun k hk => ?_, fun c x hc => by rw [pm_up_ne (by omega)]; exact h.2 c x hc⟩
  by_cases e : k = t
  · rw [e, pm_up_at, hv]
  · rw [pm_up_ne (by omega), h.1 k hk, hf k hk e]
theorem m1_N {k : Nat} (h : 1 ≤ k) : nI k + (-1) = nI (k - 1) := pm_dec h
section MB
variable {b : pB} {g : pG} {σ : pI} {τ : pJ} {d n p q i j m : Nat} {x y z v₀ : Int32} {L : Nat → List Nat} {dm : Nat → Nat}
theorem k_M_matchings (hg : pm_gok 61 g) (hB : pm_base b) (hw : rh_wf n L) (hm : md_ n L dm) (hI : RI_ n L dm σ) : pm_C b (d + 10) km_M_matchings [pm_R 48] g σ τ 0 0 (pm_Wp (fun v σ' => an_ 0 (nI (SA_ n L).1) v ∧ σ' 48 0 = nI 0 ∧ RI_ n L dm σ' ∧ kfr_ σ σ') τ) := by
  have h8 := hw.1
  have h1 := hI.1.1
  show pm_Y b (d + 9 + 1) km_M_matchings 0 false [some (pm_R 48)] [] g σ τ 0 0 0 0 _
  refine pm_aload_n d_M_matchings_0 rfl ?_
  refine pm_iconst' (nI 0) d_M_matchings_1 (by decide) ?_
  refine pm_puti d_M_matchings_2 hp_M_43 (hg.s rfl) (hg.i (by decide)) rfl ?_
  refine pm_aload_n d_M_matchings_5 rfl ?_
  refine pm_callWp (i := 48) (ci := 5) (rest := []) [] hB d_M_matchings_6 hc_M_137 (pm_C_up (show 0 + 7 ≤ d + 9 by omega) (k_M_learn hg hB hw (RI_code hI (nI 0)).1 (RI_code hI (nI 0)).2.2)) (hg.s rfl) (hg.i (by decide)) rfl rfl rfl rfl (Nat.le_of_ble_eq_true rfl) (Nat.le_of_ble_eq_true rfl) (by omega) (by omega) (fun v6 σ₁ hv6 hq6 => ?_)
  obtain ⟨rfl, l1, l2, l3⟩ := hq6
  show pm_Y b _ km_M_matchings 9 true [some (pm_R 48)] [] g σ₁ τ 0 0 0 0 _
  refine pm_aload_n d_M_matchings_9 rfl ?_
  refine pm_geti' (nI ((SA_ n L).1)) d_M_matchings_10 hf_M_124 (hg.s rfl) (hg.i (by decide)) rfl l1.1.1 ?_
  exact pm_ireturn d_M_matchings_13 rfl (fun _ => rfl) (Nat.le_refl _) (Nat.le_refl _) ⟨⟨an_ok, by rw [l3 48 0 (by omega), pm_up_at], RI_learn (RI_code hI (nI 0)) l1 l2 l3, kfr_learn l3⟩, rfl⟩
theorem k_M_together (hg : pm_gok 61 g) (hB : pm_base b) (hw : rh_wf n L) (hm : md_ n L dm) (hI : RI_ n L dm σ) (hp : p < n) (hq : q < n) : pm_C b (d + 10) km_M_together [pm_R 48, pm_I (nI p), pm_I (nI q)] g σ τ 0 0 (pm_Wp (fun v σ' => an_ 0 (nI ((SA_ n L).2.1 p q)) v ∧ σ' 48 0 = nI 0 ∧ RI_ n L dm σ' ∧ kfr_ σ σ') τ) := by
  have h8 := hw.1
  have h1 := hI.1.1
  show pm_Y b (d + 9 + 1) km_M_together 0 false [some (pm_R 48), some (pm_I (nI p)), some (pm_I (nI q))] [] g σ τ 0 0 0 0 _
  refine pm_aload_n d_M_together_0 rfl ?_
  refine pm_aload_n d_M_together_1 rfl ?_
  refine pm_iload_n d_M_together_2 rfl ?_
  refine pm_callR (i := 48) (ci := 5) (rest := [pm_R 48]) [pm_I (nI p)] hB d_M_together_3 hc_M_62 (y_M_isPerson hg hB h8 h1 hp) (hg.s rfl) (hg.i (by decide)) rfl rfl rfl rfl (Nat.le_of_ble_eq_true rfl) (Nat.le_of_ble_eq_true rfl) (by omega) (by omega) ?_
  refine pm_if_eq_f 21 d_M_together_6 rfl (by decide) ?_
  refine pm_aload_n d_M_together_9 rfl ?_
  refine pm_iload_n d_M_together_10 rfl ?_
  refine pm_callR (i := 48) (ci := 5) (rest := [pm_R 48]) [pm_I (nI q)] hB d_M_together_11 hc_M_62 (y_M_isPerson hg hB h8 h1 hq) (hg.s rfl) (hg.i (by decide)) rfl rfl rfl rfl (Nat.le_of_ble_eq_true rfl) (Nat.le_of_ble_eq_true rfl) (by omega) (by omega) ?_
  refine pm_if_eq_f 21 d_M_together_14 rfl (by decide) ?_
  refine pm_iconst' (nI 0) d_M_together_17 (by decide) ?_
  refine pm_goto 22 d_M_together_18 rfl ?_
  refine pm_puti d_M_together_22 hp_M_43 (hg.s rfl) (hg.i (by decide)) rfl ?_
  refine pm_aload_n d_M_together_25 rfl ?_
  refine pm_geti' (nI 0) d_M_together_26 hf_M_43 (hg.s rfl) (hg.i (by decide)) rfl pm_up_at ?_
  refine pm_if_le_t 34 d_M_together_29 rfl (by decide) ?_
  refine pm_aload_n d_M_together_34 rfl ?_
  refine pm_callWp (i := 48) (ci := 5) (rest := []) [] hB d_M_together_35 hc_M_137 (pm_C_up (show 0 + 7 ≤ d + 9 by omega) (k_M_learn hg hB hw (RI_code hI (nI 0)).1 (RI_code hI (nI 0)).2.2)) (hg.s rfl) (hg.i (by decide)) rfl rfl rfl rfl (Nat.le_of_ble_eq_true rfl) (Nat.le_of_ble_eq_true rfl) (by omega) (by omega) (fun v35 σ₁ hv35 hq35 => ?_)
  obtain ⟨rfl, l1, l2, l3⟩ := hq35
  show pm_Y b _ km_M_together 38 true [some (pm_R 48), some (pm_I (nI p)), some (pm_I (nI q))] [] g σ₁ τ 0 0 0 0 _
  refine pm_aload_n d_M_together_38 rfl ?_
  refine pm_getr d_M_together_39 hf_M_19 (hg.s rfl) (hg.i (by decide)) rfl (hg.r (by decide) rfl) ?_
  refine pm_bipush' (nI 8) d_M_together_42 (by decide) ?_
  refine pm_iload_n d_M_together_44 rfl ?_
  refine pm_imulN d_M_together_45 ?_
  refine pm_iload_n d_M_together_46 rfl ?_
  refine pm_iaddN d_M_together_47 ?_
  refine pm_iaload' ((8 * p) + q) (nI ((SA_ n L).2.1 p q)) d_M_together_48 (hg.s rfl) (hg.i (by decide)) rfl (by omega) (by decide) (l1.1.2.1 p q hp hq) ?_
  exact pm_ireturn d_M_together_49 rfl (fun _ => rfl) (Nat.le_refl _) (Nat.le_refl _) ⟨⟨an_ok, by rw [l3 48 0 (by omega), pm_up_at], RI_learn (RI_code hI (nI 0)) l1 l2 l3, kfr_learn l3⟩, rfl⟩
theorem k_M_party (hg : pm_gok 61 g) (hB : pm_base b) (hw : rh_wf n L) (hm : md_ n L dm) (hI : RI_ n L dm σ) (hp : p < n) : pm_C b (d + 10) km_M_party [pm_R 48, pm_I (nI p)] g σ τ 0 0 (pm_Wp (fun v σ' => an_ 0 (nI (od_ n L p)) v ∧ σ' 48 0 = nI 0 ∧ RI_ n L dm σ' ∧ kfr_ σ σ') τ) := by
  have h8 := hw.1
  have h1 := hI.1.1
  show pm_Y b (d + 9 + 1) km_M_party 0 false [some (pm_R 48), some (pm_I (nI p))] [] g σ τ 0 0 0 0 _
  refine pm_aload_n d_M_party_0 rfl ?_
  refine pm_aload_n d_M_party_1 rfl ?_
  refine pm_iload_n d_M_party_2 rfl ?_
  refine pm_callR (i := 48) (ci := 5) (rest := [pm_R 48]) [pm_I (nI p)] hB d_M_party_3 hc_M_62 (y_M_isPerson hg hB h8 h1 hp) (hg.s rfl) (hg.i (by decide)) rfl rfl rfl rfl (Nat.le_of_ble_eq_true rfl) (Nat.le_of_ble_eq_true rfl) (by omega) (by omega) ?_
  refine pm_if_eq_f 13 d_M_party_6 rfl (by decide) ?_
  refine pm_iconst' (nI 0) d_M_party_9 (by decide) ?_
  refine pm_goto 14 d_M_party_10 rfl ?_
  refine pm_puti d_M_party_14 hp_M_43 (hg.s rfl) (hg.i (by decide)) rfl ?_
  refine pm_aload_n d_M_party_17 rfl ?_
  refine pm_geti' (nI 0) d_M_party_18 hf_M_43 (hg.s rfl) (hg.i (by decide)) rfl pm_up_at ?_
  refine pm_if_le_t 26 d_M_party_21 rfl (by decide) ?_
  refine pm_aload_n d_M_party_26 rfl ?_
  refine pm_callWp (i := 48) (ci := 5) (rest := []) [] hB d_M_party_27 hc_M_137 (pm_C_up (show 0 + 7 ≤ d + 9 by omega) (k_M_learn hg hB hw (RI_code hI (nI 0)).1 (RI_code hI (nI 0)).2.2)) (hg.s rfl) (hg.i (by decide)) rfl rfl rfl rfl (Nat.le_of_ble_eq_true rfl) (Nat.le_of_ble_eq_true rfl) (by omega) (by omega) (fun v27 σ₁ hv27 hq27 => ?_)
  obtain ⟨rfl, l1, l2, l3⟩ := hq27
  show pm_Y b _ km_M_party 30 true [some (pm_R 48), some (pm_I (nI p))] [] g σ₁ τ 0 0 0 0 _
  refine pm_aload_n d_M_party_30 rfl ?_
  refine pm_getr d_M_party_31 hf_M_28 (hg.s rfl) (hg.i (by decide)) rfl (hg.r (by decide) rfl) ?_
  refine pm_iload_n d_M_party_34 rfl ?_
  refine pm_iaload' p (nI (od_ n L p)) d_M_party_35 (hg.s rfl) (hg.i (by decide)) rfl (by omega) (by decide) (l1.2.1 p hp) ?_
  exact pm_ireturn d_M_party_36 rfl (fun _ => rfl) (Nat.le_refl _) (Nat.le_refl _) ⟨⟨an_ok, by rw [l3 48 0 (by omega), pm_up_at], RI_learn (RI_code hI (nI 0)) l1 l2 l3, kfr_learn l3⟩, rfl⟩
theorem k_M_next (hg : pm_gok 61 g) (hB : pm_base b) (hw : rh_wf n L) (hm : md_ n L dm) (hI : RI_ n L dm σ) (hp : p < n) : pm_C b (d + 10) km_M_next [pm_R 48, pm_I (nI p)] g σ τ 0 0 (pm_Wp (fun v σ' => an_ 0 (if od_ n L p = 0 then -1 else nI (F_ n L p)) v ∧ σ' 48 0 = nI 0 ∧ RI_ n L dm σ' ∧ kfr_ σ σ') τ) := by
  have h8 := hw.1
  have h1 := hI.1.1
  show pm_Y b (d + 9 + 1) km_M_next 0 false [some (pm_R 48), some (pm_I (nI p))] [] g σ τ 0 0 0 0 _
  refine pm_aload_n d_M_next_0 rfl ?_
  refine pm_aload_n d_M_next_1 rfl ?_
  refine pm_iload_n d_M_next_2 rfl ?_
  refine pm_callR (i := 48) (ci := 5) (rest := [pm_R 48]) [pm_I (nI p)] hB d_M_next_3 hc_M_62 (y_M_isPerson hg hB h8 h1 hp) (hg.s rfl) (hg.i (by decide)) rfl rfl rfl rfl (Nat.le_of_ble_eq_true rfl) (Nat.le_of_ble_eq_true rfl) (by omega) (by omega) ?_
  refine pm_if_eq_f 13 d_M_next_6 rfl (by decide) ?_
  refine pm_iconst' (nI 0) d_M_next_9 (by decide) ?_
  refine pm_goto 14 d_M_next_10 rfl ?_
  refine pm_puti d_M_next_14 hp_M_43 (hg.s rfl) (hg.i (by decide)) rfl ?_
  refine pm_aload_n d_M_next_17 rfl ?_
  refine pm_geti' (nI 0) d_M_next_18 hf_M_43 (hg.s rfl) (hg.i (by decide)) rfl pm_up_at ?_
  refine pm_if_le_t 26 d_M_next_21 rfl (by decide) ?_
  refine pm_aload_n d_M_next_26 rfl ?_
  refine pm_callWp (i := 48) (ci := 5) (rest := []) [] hB d_M_next_27 hc_M_137 (pm_C_up (show 0 + 7 ≤ d + 9 by omega) (k_M_learn hg hB hw (RI_code hI (nI 0)).1 (RI_code hI (nI 0)).2.2)) (hg.s rfl) (hg.i (by decide)) rfl rfl rfl rfl (Nat.le_of_ble_eq_true rfl) (Nat.le_of_ble_eq_true rfl) (by omega) (by omega) (fun v27 σ₁ hv27 hq27 => ?_)
  obtain ⟨rfl, l1, l2, l3⟩ := hq27
  show pm_Y b _ km_M_next 30 true [some (pm_R 48), some (pm_I (nI p))] [] g σ₁ τ 0 0 0 0 _
  refine pm_aload_n d_M_next_30 rfl ?_
  refine pm_getr d_M_next_31 hf_M_25 (hg.s rfl) (hg.i (by decide)) rfl (hg.r (by decide) rfl) ?_
  refine pm_iload_n d_M_next_34 rfl ?_
  refine pm_iaload' p (if od_ n L p = 0 then -1 else nI (F_ n L p)) d_M_next_35 (hg.s rfl) (hg.i (by decide)) rfl (by omega) (by decide) (l1.2.2.1 p hp) ?_
  exact pm_ireturn d_M_next_36 rfl (fun _ => rfl) (Nat.le_refl _) (Nat.le_refl _) ⟨⟨an_ok, by rw [l3 48 0 (by omega), pm_up_at], RI_learn (RI_code hI (nI 0)) l1 l2 l3, kfr_learn l3⟩, rfl⟩
theorem k_M_matched (hg : pm_gok 61 g) (hB : pm_base b) (hw : rh_wf n L) (hm : md_ n L dm) (hI : RI_ n L dm σ) (hp : p < n) : pm_C b (d + 10) km_M_matched [pm_R 48, pm_I (nI p)] g σ τ 0 0 (pm_Wp (fun v σ' => an_ 0 (if (SA_ n L).1 = 0 then -1 else nI ((SA_ n L).2.2 p)) v ∧ σ' 48 0 = nI 0 ∧ RI_ n L dm σ' ∧ kfr_ σ σ') τ) := by
  have h8 := hw.1
  have h1 := hI.1.1
  have h9 := SA_le hw
  show pm_Y b (d + 9 + 1) km_M_matched 0 false [some (pm_R 48), some (pm_I (nI p))] [] g σ τ 0 0 0 0 _
  by_cases e : (SA_ n L).1 = 0
  · rw [if_pos e]
    refine pm_aload_n d_M_matched_0 rfl ?_
    refine pm_aload_n d_M_matched_1 rfl ?_
    refine pm_iload_n d_M_matched_2 rfl ?_
    refine pm_callR (i := 48) (ci := 5) (rest := [pm_R 48]) [pm_I (nI p)] hB d_M_matched_3 hc_M_62 (y_M_isPerson hg hB h8 h1 hp) (hg.s rfl) (hg.i (by decide)) rfl rfl rfl rfl (Nat.le_of_ble_eq_true rfl) (Nat.le_of_ble_eq_true rfl) (by omega) (by omega) ?_
    refine pm_if_eq_f 13 d_M_matched_6 rfl (by decide) ?_
    refine pm_iconst' (nI 0) d_M_matched_9 (by decide) ?_
    refine pm_goto 14 d_M_matched_10 rfl ?_
    refine pm_puti d_M_matched_14 hp_M_43 (hg.s rfl) (hg.i (by decide)) rfl ?_
    refine pm_aload_n d_M_matched_17 rfl ?_
    refine pm_geti' (nI 0) d_M_matched_18 hf_M_43 (hg.s rfl) (hg.i (by decide)) rfl pm_up_at ?_
    refine pm_if_le_t 26 d_M_matched_21 rfl (by decide) ?_
    refine pm_aload_n d_M_matched_26 rfl ?_
    refine pm_callWp (i := 48) (ci := 5) (rest := []) [] hB d_M_matched_27 hc_M_137 (pm_C_up (show 0 + 7 ≤ d + 9 by omega) (k_M_learn hg hB hw (RI_code hI (nI 0)).1 (RI_code hI (nI 0)).2.2)) (hg.s rfl) (hg.i (by decide)) rfl rfl rfl rfl (Nat.le_of_ble_eq_true rfl) (Nat.le_of_ble_eq_true rfl) (by omega) (by omega) (fun v27 σ₁ hv27 hq27 => ?_)
    obtain ⟨rfl, l1, l2, l3⟩ := hq27
    show pm_Y b _ km_M_matched 30 true [some (pm_R 48), some (pm_I (nI p))] [] g σ₁ τ 0 0 0 0 _
    refine pm_aload_n d_M_matched_30 rfl ?_
    refine pm_geti' (nI ((SA_ n L).1)) d_M_matched_31 hf_M_124 (hg.s rfl) (hg.i (by decide)) rfl l1.1.1 ?_
    refine pm_if_ne_f 41 d_M_matched_34 rfl (by rw [e]; rfl) ?_
    refine pm_iconst' (-1) d_M_matched_37 (by decide) ?_
    refine pm_goto 47 d_M_matched_38 rfl ?_
    exact pm_ireturn d_M_matched_47 rfl (fun _ => rfl) (Nat.le_refl _) (Nat.le_refl _) ⟨⟨an_ok, by rw [l3 48 0 (by omega), pm_up_at], RI_learn (RI_code hI (nI 0)) l1 l2 l3, kfr_learn l3⟩, rfl⟩
  · rw [if_neg e]
    refine pm_aload_n d_M_matched_0 rfl ?_
    refine pm_aload_n d_M_matched_1 rfl ?_
    refine pm_iload_n d_M_matched_2 rfl ?_
    refine pm_callR (i := 48) (ci := 5) (rest := [pm_R 48]) [pm_I (nI p)] hB d_M_matched_3 hc_M_62 (y_M_isPerson hg hB h8 h1 hp) (hg.s rfl) (hg.i (by decide)) rfl rfl rfl rfl (Nat.le_of_ble_eq_true rfl) (Nat.le_of_ble_eq_true rfl) (by omega) (by omega) ?_
    refine pm_if_eq_f 13 d_M_matched_6 rfl (by decide) ?_
    refine pm_iconst' (nI 0) d_M_matched_9 (by decide) ?_
    refine pm_goto 14 d_M_matched_10 rfl ?_
    refine pm_puti d_M_matched_14 hp_M_43 (hg.s rfl) (hg.i (by decide)) rfl ?_
    refine pm_aload_n d_M_matched_17 rfl ?_
    refine pm_geti' (nI 0) d_M_matched_18 hf_M_43 (hg.s rfl) (hg.i (by decide)) rfl pm_up_at ?_
    refine pm_if_le_t 26 d_M_matched_21 rfl (by decide) ?_
    refine pm_aload_n d_M_matched_26 rfl ?_
    refine pm_callWp (i := 48) (ci := 5) (rest := []) [] hB d_M_matched_27 hc_M_137 (pm_C_up (show 0 + 7 ≤ d + 9 by omega) (k_M_learn hg hB hw (RI_code hI (nI 0)).1 (RI_code hI (nI 0)).2.2)) (hg.s rfl) (hg.i (by decide)) rfl rfl rfl rfl (Nat.le_of_ble_eq_true rfl) (Nat.le_of_ble_eq_true rfl) (by omega) (by omega) (fun v27 σ₁ hv27 hq27 => ?_)
    obtain ⟨rfl, l1, l2, l3⟩ := hq27
    show pm_Y b _ km_M_matched 30 true [some (pm_R 48), some (pm_I (nI p))] [] g σ₁ τ 0 0 0 0 _
    refine pm_aload_n d_M_matched_30 rfl ?_
    refine pm_geti' (nI ((SA_ n L).1)) d_M_matched_31 hf_M_124 (hg.s rfl) (hg.i (by decide)) rfl l1.1.1 ?_
    refine pm_if_ne_t 41 d_M_matched_34 rfl (nI_ne0 (by omega) (by omega)) ?_
    refine pm_aload_n d_M_matched_41 rfl ?_
    refine pm_getr d_M_matched_42 hf_M_22 (hg.s rfl) (hg.i (by decide)) rfl (hg.r (by decide) rfl) ?_
    refine pm_iload_n d_M_matched_45 rfl ?_
    refine pm_iaload' p (nI ((SA_ n L).2.2 p)) d_M_matched_46 (hg.s rfl) (hg.i (by decide)) rfl (by omega) (by decide) (l1.1.2.2 (by omega) p hp) ?_
    exact pm_ireturn d_M_matched_47 rfl (fun _ => rfl) (Nat.le_refl _) (Nat.le_refl _) ⟨⟨an_ok, by rw [l3 48 0 (by omega), pm_up_at], RI_learn (RI_code hI (nI 0)) l1 l2 l3, kfr_learn l3⟩, rfl⟩
theorem k_M_parties (hg : pm_gok 61 g) (hB : pm_base b) (hw : rh_wf n L) (hm : md_ n L dm) (hI : RI_ n L dm σ) : pm_C b (d + 10) km_M_parties [pm_R 48, pm_I x] g σ τ 0 0 (pm_Wp (fun v σ' => an_ 0 (if x = 0 then nI (oc_ n L 1 n) else nI (oc_ n L 3 n)) v ∧ σ' 48 0 = nI 0 ∧ RI_ n L dm σ' ∧ kfr_ σ σ') τ) := by
  have h8 := hw.1
  have h1 := hI.1.1
  show pm_Y b (d + 9 + 1) km_M_parties 0 false [some (pm_R 48), some (pm_I x)] [] g σ τ 0 0 0 0 _
  by_cases e : x = 0
  · rw [if_pos e]
    refine pm_aload_n d_M_parties_0 rfl ?_
    refine pm_iconst' (nI 0) d_M_parties_1 (by decide) ?_
    refine pm_puti d_M_parties_2 hp_M_43 (hg.s rfl) (hg.i (by decide)) rfl ?_
    refine pm_aload_n d_M_parties_5 rfl ?_
    refine pm_callWp (i := 48) (ci := 5) (rest := []) [] hB d_M_parties_6 hc_M_137 (pm_C_up (show 0 + 7 ≤ d + 9 by omega) (k_M_learn hg hB hw (RI_code hI (nI 0)).1 (RI_code hI (nI 0)).2.2)) (hg.s rfl) (hg.i (by decide)) rfl rfl rfl rfl (Nat.le_of_ble_eq_true rfl) (Nat.le_of_ble_eq_true rfl) (by omega) (by omega) (fun v6 σ₁ hv6 hq6 => ?_)
    obtain ⟨rfl, l1, l2, l3⟩ := hq6
    show pm_Y b _ km_M_parties 9 true [some (pm_R 48), some (pm_I x)] [] g σ₁ τ 0 0 0 0 _
    refine pm_iload_n d_M_parties_9 rfl ?_
    refine pm_if_eq_t 20 d_M_parties_10 rfl e ?_
    refine pm_aload_n d_M_parties_20 rfl ?_
    refine pm_geti' (nI (oc_ n L 1 n)) d_M_parties_21 hf_M_131 (hg.s rfl) (hg.i (by decide)) rfl l1.2.2.2.1 ?_
    exact pm_ireturn d_M_parties_24 rfl (fun _ => rfl) (Nat.le_refl _) (Nat.le_refl _) ⟨⟨an_ok, by rw [l3 48 0 (by omega), pm_up_at], RI_learn (RI_code hI (nI 0)) l1 l2 l3, kfr_learn l3⟩, rfl⟩
  · rw [if_neg e]
    refine pm_aload_n d_M_parties_0 rfl ?_
    refine pm_iconst' (nI 0) d_M_parties_1 (by decide) ?_
    refine pm_puti d_M_parties_2 hp_M_43 (hg.s rfl) (hg.i (by decide)) rfl ?_
    refine pm_aload_n d_M_parties_5 rfl ?_
    refine pm_callWp (i := 48) (ci := 5) (rest := []) [] hB d_M_parties_6 hc_M_137 (pm_C_up (show 0 + 7 ≤ d + 9 by omega) (k_M_learn hg hB hw (RI_code hI (nI 0)).1 (RI_code hI (nI 0)).2.2)) (hg.s rfl) (hg.i (by decide)) rfl rfl rfl rfl (Nat.le_of_ble_eq_true rfl) (Nat.le_of_ble_eq_true rfl) (by omega) (by omega) (fun v6 σ₁ hv6 hq6 => ?_)
    obtain ⟨rfl, l1, l2, l3⟩ := hq6
    show pm_Y b _ km_M_parties 9 true [some (pm_R 48), some (pm_I x)] [] g σ₁ τ 0 0 0 0 _
    refine pm_iload_n d_M_parties_9 rfl ?_
    refine pm_if_eq_f 20 d_M_parties_10 rfl e ?_
    refine pm_aload_n d_M_parties_13 rfl ?_
    refine pm_geti' (nI (oc_ n L 3 n)) d_M_parties_14 hf_M_134 (hg.s rfl) (hg.i (by decide)) rfl l1.2.2.2.2 ?_
    refine pm_goto 24 d_M_parties_17 rfl ?_
    exact pm_ireturn d_M_parties_24 rfl (fun _ => rfl) (Nat.le_refl _) (Nat.le_refl _) ⟨⟨an_ok, by rw [l3 48 0 (by omega), pm_up_at], RI_learn (RI_code hI (nI 0)) l1 l2 l3, kfr_learn l3⟩, rfl⟩
theorem k_M_extreme_1 (hg : pm_gok 61 g) (hB : pm_base b) (hw : rh_wf n L) (hm : md_ n L dm) (hI : RI_ n L dm σ) (hp : p < n) : pm_C b (d + 10) km_M_extreme [pm_R 48, pm_I (nI p), pm_I (nI 1)] g σ τ 0 0 (pm_Wp (fun v σ' => an_ 0 (oI (worst_ n L p)) v ∧ σ' 48 0 = nI 0 ∧ RI_ n L dm σ' ∧ kfr_ σ σ') τ) := by
  have h8 := hw.1
  have h1 := hI.1.1
  have h7 := wf_len hw p
  show pm_Y b (d + 9 + 1) km_M_extreme 0 false [some (pm_R 48), some (pm_I (nI p)), some (pm_I (nI 1)), none, none, none, none] [] g σ τ 0 0 0 0 _
  refine pm_aload_n d_M_extreme_0 rfl ?_
  refine pm_aload_n d_M_extreme_1 rfl ?_
  refine pm_iload_n d_M_extreme_2 rfl ?_
  refine pm_callR (i := 48) (ci := 5) (rest := [pm_R 48]) [pm_I (nI p)] hB d_M_extreme_3 hc_M_62 (y_M_isPerson hg hB h8 h1 hp) (hg.s rfl) (hg.i (by decide)) rfl rfl rfl rfl (Nat.le_of_ble_eq_true rfl) (Nat.le_of_ble_eq_true rfl) (by omega) (by omega) ?_
  refine pm_if_eq_f 13 d_M_extreme_6 rfl (by decide) ?_
  refine pm_iconst' (nI 0) d_M_extreme_9 (by decide) ?_
  refine pm_goto 14 d_M_extreme_10 rfl ?_
  refine pm_puti d_M_extreme_14 hp_M_43 (hg.s rfl) (hg.i (by decide)) rfl ?_
  refine pm_aload_n d_M_extreme_17 rfl ?_
  refine pm_geti' (nI 0) d_M_extreme_18 hf_M_43 (hg.s rfl) (hg.i (by decide)) rfl pm_up_at ?_
  refine pm_if_le_t 26 d_M_extreme_21 rfl (by decide) ?_
  refine pm_aload_n d_M_extreme_26 rfl ?_
  refine pm_callWp (i := 48) (ci := 5) (rest := []) [] hB d_M_extreme_27 hc_M_137 (pm_C_up (show 0 + 7 ≤ d + 9 by omega) (k_M_learn hg hB hw (RI_code hI (nI 0)).1 (RI_code hI (nI 0)).2.2)) (hg.s rfl) (hg.i (by decide)) rfl rfl rfl rfl (Nat.le_of_ble_eq_true rfl) (Nat.le_of_ble_eq_true rfl) (by omega) (by omega) (fun v27 σ₁ hv27 hq27 => ?_)
  obtain ⟨rfl, l1, l2, l3⟩ := hq27
  show pm_Y b _ km_M_extreme 30 true [some (pm_R 48), some (pm_I (nI p)), some (pm_I (nI 1)), none, none, none, none] [] g σ₁ τ 0 0 0 0 _
  refine pm_iconst' (-1) d_M_extreme_30 (by decide) ?_
  refine pm_istore_n d_M_extreme_31 (by decide) ?_
  refine pm_iconst' (nI 0) d_M_extreme_32 (by decide) ?_
  refine pm_istore d_M_extreme_33 (by decide) ?_
  -- at 35: lo=[some (pm_R 48), some (pm_I (nI p)), some (pm_I (nI 1)), some (pm_I (-1)), some (pm_I (nI 0)), none, none] st=[]
  have hI1 := RI_learn (RI_code hI (nI 0)) l1 l2 l3
  have hend : oI (eb_ true ((SA_ n L).2.1 p) ((L p ++ [p]).take ((L p).length + 1))) = oI (worst_ n L p) := by
    unfold eb_ worst_
    rw [if_pos rfl, List.take_of_length_le (by rw [List.length_append]; exact Nat.le_refl _)]
  refine pm_for ((L p).length + 1) (fun c (_ : Unit) => ∀ l5 l6 : Option pV, pm_Y b (d + 9 + 1) km_M_extreme 35 true [some (pm_R 48), some (pm_I (nI p)), some (pm_I (nI 1)), some (pm_I (oI (eb_ true ((SA_ n L).2.1 p) ((L p ++ [p]).take c)))), some (pm_I (nI c)), l5, l6] [] g σ₁ τ 0 0 0 0 (pm_Wp (fun v σ' => an_ 0 (oI (worst_ n L p)) v ∧ σ' 48 0 = nI 0 ∧ RI_ n L dm σ' ∧ kfr_ σ σ') τ)) (fun _ _ => True) (fun c _ hc _ ih l5 l6 => ?_) (fun _ _ l5 l6 => ?_) ((L p).length + 1) 0 () (by omega) trivial none none
  · have hcnt := SA_cnt (q := gw_cho L p c) hw hp
    by_cases e : 0 < (SA_ n L).2.1 p (gw_cho L p c)
    · skip
      refine pm_iload d_M_extreme_35 rfl ?_
      refine pm_aload_n d_M_extreme_37 rfl ?_
      refine pm_getr d_M_extreme_38 hf_M_7 (hg.s rfl) (hg.i (by decide)) rfl (hg.r (by decide) rfl) ?_
      refine pm_iload_n d_M_extreme_41 rfl ?_
      refine pm_iaload' p (nI ((L p).length)) d_M_extreme_42 (hg.s rfl) (hg.i (by decide)) rfl (by omega) (by decide) (hI1.1.2.1 p hp) ?_
      refine pm_icmp_gt_f 104 d_M_extreme_43 rfl (fun z => by have := (nI_ltI (by omega) (by omega)).mp z; omega) ?_
      refine pm_aload_n d_M_extreme_46 rfl ?_
      refine pm_iload_n d_M_extreme_47 rfl ?_
      refine pm_iload d_M_extreme_48 rfl ?_
      refine pm_callR (i := 48) (ci := 5) (rest := []) [pm_I (nI p), pm_I (nI c)] hB d_M_extreme_50 hc_M_91 (k_M_chosen hg hB hw hI1.1 hp (by omega)) (hg.s rfl) (hg.i (by decide)) rfl rfl rfl rfl (Nat.le_of_ble_eq_true rfl) (Nat.le_of_ble_eq_true rfl) (by omega) (by omega) ?_
      refine pm_istore d_M_extreme_53 (by decide) ?_
      refine pm_aload_n d_M_extreme_55 rfl ?_
      refine pm_getr d_M_extreme_56 hf_M_19 (hg.s rfl) (hg.i (by decide)) rfl (hg.r (by decide) rfl) ?_
      refine pm_bipush' (nI 8) d_M_extreme_59 (by decide) ?_
      refine pm_iload_n d_M_extreme_61 rfl ?_
      refine pm_imulN d_M_extreme_62 ?_
      refine pm_iload d_M_extreme_63 rfl ?_
      refine pm_iaddN d_M_extreme_65 ?_
      refine pm_iaload' ((8 * p) + (gw_cho L p c)) (nI ((SA_ n L).2.1 p (gw_cho L p c))) d_M_extreme_66 (hg.s rfl) (hg.i (by decide)) rfl (by have := cho_lt hw hp c; omega) (by decide) (l1.1.2.1 p _ hp (cho_lt hw hp c)) ?_
      refine pm_if_le_f 74 d_M_extreme_67 rfl (nI_gt0 e (by omega)) ?_
      refine pm_iconst' (nI 1) d_M_extreme_70 (by decide) ?_
      refine pm_goto 75 d_M_extreme_71 rfl ?_
      refine pm_istore d_M_extreme_75 (by decide) ?_
      refine pm_iload d_M_extreme_77 rfl ?_
      refine pm_if_eq_f 96 d_M_extreme_79 rfl (by decide) ?_
      refine pm_iload_n d_M_extreme_82 rfl ?_
      refine pm_if_ne_t 91 d_M_extreme_83 rfl (by decide) ?_
      refine pm_iload d_M_extreme_91 rfl ?_
      refine pm_goto 97 d_M_extreme_93 rfl ?_
      refine pm_istore_n d_M_extreme_97 (by decide) ?_
      refine pm_iinc' (nI (c + 1)) d_M_extreme_98 (by decide) rfl (pm_inc _) ?_
      refine pm_goto 35 d_M_extreme_101 rfl ?_
      -- at 35: lo=[some (pm_R 48), some (pm_I (nI p)), some (pm_I (nI 1)), some (pm_I (nI (gw_cho L p c))), some (pm_I (nI (c + 1))), some (pm_I (nI (gw_cho L p c))), some (pm_I (nI 1))] st=[]
      have h9 := ih () trivial (some (pm_I (nI (gw_cho L p c)))) (some (pm_I (nI 1)))
      rw [show eb_ true ((SA_ n L).2.1 p) ((L p ++ [p]).take (c + 1)) = some (gw_cho L p c) by unfold eb_; rw [if_pos rfl, cho_take (by omega), ff_rev, if_pos e]] at h9
      exact h9
    · skip
      refine pm_iload d_M_extreme_35 rfl ?_
      refine pm_aload_n d_M_extreme_37 rfl ?_
      refine pm_getr d_M_extreme_38 hf_M_7 (hg.s rfl) (hg.i (by decide)) rfl (hg.r (by decide) rfl) ?_
      refine pm_iload_n d_M_extreme_41 rfl ?_
      refine pm_iaload' p (nI ((L p).length)) d_M_extreme_42 (hg.s rfl) (hg.i (by decide)) rfl (by omega) (by decide) (hI1.1.2.1 p hp) ?_
      refine pm_icmp_gt_f 104 d_M_extreme_43 rfl (fun z => by have := (nI_ltI (by omega) (by omega)).mp z; omega) ?_
      refine pm_aload_n d_M_extreme_46 rfl ?_
      refine pm_iload_n d_M_extreme_47 rfl ?_
      refine pm_iload d_M_extreme_48 rfl ?_
      refine pm_callR (i := 48) (ci := 5) (rest := []) [pm_I (nI p), pm_I (nI c)] hB d_M_extreme_50 hc_M_91 (k_M_chosen hg hB hw hI1.1 hp (by omega)) (hg.s rfl) (hg.i (by decide)) rfl rfl rfl rfl (Nat.le_of_ble_eq_true rfl) (Nat.le_of_ble_eq_true rfl) (by omega) (by omega) ?_
      refine pm_istore d_M_extreme_53 (by decide) ?_
      refine pm_aload_n d_M_extreme_55 rfl ?_
      refine pm_getr d_M_extreme_56 hf_M_19 (hg.s rfl) (hg.i (by decide)) rfl (hg.r (by decide) rfl) ?_
      refine pm_bipush' (nI 8) d_M_extreme_59 (by decide) ?_
      refine pm_iload_n d_M_extreme_61 rfl ?_
      refine pm_imulN d_M_extreme_62 ?_
      refine pm_iload d_M_extreme_63 rfl ?_
      refine pm_iaddN d_M_extreme_65 ?_
      refine pm_iaload' ((8 * p) + (gw_cho L p c)) (nI ((SA_ n L).2.1 p (gw_cho L p c))) d_M_extreme_66 (hg.s rfl) (hg.i (by decide)) rfl (by have := cho_lt hw hp c; omega) (by decide) (l1.1.2.1 p _ hp (cho_lt hw hp c)) ?_
      refine pm_if_le_t 74 d_M_extreme_67 rfl (by rw [show (SA_ n L).2.1 p (gw_cho L p c) = 0 by omega]; decide) ?_
      refine pm_iconst' (nI 0) d_M_extreme_74 (by decide) ?_
      refine pm_istore d_M_extreme_75 (by decide) ?_
      refine pm_iload d_M_extreme_77 rfl ?_
      refine pm_if_eq_t 96 d_M_extreme_79 rfl (by decide) ?_
      refine pm_iload_n d_M_extreme_96 rfl ?_
      refine pm_istore_n d_M_extreme_97 (by decide) ?_
      refine pm_iinc' (nI (c + 1)) d_M_extreme_98 (by decide) rfl (pm_inc _) ?_
      refine pm_goto 35 d_M_extreme_101 rfl ?_
      -- at 35: lo=[some (pm_R 48), some (pm_I (nI p)), some (pm_I (nI 1)), some (pm_I (oI (eb_ true ((SA_ n L).2.1 p) ((L p ++ [p]).take c)))), some (pm_I (nI (c + 1))), some (pm_I (nI (gw_cho L p c))), some (pm_I (nI 0))] st=[]
      have h9 := ih () trivial (some (pm_I (nI (gw_cho L p c)))) (some (pm_I (nI 0)))
      rw [show eb_ true ((SA_ n L).2.1 p) ((L p ++ [p]).take (c + 1)) = eb_ true ((SA_ n L).2.1 p) ((L p ++ [p]).take c) by unfold eb_; rw [if_pos rfl, cho_take (by omega), ff_rev, if_neg e]; rw [if_pos rfl]] at h9
      exact h9
  · skip
    refine pm_iload d_M_extreme_35 rfl ?_
    refine pm_aload_n d_M_extreme_37 rfl ?_
    refine pm_getr d_M_extreme_38 hf_M_7 (hg.s rfl) (hg.i (by decide)) rfl (hg.r (by decide) rfl) ?_
    refine pm_iload_n d_M_extreme_41 rfl ?_
    refine pm_iaload' p (nI ((L p).length)) d_M_extreme_42 (hg.s rfl) (hg.i (by decide)) rfl (by omega) (by decide) (hI1.1.2.1 p hp) ?_
    refine pm_icmp_gt_t 104 d_M_extreme_43 rfl ((nI_ltI (by omega) (by omega)).mpr (by omega)) ?_
    refine pm_iload_n d_M_extreme_104 rfl ?_
    exact pm_ireturn d_M_extreme_105 rfl (fun _ => rfl) (Nat.le_refl _) (Nat.le_refl _) ⟨⟨⟨_, rfl, fun _ => hend⟩, by rw [l3 48 0 (by omega), pm_up_at], hI1, kfr_learn l3⟩, rfl⟩
theorem k_M_extreme_0 (hg : pm_gok 61 g) (hB : pm_base b) (hw : rh_wf n L) (hm : md_ n L dm) (hI : RI_ n L dm σ) (hp : p < n) : pm_C b (d + 10) km_M_extreme [pm_R 48, pm_I (nI p), pm_I (nI 0)] g σ τ 0 0 (pm_Wp (fun v σ' => an_ 0 (oI (best_ n L p)) v ∧ σ' 48 0 = nI 0 ∧ RI_ n L dm σ' ∧ kfr_ σ σ') τ) := by
  have h8 := hw.1
  have h1 := hI.1.1
  have h7 := wf_len hw p
  show pm_Y b (d + 9 + 1) km_M_extreme 0 false [some (pm_R 48), some (pm_I (nI p)), some (pm_I (nI 0)), none, none, none, none] [] g σ τ 0 0 0 0 _
  refine pm_aload_n d_M_extreme_0 rfl ?_
  refine pm_aload_n d_M_extreme_1 rfl ?_
  refine pm_iload_n d_M_extreme_2 rfl ?_
  refine pm_callR (i := 48) (ci := 5) (rest := [pm_R 48]) [pm_I (nI p)] hB d_M_extreme_3 hc_M_62 (y_M_isPerson hg hB h8 h1 hp) (hg.s rfl) (hg.i (by decide)) rfl rfl rfl rfl (Nat.le_of_ble_eq_true rfl) (Nat.le_of_ble_eq_true rfl) (by omega) (by omega) ?_
  refine pm_if_eq_f 13 d_M_extreme_6 rfl (by decide) ?_
  refine pm_iconst' (nI 0) d_M_extreme_9 (by decide) ?_
  refine pm_goto 14 d_M_extreme_10 rfl ?_
  refine pm_puti d_M_extreme_14 hp_M_43 (hg.s rfl) (hg.i (by decide)) rfl ?_
  refine pm_aload_n d_M_extreme_17 rfl ?_
  refine pm_geti' (nI 0) d_M_extreme_18 hf_M_43 (hg.s rfl) (hg.i (by decide)) rfl pm_up_at ?_
  refine pm_if_le_t 26 d_M_extreme_21 rfl (by decide) ?_
  refine pm_aload_n d_M_extreme_26 rfl ?_
  refine pm_callWp (i := 48) (ci := 5) (rest := []) [] hB d_M_extreme_27 hc_M_137 (pm_C_up (show 0 + 7 ≤ d + 9 by omega) (k_M_learn hg hB hw (RI_code hI (nI 0)).1 (RI_code hI (nI 0)).2.2)) (hg.s rfl) (hg.i (by decide)) rfl rfl rfl rfl (Nat.le_of_ble_eq_true rfl) (Nat.le_of_ble_eq_true rfl) (by omega) (by omega) (fun v27 σ₁ hv27 hq27 => ?_)
  obtain ⟨rfl, l1, l2, l3⟩ := hq27
  show pm_Y b _ km_M_extreme 30 true [some (pm_R 48), some (pm_I (nI p)), some (pm_I (nI 0)), none, none, none, none] [] g σ₁ τ 0 0 0 0 _
  refine pm_iconst' (-1) d_M_extreme_30 (by decide) ?_
  refine pm_istore_n d_M_extreme_31 (by decide) ?_
  refine pm_iconst' (nI 0) d_M_extreme_32 (by decide) ?_
  refine pm_istore d_M_extreme_33 (by decide) ?_
  -- at 35: lo=[some (pm_R 48), some (pm_I (nI p)), some (pm_I (nI 0)), some (pm_I (-1)), some (pm_I (nI 0)), none, none] st=[]
  have hI1 := RI_learn (RI_code hI (nI 0)) l1 l2 l3
  have hend : oI (eb_ false ((SA_ n L).2.1 p) ((L p ++ [p]).take ((L p).length + 1))) = oI (best_ n L p) := by
    unfold eb_ best_
    rw [if_neg (by decide), List.take_of_length_le (by rw [List.length_append]; exact Nat.le_refl _)]
  refine pm_for ((L p).length + 1) (fun c (_ : Unit) => ∀ l5 l6 : Option pV, pm_Y b (d + 9 + 1) km_M_extreme 35 true [some (pm_R 48), some (pm_I (nI p)), some (pm_I (nI 0)), some (pm_I (oI (eb_ false ((SA_ n L).2.1 p) ((L p ++ [p]).take c)))), some (pm_I (nI c)), l5, l6] [] g σ₁ τ 0 0 0 0 (pm_Wp (fun v σ' => an_ 0 (oI (best_ n L p)) v ∧ σ' 48 0 = nI 0 ∧ RI_ n L dm σ' ∧ kfr_ σ σ') τ)) (fun _ _ => True) (fun c _ hc _ ih l5 l6 => ?_) (fun _ _ l5 l6 => ?_) ((L p).length + 1) 0 () (by omega) trivial none none
  · have hcnt := SA_cnt (q := gw_cho L p c) hw hp
    have hq2 : ∀ q0, eb_ false ((SA_ n L).2.1 p) ((L p ++ [p]).take c) = some q0 → q0 < n := fun q0 hq0 => by
      unfold eb_ ff_ at hq0
      rw [if_neg (by decide)] at hq0
      have h9 := List.mem_of_mem_take (List.mem_of_find?_eq_some hq0)
      rcases List.mem_append.mp h9 with z | z
      · exact ((hw.2.1 p hp).2 q0 z).1
      · rw [List.mem_singleton.mp z]; exact hp
    by_cases e : 0 < (SA_ n L).2.1 p (gw_cho L p c)
    · cases e2 : eb_ false ((SA_ n L).2.1 p) ((L p ++ [p]).take c) with
      | some q0 =>
        refine pm_iload d_M_extreme_35 rfl ?_
        refine pm_aload_n d_M_extreme_37 rfl ?_
        refine pm_getr d_M_extreme_38 hf_M_7 (hg.s rfl) (hg.i (by decide)) rfl (hg.r (by decide) rfl) ?_
        refine pm_iload_n d_M_extreme_41 rfl ?_
        refine pm_iaload' p (nI ((L p).length)) d_M_extreme_42 (hg.s rfl) (hg.i (by decide)) rfl (by omega) (by decide) (hI1.1.2.1 p hp) ?_
        refine pm_icmp_gt_f 104 d_M_extreme_43 rfl (fun z => by have := (nI_ltI (by omega) (by omega)).mp z; omega) ?_
        refine pm_aload_n d_M_extreme_46 rfl ?_
        refine pm_iload_n d_M_extreme_47 rfl ?_
        refine pm_iload d_M_extreme_48 rfl ?_
        refine pm_callR (i := 48) (ci := 5) (rest := []) [pm_I (nI p), pm_I (nI c)] hB d_M_extreme_50 hc_M_91 (k_M_chosen hg hB hw hI1.1 hp (by omega)) (hg.s rfl) (hg.i (by decide)) rfl rfl rfl rfl (Nat.le_of_ble_eq_true rfl) (Nat.le_of_ble_eq_true rfl) (by omega) (by omega) ?_
        refine pm_istore d_M_extreme_53 (by decide) ?_
        refine pm_aload_n d_M_extreme_55 rfl ?_
        refine pm_getr d_M_extreme_56 hf_M_19 (hg.s rfl) (hg.i (by decide)) rfl (hg.r (by decide) rfl) ?_
        refine pm_bipush' (nI 8) d_M_extreme_59 (by decide) ?_
        refine pm_iload_n d_M_extreme_61 rfl ?_
        refine pm_imulN d_M_extreme_62 ?_
        refine pm_iload d_M_extreme_63 rfl ?_
        refine pm_iaddN d_M_extreme_65 ?_
        refine pm_iaload' ((8 * p) + (gw_cho L p c)) (nI ((SA_ n L).2.1 p (gw_cho L p c))) d_M_extreme_66 (hg.s rfl) (hg.i (by decide)) rfl (by have := cho_lt hw hp c; omega) (by decide) (l1.1.2.1 p _ hp (cho_lt hw hp c)) ?_
        refine pm_if_le_f 74 d_M_extreme_67 rfl (nI_gt0 e (by omega)) ?_
        refine pm_iconst' (nI 1) d_M_extreme_70 (by decide) ?_
        refine pm_goto 75 d_M_extreme_71 rfl ?_
        refine pm_istore d_M_extreme_75 (by decide) ?_
        refine pm_iload d_M_extreme_77 rfl ?_
        refine pm_if_eq_f 96 d_M_extreme_79 rfl (by decide) ?_
        refine pm_iload_n d_M_extreme_82 rfl ?_
        refine pm_if_ne_f 91 d_M_extreme_83 rfl (by decide) ?_
        refine pm_iload_n d_M_extreme_86 rfl ?_
        refine pm_iconst' (-1) d_M_extreme_87 (by decide) ?_
        refine pm_icmp_ne_t 96 d_M_extreme_88 rfl (by exact nI_m1 (by have := hq2 q0 e2; omega)) ?_
        refine pm_iload_n d_M_extreme_96 rfl ?_
        refine pm_istore_n d_M_extreme_97 (by decide) ?_
        refine pm_iinc' (nI (c + 1)) d_M_extreme_98 (by decide) rfl (pm_inc _) ?_
        refine pm_goto 35 d_M_extreme_101 rfl ?_
        -- at 35: lo=[some (pm_R 48), some (pm_I (nI p)), some (pm_I (nI 0)), some (pm_I (@OI)), some (pm_I (nI (c + 1))), some (pm_I (nI (gw_cho L p c))), some (pm_I (nI 1))] st=[]
        have h9 := ih () trivial (some (pm_I (nI (gw_cho L p c)))) (some (pm_I (nI 1)))
        rw [show eb_ false ((SA_ n L).2.1 p) ((L p ++ [p]).take (c + 1)) = some q0 by unfold eb_; rw [if_neg (by decide), cho_take (by omega), ff_one]; unfold eb_ at e2; rw [if_neg (by decide)] at e2; rw [e2]] at h9
        exact h9
      | none =>
        refine pm_iload d_M_extreme_35 rfl ?_
        refine pm_aload_n d_M_extreme_37 rfl ?_
        refine pm_getr d_M_extreme_38 hf_M_7 (hg.s rfl) (hg.i (by decide)) rfl (hg.r (by decide) rfl) ?_
        refine pm_iload_n d_M_extreme_41 rfl ?_
        refine pm_iaload' p (nI ((L p).length)) d_M_extreme_42 (hg.s rfl) (hg.i (by decide)) rfl (by omega) (by decide) (hI1.1.2.1 p hp) ?_
        refine pm_icmp_gt_f 104 d_M_extreme_43 rfl (fun z => by have := (nI_ltI (by omega) (by omega)).mp z; omega) ?_
        refine pm_aload_n d_M_extreme_46 rfl ?_
        refine pm_iload_n d_M_extreme_47 rfl ?_
        refine pm_iload d_M_extreme_48 rfl ?_
        refine pm_callR (i := 48) (ci := 5) (rest := []) [pm_I (nI p), pm_I (nI c)] hB d_M_extreme_50 hc_M_91 (k_M_chosen hg hB hw hI1.1 hp (by omega)) (hg.s rfl) (hg.i (by decide)) rfl rfl rfl rfl (Nat.le_of_ble_eq_true rfl) (Nat.le_of_ble_eq_true rfl) (by omega) (by omega) ?_
        refine pm_istore d_M_extreme_53 (by decide) ?_
        refine pm_aload_n d_M_extreme_55 rfl ?_
        refine pm_getr d_M_extreme_56 hf_M_19 (hg.s rfl) (hg.i (by decide)) rfl (hg.r (by decide) rfl) ?_
        refine pm_bipush' (nI 8) d_M_extreme_59 (by decide) ?_
        refine pm_iload_n d_M_extreme_61 rfl ?_
        refine pm_imulN d_M_extreme_62 ?_
        refine pm_iload d_M_extreme_63 rfl ?_
        refine pm_iaddN d_M_extreme_65 ?_
        refine pm_iaload' ((8 * p) + (gw_cho L p c)) (nI ((SA_ n L).2.1 p (gw_cho L p c))) d_M_extreme_66 (hg.s rfl) (hg.i (by decide)) rfl (by have := cho_lt hw hp c; omega) (by decide) (l1.1.2.1 p _ hp (cho_lt hw hp c)) ?_
        refine pm_if_le_f 74 d_M_extreme_67 rfl (nI_gt0 e (by omega)) ?_
        refine pm_iconst' (nI 1) d_M_extreme_70 (by decide) ?_
        refine pm_goto 75 d_M_extreme_71 rfl ?_
        refine pm_istore d_M_extreme_75 (by decide) ?_
        refine pm_iload d_M_extreme_77 rfl ?_
        refine pm_if_eq_f 96 d_M_extreme_79 rfl (by decide) ?_
        refine pm_iload_n d_M_extreme_82 rfl ?_
        refine pm_if_ne_f 91 d_M_extreme_83 rfl (by decide) ?_
        refine pm_iload_n d_M_extreme_86 rfl ?_
        refine pm_iconst' (-1) d_M_extreme_87 (by decide) ?_
        refine pm_icmp_ne_f 96 d_M_extreme_88 rfl rfl ?_
        refine pm_iload d_M_extreme_91 rfl ?_
        refine pm_goto 97 d_M_extreme_93 rfl ?_
        refine pm_istore_n d_M_extreme_97 (by decide) ?_
        refine pm_iinc' (nI (c + 1)) d_M_extreme_98 (by decide) rfl (pm_inc _) ?_
        refine pm_goto 35 d_M_extreme_101 rfl ?_
        -- at 35: lo=[some (pm_R 48), some (pm_I (nI p)), some (pm_I (nI 0)), some (pm_I (nI (gw_cho L p c))), some (pm_I (nI (c + 1))), some (pm_I (nI (gw_cho L p c))), some (pm_I (nI 1))] st=[]
        have h9 := ih () trivial (some (pm_I (nI (gw_cho L p c)))) (some (pm_I (nI 1)))
        rw [show eb_ false ((SA_ n L).2.1 p) ((L p ++ [p]).take (c + 1)) = some (gw_cho L p c) by unfold eb_; rw [if_neg (by decide), cho_take (by omega), ff_one]; unfold eb_ at e2; rw [if_neg (by decide)] at e2; rw [e2]; show (if 0 < (SA_ n L).2.1 p (gw_cho L p c) then some (gw_cho L p c) else none) = _; rw [if_pos e]] at h9
        exact h9
    · cases e2 : eb_ false ((SA_ n L).2.1 p) ((L p ++ [p]).take c) with
      | some q0 =>
        refine pm_iload d_M_extreme_35 rfl ?_
        refine pm_aload_n d_M_extreme_37 rfl ?_
        refine pm_getr d_M_extreme_38 hf_M_7 (hg.s rfl) (hg.i (by decide)) rfl (hg.r (by decide) rfl) ?_
        refine pm_iload_n d_M_extreme_41 rfl ?_
        refine pm_iaload' p (nI ((L p).length)) d_M_extreme_42 (hg.s rfl) (hg.i (by decide)) rfl (by omega) (by decide) (hI1.1.2.1 p hp) ?_
        refine pm_icmp_gt_f 104 d_M_extreme_43 rfl (fun z => by have := (nI_ltI (by omega) (by omega)).mp z; omega) ?_
        refine pm_aload_n d_M_extreme_46 rfl ?_
        refine pm_iload_n d_M_extreme_47 rfl ?_
        refine pm_iload d_M_extreme_48 rfl ?_
        refine pm_callR (i := 48) (ci := 5) (rest := []) [pm_I (nI p), pm_I (nI c)] hB d_M_extreme_50 hc_M_91 (k_M_chosen hg hB hw hI1.1 hp (by omega)) (hg.s rfl) (hg.i (by decide)) rfl rfl rfl rfl (Nat.le_of_ble_eq_true rfl) (Nat.le_of_ble_eq_true rfl) (by omega) (by omega) ?_
        refine pm_istore d_M_extreme_53 (by decide) ?_
        refine pm_aload_n d_M_extreme_55 rfl ?_
        refine pm_getr d_M_extreme_56 hf_M_19 (hg.s rfl) (hg.i (by decide)) rfl (hg.r (by decide) rfl) ?_
        refine pm_bipush' (nI 8) d_M_extreme_59 (by decide) ?_
        refine pm_iload_n d_M_extreme_61 rfl ?_
        refine pm_imulN d_M_extreme_62 ?_
        refine pm_iload d_M_extreme_63 rfl ?_
        refine pm_iaddN d_M_extreme_65 ?_
        refine pm_iaload' ((8 * p) + (gw_cho L p c)) (nI ((SA_ n L).2.1 p (gw_cho L p c))) d_M_extreme_66 (hg.s rfl) (hg.i (by decide)) rfl (by have := cho_lt hw hp c; omega) (by decide) (l1.1.2.1 p _ hp (cho_lt hw hp c)) ?_
        refine pm_if_le_t 74 d_M_extreme_67 rfl (by rw [show (SA_ n L).2.1 p (gw_cho L p c) = 0 by omega]; decide) ?_
        refine pm_iconst' (nI 0) d_M_extreme_74 (by decide) ?_
        refine pm_istore d_M_extreme_75 (by decide) ?_
        refine pm_iload d_M_extreme_77 rfl ?_
        refine pm_if_eq_t 96 d_M_extreme_79 rfl (by decide) ?_
        refine pm_iload_n d_M_extreme_96 rfl ?_
        refine pm_istore_n d_M_extreme_97 (by decide) ?_
        refine pm_iinc' (nI (c + 1)) d_M_extreme_98 (by decide) rfl (pm_inc _) ?_
        refine pm_goto 35 d_M_extreme_101 rfl ?_
        -- at 35: lo=[some (pm_R 48), some (pm_I (nI p)), some (pm_I (nI 0)), some (pm_I (@OI)), some (pm_I (nI (c + 1))), some (pm_I (nI (gw_cho L p c))), some (pm_I (nI 0))] st=[]
        have h9 := ih () trivial (some (pm_I (nI (gw_cho L p c)))) (some (pm_I (nI 0)))
        rw [show eb_ false ((SA_ n L).2.1 p) ((L p ++ [p]).take (c + 1)) = some q0 by unfold eb_; rw [if_neg (by decide), cho_take (by omega), ff_one]; unfold eb_ at e2; rw [if_neg (by decide)] at e2; rw [e2]] at h9
        exact h9
      | none =>
        refine pm_iload d_M_extreme_35 rfl ?_
        refine pm_aload_n d_M_extreme_37 rfl ?_
        refine pm_getr d_M_extreme_38 hf_M_7 (hg.s rfl) (hg.i (by decide)) rfl (hg.r (by decide) rfl) ?_
        refine pm_iload_n d_M_extreme_41 rfl ?_
        refine pm_iaload' p (nI ((L p).length)) d_M_extreme_42 (hg.s rfl) (hg.i (by decide)) rfl (by omega) (by decide) (hI1.1.2.1 p hp) ?_
        refine pm_icmp_gt_f 104 d_M_extreme_43 rfl (fun z => by have := (nI_ltI (by omega) (by omega)).mp z; omega) ?_
        refine pm_aload_n d_M_extreme_46 rfl ?_
        refine pm_iload_n d_M_extreme_47 rfl ?_
        refine pm_iload d_M_extreme_48 rfl ?_
        refine pm_callR (i := 48) (ci := 5) (rest := []) [pm_I (nI p), pm_I (nI c)] hB d_M_extreme_50 hc_M_91 (k_M_chosen hg hB hw hI1.1 hp (by omega)) (hg.s rfl) (hg.i (by decide)) rfl rfl rfl rfl (Nat.le_of_ble_eq_true rfl) (Nat.le_of_ble_eq_true rfl) (by omega) (by omega) ?_
        refine pm_istore d_M_extreme_53 (by decide) ?_
        refine pm_aload_n d_M_extreme_55 rfl ?_
        refine pm_getr d_M_extreme_56 hf_M_19 (hg.s rfl) (hg.i (by decide)) rfl (hg.r (by decide) rfl) ?_
        refine pm_bipush' (nI 8) d_M_extreme_59 (by decide) ?_
        refine pm_iload_n d_M_extreme_61 rfl ?_
        refine pm_imulN d_M_extreme_62 ?_
        refine pm_iload d_M_extreme_63 rfl ?_
        refine pm_iaddN d_M_extreme_65 ?_
        refine pm_iaload' ((8 * p) + (gw_cho L p c)) (nI ((SA_ n L).2.1 p (gw_cho L p c))) d_M_extreme_66 (hg.s rfl) (hg.i (by decide)) rfl (by have := cho_lt hw hp c; omega) (by decide) (l1.1.2.1 p _ hp (cho_lt hw hp c)) ?_
        refine pm_if_le_t 74 d_M_extreme_67 rfl (by rw [show (SA_ n L).2.1 p (gw_cho L p c) = 0 by omega]; decide) ?_
        refine pm_iconst' (nI 0) d_M_extreme_74 (by decide) ?_
        refine pm_istore d_M_extreme_75 (by decide) ?_
        refine pm_iload d_M_extreme_77 rfl ?_
        refine pm_if_eq_t 96 d_M_extreme_79 rfl (by decide) ?_
        refine pm_iload_n d_M_extreme_96 rfl ?_
        refine pm_istore_n d_M_extreme_97 (by decide) ?_
        refine pm_iinc' (nI (c + 1)) d_M_extreme_98 (by decide) rfl (pm_inc _) ?_
        refine pm_goto 35 d_M_extreme_101 rfl ?_
        -- at 35: lo=[some (pm_R 48), some (pm_I (nI p)), some (pm_I (nI 0)), some (pm_I (@OI)), some (pm_I (nI (c + 1))), some (pm_I (nI (gw_cho L p c))), some (pm_I (nI 0))] st=[]
        have h9 := ih () trivial (some (pm_I (nI (gw_cho L p c)))) (some (pm_I (nI 0)))
        rw [show eb_ false ((SA_ n L).2.1 p) ((L p ++ [p]).take (c + 1)) = none by unfold eb_; rw [if_neg (by decide), cho_take (by omega), ff_one]; unfold eb_ at e2; rw [if_neg (by decide)] at e2; rw [e2]; show (if 0 < (SA_ n L).2.1 p (gw_cho L p c) then some (gw_cho L p c) else none) = _; rw [if_neg e]] at h9
        exact h9
  · skip
    refine pm_iload d_M_extreme_35 rfl ?_
    refine pm_aload_n d_M_extreme_37 rfl ?_
    refine pm_getr d_M_extreme_38 hf_M_7 (hg.s rfl) (hg.i (by decide)) rfl (hg.r (by decide) rfl) ?_
    refine pm_iload_n d_M_extreme_41 rfl ?_
    refine pm_iaload' p (nI ((L p).length)) d_M_extreme_42 (hg.s rfl) (hg.i (by decide)) rfl (by omega) (by decide) (hI1.1.2.1 p hp) ?_
    refine pm_icmp_gt_t 104 d_M_extreme_43 rfl ((nI_ltI (by omega) (by omega)).mpr (by omega)) ?_
    refine pm_iload_n d_M_extreme_104 rfl ?_
    exact pm_ireturn d_M_extreme_105 rfl (fun _ => rfl) (Nat.le_refl _) (Nat.le_refl _) ⟨⟨⟨_, rfl, fun _ => hend⟩, by rw [l3 48 0 (by omega), pm_up_at], hI1, kfr_learn l3⟩, rfl⟩
end MB
